theorem ag_big {ln : Int32} {sz : Nat} {l i : Int32} {m : Nat} (hsz : sz ≤ 60) (hm : m < 2 ^ 31) (h : ag ln sz l i (nI m) = 0) : ¬ ln = -1 ∧ ln = l ∧ ∃ ii, i = nI ii ∧ ii + m ≤ sz := by
  by_cases hb : m ≤ 1000
  · exact ag_fine hsz hb h
  · exfalso
    unfold ag at h
    split at h
    · exact absurd h (by decide)
    · split at h
      · exact absurd h (by decide)
      · split at h
        · exact absurd h (by decide)
        · split at h
          · exact absurd h (by decide)
          · next h4 =>
            obtain ⟨ii, hii, rfl⟩ := ix_le (by omega) (fun z => h4 (Or.inl z)) (fun z => h4 (Or.inr (Or.inl z)))
            exact h4 (Or.inr (Or.inr (by rw [pk_sub hii, nI_ltI (by omega) (by omega)]; omega)))
set_option maxHeartbeats 4000000 in
set_option maxRecDepth 20000 in
theorem c_Mod_tuesday (G : ZG) (o : Nat) (ad : Nat → Nat) (F : Nat → Int32) (R : Nat → Nat → Int32) (X : va_W) (S : ZA) (hm : mrp S F R) (sh l i n : Int32) : ZM G y_Mod_tuesday b_Mod_tuesday 8 (some .int) r_Mod_tuesday [.ref o, .int sh, .int l, .int i, .int n] (mw G o ad F R ++ X) (mpost G o ad X (ap_tue S sh l i n).1 (ap_tue S sh l i n).2) := by
  refine ZM.of "SameTuesdayModel" "tuesday" rfl rfl (by decide) (Nat.le_of_ble_eq_true rfl) (fun Y C hq => ?_)
  change ZV G Y 0 0 0 [(0, .ref o), (1, .int sh), (2, .int l), (3, .int i), (4, .int n)] [] (mw G o ad F R ++ X)
  refine zx_aload C d_Mod_tuesday_0 rfl ?_
  refine zx_ic C d_Mod_tuesday_1 ?_
  refine zm_p C p_Mod_78_12 d_Mod_tuesday_2 zb_fit_i (Nat.le_of_ble_eq_true rfl) zms_0 ?_
  refine zx_iload C d_Mod_tuesday_5 rfl ?_
  refine zr_di (zr_S C l_Mod_96 d_Mod_tuesday_6 (As := [_]) rfl rfl (Nat.le_of_ble_eq_true rfl) (c_Mod_isSheet G _ _) ⟨Nat.le_of_ble_eq_true rfl, Nat.le_of_ble_eq_true rfl, Nat.le_of_ble_eq_true rfl, Nat.le_of_ble_eq_true rfl⟩) ?_
  refine zx_ifB_ne C d_Mod_tuesday_9 (fun h9 => ?_) (fun h9 => ?_)
  · obtain ⟨k, hk, rfl⟩ := ix_le (n := 3) (by decide) h9.1 h9.2
    have hk4 : k < 4 := by omega
    obtain ⟨e2, e3, e4⟩ := hm.2.2.2.1 k hk4
    have hsz := (hm.1.1 k hk4).2.1
    refine zx_iload C d_Mod_tuesday_14 rfl ?_
    refine zr_di (zr_S C l_Mod_100 d_Mod_tuesday_15 (As := [_]) rfl rfl (Nat.le_of_ble_eq_true rfl) (c_Mod_isSort G _ _) ⟨Nat.le_of_ble_eq_true rfl, Nat.le_of_ble_eq_true rfl, Nat.le_of_ble_eq_true rfl, Nat.le_of_ble_eq_true rfl⟩) ?_
    refine zx_ifB_ne C d_Mod_tuesday_18 (fun h18 => ?_) (fun h18 => ?_)
    · have evz : ap_tue S (nI k) l i n = _ := if_neg (nor_of h9)
      rw [if_neg (nor_of h18), nI_cl (by omega)] at evz
      refine zx_aload C d_Mod_tuesday_24 rfl ?_
      refine zx_iload C d_Mod_tuesday_25 rfl ?_
      refine zx_iload C d_Mod_tuesday_26 rfl ?_
      refine zx_iload C d_Mod_tuesday_27 rfl ?_
      refine zx_iload C d_Mod_tuesday_28 rfl ?_
      refine zr_di (zr_V C l_Mod_103 d_Mod_tuesday_30 (As := [_, _, _, _]) rfl rfl (Nat.le_of_ble_eq_true rfl) (c_Mod_against G _ _ _ _ _ (sf S 0) (by exact mrp_f hm 0) k (by omega) l i n) 0 rfl rfl ⟨Nat.le_of_ble_eq_true rfl, Nat.le_of_ble_eq_true rfl, Nat.le_of_ble_eq_true rfl, Nat.le_of_ble_eq_true rfl⟩) ?_
      refine zx_istore C d_Mod_tuesday_33 (by decide) (lv1 := [(5, _), (0, _), (1, _), (2, _), (3, _), (4, _)]) rfl ?_
      refine zx_iload C d_Mod_tuesday_35 rfl ?_
      refine zx_if_eq C d_Mod_tuesday_37 (fun h37 => ?_) (fun h37 => ?_)
      · rw [if_neg (fun z => z h37)] at evz
        have hn0 : ¬ n < 0 := fun z => by
          have h37b : ag (aln S k) (asz S k) l i n = 0 := h37
          unfold ag at h37b
          split at h37b
          · exact absurd h37b (by decide)
          · split at h37b
            · exact absurd h37b (by decide)
            · first | exact absurd h37b (by decide) | (rw [if_pos z] at h37b; exact absurd h37b (by decide))
        obtain ⟨nn, hnn, rfl⟩ := nI_of hn0
        obtain ⟨hn1, hl1, ii, rfl, hii⟩ := ag_big hsz hnn h37
        rw [nI_cl (by omega), nI_cl (by omega)] at evz
        rw [h37]
        refine zx_ic C d_Mod_tuesday_47 ?_
        refine zx_iload C d_Mod_tuesday_49 rfl ?_
        refine zx_imul C d_Mod_tuesday_50 ?_
        refine zx_iload C d_Mod_tuesday_51 rfl ?_
        refine zx_iadd C d_Mod_tuesday_52 ?_
        refine zx_eq rfl (st1 := [.int (nI (60 * k + ii))]) (by rw [show (60 : Int32) = nI 60 from rfl, pk_mul, nI_add]) rfl ?_
        refine zx_istore C d_Mod_tuesday_53 (by decide) (lv1 := [(6, _), (5, _), (0, _), (1, _), (2, _), (3, _), (4, _)]) rfl ?_
        refine zx_aload C d_Mod_tuesday_55 rfl ?_
        refine zx_iload C d_Mod_tuesday_56 rfl ?_
        refine zm_p C p_Mod_93_12 d_Mod_tuesday_58 zb_fit_i (Nat.le_of_ble_eq_true rfl) zms_16 ?_
        refine zx_aload C d_Mod_tuesday_61 rfl ?_
        refine zx_iload C d_Mod_tuesday_62 rfl ?_
        refine zx_iload C d_Mod_tuesday_64 rfl ?_
        refine zx_iadd C d_Mod_tuesday_66 ?_
        rw [nI_add]
        refine zr_i (zr_V C l_Mod_111 d_Mod_tuesday_67 (As := [_]) rfl rfl (Nat.le_of_ble_eq_true rfl) (c_Mod_readDay G _ _ _ _ _ (fun j => ace S k (ii + j)) (60 * k + ii) nn (by exact fun j hj => by rw [Nat.add_assoc]; exact e4 (ii + j) (by omega)) (by omega) (by exact rfl)) 0 rfl rfl ⟨Nat.le_of_ble_eq_true rfl, Nat.le_of_ble_eq_true rfl, Nat.le_of_ble_eq_true rfl, Nat.le_of_ble_eq_true rfl⟩) (fun r w1 hpq => ?_)
        obtain ⟨F1, r19, r20, rfl, f16, fle, fK, fn, fx⟩ := hpq
        have hK : ∀ j, j ≠ 16 → j ≠ 17 → j ≠ 18 → F1 j = upd F 0 0 j := fun j a b c => (fK j a b c).trans (upd_ne _ _ a)
        refine zx_if_ne C d_Mod_tuesday_70 (fun h70 => ?_) (fun h70 => ?_)
        · obtain ⟨x, hx⟩ : ∃ x, (prs (fun j => ace S k (ii + j)) nn).2 = some x := by
            cases hz : (prs (fun j => ace S k (ii + j)) nn).2 with
            | none => exact absurd (fn hz) h70
            | some x => exact ⟨x, rfl⟩
          obtain ⟨hr1, x17, x18, hrd⟩ := fx x hx
          have ep : prs (fun j => ace S k (ii + j)) nn = ((prs (fun j => ace S k (ii + j)) nn).1, some x) := by rw [← hx]
          obtain ⟨nh, nd, q⟩ := x
          have htk := prs_ok ep
          rw [ep] at evz
          have ev0 : ap_tue S (nI k) l (nI ii) (nI nn) = (nI nh, (0, atr S, aln S, asz S, ace S, (nh, nd, 60, q), 0, ady S)) := evz
          have x17 : F1 17 = nI nh := x17
          have x18 : F1 18 = nI nd := x18
          have hrd : rdrep q nh nd r19 r20 := hrd
          have goD : ∀ a b c d, (∀ j, j < nh → a j = nI (q 0 j) ∧ b j = nI (q 1 j) ∧ c j = nI (q 2 j) ∧ d j = nI (q 3 j)) → ZV G Y 0 0 191 [(0, .ref o), (1, .int (nI k)), (2, .int l), (3, .int (nI ii)), (4, .int (nI nn)), (5, .int 0), (6, .int (nI (60 * k + ii))), (7, .int (nI 0))] [] (mw G o ad (upd (upd F1 5 (F1 17)) 6 (F1 18)) (st4 8 (ur (ur R 19 r19) 20 r20) a b c d) ++ X) := by
            intro a b c d hH
            have lD : ∀ n h a2 b2 c2 d2, h + n = nd → (∀ j, j < h → a2 j = nI (q 4 j) ∧ b2 j = nI (q 5 j) ∧ c2 j = nI (q 6 j) ∧ d2 j = nI (q 7 j)) → ZV G Y 0 0 191 [(0, .ref o), (1, .int (nI k)), (2, .int l), (3, .int (nI ii)), (4, .int (nI nn)), (5, .int 0), (6, .int (nI (60 * k + ii))), (7, .int (nI h))] [] (mw G o ad (upd (upd F1 5 (F1 17)) 6 (F1 18)) (st4 12 (st4 8 (ur (ur R 19 r19) 20 r20) a b c d) a2 b2 c2 d2) ++ X) := by
              intro n
              induction n with
              | zero =>
                intro h a2 b2 c2 d2 hn h1
                obtain rfl : h = nd := by omega
                refine zx_iload C d_Mod_tuesday_191 rfl ?_
                refine zx_aload C d_Mod_tuesday_193 rfl ?_
                refine zm_g C f_Mod_90_12 d_Mod_tuesday_194 rfl ?_
                refine zx_ic_ge C d_Mod_tuesday_197 (fun h197 => ?_) (fun h197 => ?_)
                · refine zx_aload C d_Mod_tuesday_276 rfl ?_
                  refine zx_ic C d_Mod_tuesday_277 ?_
                  refine zm_p C p_Mod_120_12 d_Mod_tuesday_279 zb_fit_i (Nat.le_of_ble_eq_true rfl) zms_7 ?_
                  refine zx_aload C d_Mod_tuesday_282 rfl ?_
                  refine zx_ic C d_Mod_tuesday_283 ?_
                  refine zm_p C p_Mod_123_12 d_Mod_tuesday_284 zb_fit_i (Nat.le_of_ble_eq_true rfl) zms_32 ?_
                  refine zx_aload C d_Mod_tuesday_287 rfl ?_
                  refine zm_g C f_Mod_87_12 d_Mod_tuesday_288 rfl ?_
                  exact zx_iret C hq d_Mod_tuesday_291 (by rw [ev0]; exact mpost_i x17 ⟨⟨hm.1.1, htk.1, fun _ => (by decide : (1 : Nat) ≤ 60), (by decide : (0 : Nat) ≤ 8), fun j hj => absurd hj (Nat.not_lt_zero j)⟩, (hK 0 (by decide) (by decide) (by decide)).trans rfl, (hK 1 (by decide) (by decide) (by decide)).trans hm.2.2.1, fun j hj => hm.2.2.2.1 j hj, ⟨htk.1, x17, x18, rfl, fun j hj => hH j hj, fun j hj => h1 j hj⟩, (hK 25 (by decide) (by decide) (by decide)).trans hm.2.2.2.2.2.1, rfl, fun j hj => absurd hj (Nat.not_lt_zero j)⟩)
                · exact absurd (by show F1 18 ≤ _; rw [x18]; exact Int32.le_refl _) h197
              | succ n ih =>
                intro h a2 b2 c2 d2 hn h1
                have hn5 : nd ≤ 5 := htk.1.2.1
                have v0 := hrd.2 h (by omega)
                refine zx_iload C d_Mod_tuesday_191 rfl ?_
                refine zx_aload C d_Mod_tuesday_193 rfl ?_
                refine zm_g C f_Mod_90_12 d_Mod_tuesday_194 rfl ?_
                refine zx_ic_ge C d_Mod_tuesday_197 (fun h197 => ?_) (fun h197 => ?_)
                · exact absurd h197 (by show ¬ F1 18 ≤ _; rw [x18]; exact nI_ge (by omega) (by omega))
                · refine zx_aload C d_Mod_tuesday_200 rfl ?_
                  refine zm_g C f_Mod_31_12 d_Mod_tuesday_201 rfl ?_
                  refine zx_iload C d_Mod_tuesday_204 rfl ?_
                  refine zx_aload C d_Mod_tuesday_206 rfl ?_
                  refine zm_g C f_Mod_46_12 d_Mod_tuesday_207 rfl ?_
                  refine zx_ic C d_Mod_tuesday_210 ?_
                  refine zx_iload C d_Mod_tuesday_211 rfl ?_
                  refine zx_imul C d_Mod_tuesday_213 ?_
                  refine zm_ld20 C d_Mod_tuesday_214 (4 * h) (by rw [show (4 : Int32) = nI 4 from rfl, pk_mul]) (by omega) ?_
                  refine zm_st12 C d_Mod_tuesday_215 h rfl (by omega) ?_
                  rw [s12_0]
                  refine zx_aload C d_Mod_tuesday_216 rfl ?_
                  refine zm_g C f_Mod_34_12 d_Mod_tuesday_217 rfl ?_
                  refine zx_iload C d_Mod_tuesday_220 rfl ?_
                  refine zx_aload C d_Mod_tuesday_222 rfl ?_
                  refine zm_g C f_Mod_46_12 d_Mod_tuesday_223 rfl ?_
                  refine zx_ic C d_Mod_tuesday_226 ?_
                  refine zx_iload C d_Mod_tuesday_227 rfl ?_
                  refine zx_imul C d_Mod_tuesday_229 ?_
                  refine zx_ic C d_Mod_tuesday_230 ?_
                  refine zx_iadd C d_Mod_tuesday_231 ?_
                  refine zm_ld20 C d_Mod_tuesday_232 (4 * h + 1) (by rw [show (4 : Int32) = nI 4 from rfl, pk_mul, show (1 : Int32) = nI 1 from rfl, nI_add]) (by omega) ?_
                  refine zm_st13 C d_Mod_tuesday_233 h rfl (by omega) ?_
                  rw [s12_1]
                  refine zx_aload C d_Mod_tuesday_234 rfl ?_
                  refine zm_g C f_Mod_37_12 d_Mod_tuesday_235 rfl ?_
                  refine zx_iload C d_Mod_tuesday_238 rfl ?_
                  refine zx_aload C d_Mod_tuesday_240 rfl ?_
                  refine zm_g C f_Mod_46_12 d_Mod_tuesday_241 rfl ?_
                  refine zx_ic C d_Mod_tuesday_244 ?_
                  refine zx_iload C d_Mod_tuesday_245 rfl ?_
                  refine zx_imul C d_Mod_tuesday_247 ?_
                  refine zx_ic C d_Mod_tuesday_248 ?_
                  refine zx_iadd C d_Mod_tuesday_249 ?_
                  refine zm_ld20 C d_Mod_tuesday_250 (4 * h + 2) (by rw [show (4 : Int32) = nI 4 from rfl, pk_mul, show (2 : Int32) = nI 2 from rfl, nI_add]) (by omega) ?_
                  refine zm_st14 C d_Mod_tuesday_251 h rfl (by omega) ?_
                  rw [s12_2]
                  refine zx_aload C d_Mod_tuesday_252 rfl ?_
                  refine zm_g C f_Mod_40_12 d_Mod_tuesday_253 rfl ?_
                  refine zx_iload C d_Mod_tuesday_256 rfl ?_
                  refine zx_aload C d_Mod_tuesday_258 rfl ?_
                  refine zm_g C f_Mod_46_12 d_Mod_tuesday_259 rfl ?_
                  refine zx_ic C d_Mod_tuesday_262 ?_
                  refine zx_iload C d_Mod_tuesday_263 rfl ?_
                  refine zx_imul C d_Mod_tuesday_265 ?_
                  refine zx_ic C d_Mod_tuesday_266 ?_
                  refine zx_iadd C d_Mod_tuesday_267 ?_
                  refine zm_ld20 C d_Mod_tuesday_268 (4 * h + 3) (by rw [show (4 : Int32) = nI 4 from rfl, pk_mul, show (3 : Int32) = nI 3 from rfl, nI_add]) (by omega) ?_
                  refine zm_st15 C d_Mod_tuesday_269 h rfl (by omega) ?_
                  rw [s12_3]
                  refine zx_iinc C d_Mod_tuesday_270 (by decide) rfl (lv1 := [(7, _), (0, _), (1, _), (2, _), (3, _), (4, _), (5, _), (6, _)]) rfl ?_
                  refine zx_goto C d_Mod_tuesday_273 ?_
                  have k1 := ih (h + 1) (upd a2 h (r20 (4 * h))) (upd b2 h (r20 (4 * h + 1))) (upd c2 h (r20 (4 * h + 2))) (upd d2 h (r20 (4 * h + 3))) (by omega) (fun j hj => by by_cases e : j = h; (subst e; rw [upd_eq, upd_eq, upd_eq, upd_eq]; exact v0); (rw [upd_ne _ _ e, upd_ne _ _ e, upd_ne _ _ e, upd_ne _ _ e]; exact h1 j (by omega)))
                  rw [nI_succ h] at k1
                  exact zx_lv [0, 1, 2, 3, 4, 5, 6, 7] rfl k1
            have k1 := lD nd 0 (R 12) (R 13) (R 14) (R 15) (by omega) (fun j hj => absurd hj (Nat.not_lt_zero j))
            rw [show st4 12 (st4 8 (ur (ur R 19 r19) 20 r20) a b c d) (R 12) (R 13) (R 14) (R 15) = st4 8 (ur (ur R 19 r19) 20 r20) a b c d from st4_self 12 _] at k1
            exact k1
          have lH : ∀ n h a b c d, h + n = nh → (∀ j, j < h → a j = nI (q 0 j) ∧ b j = nI (q 1 j) ∧ c j = nI (q 2 j) ∧ d j = nI (q 3 j)) → ZV G Y 0 0 103 [(0, .ref o), (1, .int (nI k)), (2, .int l), (3, .int (nI ii)), (4, .int (nI nn)), (5, .int 0), (6, .int (nI (60 * k + ii))), (7, .int (nI h))] [] (mw G o ad (upd (upd F1 5 (F1 17)) 6 (F1 18)) (st4 8 (ur (ur R 19 r19) 20 r20) a b c d) ++ X) := by
            intro n
            induction n with
            | zero =>
              intro h a b c d hn h1
              obtain rfl : h = nh := by omega
              refine zx_iload C d_Mod_tuesday_103 rfl ?_
              refine zx_aload C d_Mod_tuesday_105 rfl ?_
              refine zm_g C f_Mod_87_12 d_Mod_tuesday_106 rfl ?_
              refine zx_ic_ge C d_Mod_tuesday_109 (fun h109 => ?_) (fun h109 => ?_)
              · refine zx_ic C d_Mod_tuesday_188 ?_
                refine zx_istore C d_Mod_tuesday_189 (by decide) (lv1 := [(7, _), (0, _), (1, _), (2, _), (3, _), (4, _), (5, _), (6, _)]) rfl ?_
                exact zx_lv [0, 1, 2, 3, 4, 5, 6, 7] rfl (goD a b c d h1)
              · exact absurd (by show F1 17 ≤ _; rw [x17]; exact Int32.le_refl _) h109
            | succ n ih =>
              intro h a b c d hn h1
              have hn6 : nh ≤ 6 := htk.1.1
              have v0 := hrd.1 h (by omega)
              refine zx_iload C d_Mod_tuesday_103 rfl ?_
              refine zx_aload C d_Mod_tuesday_105 rfl ?_
              refine zm_g C f_Mod_87_12 d_Mod_tuesday_106 rfl ?_
              refine zx_ic_ge C d_Mod_tuesday_109 (fun h109 => ?_) (fun h109 => ?_)
              · exact absurd h109 (by show ¬ F1 17 ≤ _; rw [x17]; exact nI_ge (by omega) (by omega))
              · refine zx_aload C d_Mod_tuesday_112 rfl ?_
                refine zm_g C f_Mod_19_12 d_Mod_tuesday_113 rfl ?_
                refine zx_iload C d_Mod_tuesday_116 rfl ?_
                refine zx_aload C d_Mod_tuesday_118 rfl ?_
                refine zm_g C f_Mod_43_12 d_Mod_tuesday_119 rfl ?_
                refine zx_ic C d_Mod_tuesday_122 ?_
                refine zx_iload C d_Mod_tuesday_123 rfl ?_
                refine zx_imul C d_Mod_tuesday_125 ?_
                refine zm_ld19 C d_Mod_tuesday_126 (4 * h) (by rw [show (4 : Int32) = nI 4 from rfl, pk_mul]) (by omega) ?_
                refine zm_st8 C d_Mod_tuesday_127 h rfl (by omega) ?_
                rw [s8_0]
                refine zx_aload C d_Mod_tuesday_128 rfl ?_
                refine zm_g C f_Mod_22_12 d_Mod_tuesday_129 rfl ?_
                refine zx_iload C d_Mod_tuesday_132 rfl ?_
                refine zx_aload C d_Mod_tuesday_134 rfl ?_
                refine zm_g C f_Mod_43_12 d_Mod_tuesday_135 rfl ?_
                refine zx_ic C d_Mod_tuesday_138 ?_
                refine zx_iload C d_Mod_tuesday_139 rfl ?_
                refine zx_imul C d_Mod_tuesday_141 ?_
                refine zx_ic C d_Mod_tuesday_142 ?_
                refine zx_iadd C d_Mod_tuesday_143 ?_
                refine zm_ld19 C d_Mod_tuesday_144 (4 * h + 1) (by rw [show (4 : Int32) = nI 4 from rfl, pk_mul, show (1 : Int32) = nI 1 from rfl, nI_add]) (by omega) ?_
                refine zm_st9 C d_Mod_tuesday_145 h rfl (by omega) ?_
                rw [s8_1]
                refine zx_aload C d_Mod_tuesday_146 rfl ?_
                refine zm_g C f_Mod_25_12 d_Mod_tuesday_147 rfl ?_
                refine zx_iload C d_Mod_tuesday_150 rfl ?_
                refine zx_aload C d_Mod_tuesday_152 rfl ?_
                refine zm_g C f_Mod_43_12 d_Mod_tuesday_153 rfl ?_
                refine zx_ic C d_Mod_tuesday_156 ?_
                refine zx_iload C d_Mod_tuesday_157 rfl ?_
                refine zx_imul C d_Mod_tuesday_159 ?_
                refine zx_ic C d_Mod_tuesday_160 ?_
                refine zx_iadd C d_Mod_tuesday_161 ?_
                refine zm_ld19 C d_Mod_tuesday_162 (4 * h + 2) (by rw [show (4 : Int32) = nI 4 from rfl, pk_mul, show (2 : Int32) = nI 2 from rfl, nI_add]) (by omega) ?_
                refine zm_st10 C d_Mod_tuesday_163 h rfl (by omega) ?_
                rw [s8_2]
                refine zx_aload C d_Mod_tuesday_164 rfl ?_
                refine zm_g C f_Mod_28_12 d_Mod_tuesday_165 rfl ?_
                refine zx_iload C d_Mod_tuesday_168 rfl ?_
                refine zx_aload C d_Mod_tuesday_170 rfl ?_
                refine zm_g C f_Mod_43_12 d_Mod_tuesday_171 rfl ?_
                refine zx_ic C d_Mod_tuesday_174 ?_
                refine zx_iload C d_Mod_tuesday_175 rfl ?_
                refine zx_imul C d_Mod_tuesday_177 ?_
                refine zx_ic C d_Mod_tuesday_178 ?_
                refine zx_iadd C d_Mod_tuesday_179 ?_
                refine zm_ld19 C d_Mod_tuesday_180 (4 * h + 3) (by rw [show (4 : Int32) = nI 4 from rfl, pk_mul, show (3 : Int32) = nI 3 from rfl, nI_add]) (by omega) ?_
                refine zm_st11 C d_Mod_tuesday_181 h rfl (by omega) ?_
                rw [s8_3]
                refine zx_iinc C d_Mod_tuesday_182 (by decide) rfl (lv1 := [(7, _), (0, _), (1, _), (2, _), (3, _), (4, _), (5, _), (6, _)]) rfl ?_
                refine zx_goto C d_Mod_tuesday_185 ?_
                have k1 := ih (h + 1) (upd a h (r19 (4 * h))) (upd b h (r19 (4 * h + 1))) (upd c h (r19 (4 * h + 2))) (upd d h (r19 (4 * h + 3))) (by omega) (fun j hj => by by_cases e : j = h; (subst e; rw [upd_eq, upd_eq, upd_eq, upd_eq]; exact v0); (rw [upd_ne _ _ e, upd_ne _ _ e, upd_ne _ _ e, upd_ne _ _ e]; exact h1 j (by omega)))
                rw [nI_succ h] at k1
                exact zx_lv [0, 1, 2, 3, 4, 5, 6, 7] rfl k1
          refine zx_aload C d_Mod_tuesday_84 rfl ?_
          refine zx_aload C d_Mod_tuesday_85 rfl ?_
          refine zm_g C f_Mod_114_12 d_Mod_tuesday_86 rfl ?_
          refine zm_p C p_Mod_87_12 d_Mod_tuesday_89 zb_fit_i (Nat.le_of_ble_eq_true rfl) zms_5 ?_
          refine zx_aload C d_Mod_tuesday_92 rfl ?_
          refine zx_aload C d_Mod_tuesday_93 rfl ?_
          refine zm_g C f_Mod_117_12 d_Mod_tuesday_94 rfl ?_
          refine zm_p C p_Mod_90_12 d_Mod_tuesday_97 zb_fit_i (Nat.le_of_ble_eq_true rfl) zms_6 ?_
          refine zx_ic C d_Mod_tuesday_100 ?_
          refine zx_istore C d_Mod_tuesday_101 (by decide) (lv1 := [(7, _), (6, _), (5, _), (0, _), (1, _), (2, _), (3, _), (4, _)]) rfl ?_
          have k1 := lH nh 0 (R 8) (R 9) (R 10) (R 11) (by omega) (fun j hj => absurd hj (Nat.not_lt_zero j))
          rw [show st4 8 (ur (ur R 19 r19) 20 r20) (R 8) (R 9) (R 10) (R 11) = (ur (ur R 19 r19) 20 r20) from st4_self 8 _] at k1
          exact zx_lv [0, 1, 2, 3, 4, 5, 6, 7] rfl k1
        · have hpn : (prs (fun j => ace S k (ii + j)) nn).2 = none := by
            cases hz : (prs (fun j => ace S k (ii + j)) nn).2 with
            | none => rfl
            | some x => exact absurd ((fx x hz).1.symm.trans h70) (by decide)
          have ep : prs (fun j => ace S k (ii + j)) nn = ((prs (fun j => ace S k (ii + j)) nn).1, none) := by rw [← hpn]
          rw [ep] at evz
          have ev : ap_tue S (nI k) l (nI ii) (nI nn) = (-100 - nI (prs (fun j => ace S k (ii + j)) nn).1, sf S 0) := evz
          have hv : F1 16 - nI (60 * k + ii) = nI (prs (fun j => ace S k (ii + j)) nn).1 := by rw [f16, pk_sub (by omega)]; congr 1; omega
          have hm2 : mrp (sf S 0) F1 (ur (ur R 19 r19) 20 r20) := ⟨hm.1, (hK 0 (by decide) (by decide) (by decide)).trans rfl, (hK 1 (by decide) (by decide) (by decide)).trans hm.2.2.1, hm.2.2.2.1, ⟨hm.2.2.2.2.1.1, (hK 5 (by decide) (by decide) (by decide)).trans (mrp_e5 (mrp_f hm 0)), (hK 6 (by decide) (by decide) (by decide)).trans (mrp_e6 (mrp_f hm 0)), (hK 7 (by decide) (by decide) (by decide)).trans (mrp_e7 (mrp_f hm 0)), hm.2.2.2.2.1.2.2.2.2⟩, (hK 25 (by decide) (by decide) (by decide)).trans hm.2.2.2.2.2.1, (hK 32 (by decide) (by decide) (by decide)).trans (mrp_e32 (mrp_f hm 0)), hm.2.2.2.2.2.2.2⟩
          refine zx_ic C d_Mod_tuesday_73 ?_
          refine zx_aload C d_Mod_tuesday_75 rfl ?_
          refine zm_g C f_Mod_93_12 d_Mod_tuesday_76 rfl ?_
          refine zx_iload C d_Mod_tuesday_79 rfl ?_
          refine zx_isub C d_Mod_tuesday_81 ?_
          refine zx_isub C d_Mod_tuesday_82 ?_
          exact zx_iret C hq d_Mod_tuesday_83 (by rw [ev, hv]; exact mpost_i rfl hm2)
      · have h37 : ¬ ag (aln S k) (asz S k) l i n = 0 := h37
        rw [if_pos h37] at evz
        have ev := evz
        have hm2 : ∀ v, mrp (sf S v) (upd (upd F 0 0) 0 v) R := fun v => by rw [upd_upd]; exact mrp_f hm v
        refine zx_aload C d_Mod_tuesday_40 rfl ?_
        refine zx_iload C d_Mod_tuesday_41 rfl ?_
        refine zr_di (zr_V C l_Mod_107 d_Mod_tuesday_43 (As := [_]) rfl rfl (Nat.le_of_ble_eq_true rfl) (c_Mod_fails G _ _ _ _ _ _) 0 rfl rfl ⟨Nat.le_of_ble_eq_true rfl, Nat.le_of_ble_eq_true rfl, Nat.le_of_ble_eq_true rfl, Nat.le_of_ble_eq_true rfl⟩) ?_
        exact zx_iret C hq d_Mod_tuesday_46 (by rw [ev]; exact mpost_i rfl (hm2 _))
    · have ev : ap_tue S (nI k) l i n = (-2, sf S 0) := by rw [ap_tue, if_neg (nor_of h9), if_pos (nand_or h18)]
      have hm2 := mrp_f hm 0
      refine zx_ic C d_Mod_tuesday_21 ?_
      exact zx_iret C hq d_Mod_tuesday_23 (by rw [ev]; exact mpost_i rfl hm2)
  · have ev : ap_tue S sh l i n = (-1, sf S 0) := if_pos (nand_or h9)
    have hm2 := mrp_f hm 0
    refine zx_ic C d_Mod_tuesday_12 ?_
    exact zx_iret C hq d_Mod_tuesday_13 (by rw [ev]; exact mpost_i rfl hm2)
set_option maxHeartbeats 4000000 in
set_option maxRecDepth 20000 in
theorem c_Mod_copy (G : ZG) (o : Nat) (ad : Nat → Nat) (F : Nat → Int32) (R : Nat → Nat → Int32) (X : va_W) (S : ZA) (hm : mrp S F R) (k i k2 j n : Int32) : ZM G y_Mod_copy b_Mod_copy 10 (some .int) r_Mod_copy [.ref o, .int k, .int i, .int k2, .int j, .int n] (mw G o ad F R ++ X) (mpost G o ad X (ap_copy S k i k2 j n).1 (ap_copy S k i k2 j n).2) := by
  refine ZM.of "SameTuesdayModel" "copy" rfl rfl (by decide) (Nat.le_of_ble_eq_true rfl) (fun Y C hq => ?_)
  change ZV G Y 0 0 0 [(0, .ref o), (1, .int k), (2, .int i), (3, .int k2), (4, .int j), (5, .int n)] [] (mw G o ad F R ++ X)
  refine zx_aload C d_Mod_copy_0 rfl ?_
  refine zx_ic C d_Mod_copy_1 ?_
  refine zm_p C p_Mod_78_12 d_Mod_copy_2 zb_fit_i (Nat.le_of_ble_eq_true rfl) zms_0 ?_
  refine zx_iload C d_Mod_copy_5 rfl ?_
  refine zr_di (zr_S C l_Mod_96 d_Mod_copy_6 (As := [_]) rfl rfl (Nat.le_of_ble_eq_true rfl) (c_Mod_isSheet G _ _) ⟨Nat.le_of_ble_eq_true rfl, Nat.le_of_ble_eq_true rfl, Nat.le_of_ble_eq_true rfl, Nat.le_of_ble_eq_true rfl⟩) ?_
  refine zx_ifB_eq C d_Mod_copy_9 (fun h9 => ?_) (fun h9 => ?_)
  · have ev : ap_copy S k i k2 j n = (-1, sf S 0) := if_pos (Or.inl (nand_or h9))
    have hm2 := mrp_f hm 0
    refine zx_ic C d_Mod_copy_19 ?_
    exact zx_iret C hq d_Mod_copy_20 (by rw [ev]; exact mpost_i rfl hm2)
  · refine zx_iload C d_Mod_copy_12 rfl ?_
    refine zr_di (zr_S C l_Mod_96 d_Mod_copy_13 (As := [_]) rfl rfl (Nat.le_of_ble_eq_true rfl) (c_Mod_isSheet G _ _) ⟨Nat.le_of_ble_eq_true rfl, Nat.le_of_ble_eq_true rfl, Nat.le_of_ble_eq_true rfl, Nat.le_of_ble_eq_true rfl⟩) ?_
    refine zx_ifB_ne C d_Mod_copy_16 (fun h16 => ?_) (fun h16 => ?_)
    · obtain ⟨a, ha, rfl⟩ := ix_le (n := 3) (by decide) h9.1 h9.2
      obtain ⟨b, hb, rfl⟩ := ix_le (n := 3) (by decide) h16.1 h16.2
      have ha4 : a < 4 := by omega
      have hb4 : b < 4 := by omega
      obtain ⟨p2, p3, p4⟩ := hm.2.2.2.1 a ha4
      obtain ⟨q2, q3, q4⟩ := hm.2.2.2.1 b hb4
      have hla := hm.1.1 a ha4
      have hlb := hm.1.1 b hb4
      have evz : ap_copy S (nI a) i (nI b) j n = _ := if_neg (nor_of ⟨nor_of h9, nor_of h16⟩)
      rw [nI_cl (by omega), nI_cl (by omega)] at evz
      refine zx_aload C d_Mod_copy_21 rfl ?_
      refine zm_g C f_Mod_9_12 d_Mod_copy_22 rfl ?_
      refine zx_iload C d_Mod_copy_25 rfl ?_
      refine zm_ld2 C d_Mod_copy_26 a rfl (by omega) ?_
      refine zx_ic C d_Mod_copy_27 ?_
      refine zx_ic_eq C d_Mod_copy_29 (fun h29 => ?_) (fun h29 => ?_)
      · rw [if_pos (Or.inl ((mlane_9 hla.1).mp (p2.symm.trans h29)))] at evz
        have ev := evz
        have hm2 : mrp (sf S 1) (upd (upd F 0 0) 0 1) R := by rw [upd_upd]; exact mrp_f hm 1
        refine zx_aload C d_Mod_copy_43 rfl ?_
        refine zx_ic C d_Mod_copy_44 ?_
        refine zr_di (zr_V C l_Mod_107 d_Mod_copy_45 (As := [_]) rfl rfl (Nat.le_of_ble_eq_true rfl) (c_Mod_fails G _ _ _ _ _ _) 0 rfl rfl ⟨Nat.le_of_ble_eq_true rfl, Nat.le_of_ble_eq_true rfl, Nat.le_of_ble_eq_true rfl, Nat.le_of_ble_eq_true rfl⟩) ?_
        exact zx_iret C hq d_Mod_copy_48 (by rw [ev]; exact mpost_i rfl hm2)
      · have na : ¬ aln S a = -1 := fun z => h29 (p2.trans ((mlane_9 hla.1).mpr z))
        refine zx_aload C d_Mod_copy_32 rfl ?_
        refine zm_g C f_Mod_9_12 d_Mod_copy_33 rfl ?_
        refine zx_iload C d_Mod_copy_36 rfl ?_
        refine zm_ld2 C d_Mod_copy_37 b rfl (by omega) ?_
        refine zx_ic C d_Mod_copy_38 ?_
        refine zx_ic_ne C d_Mod_copy_40 (fun h40 => ?_) (fun h40 => ?_)
        · have nb : ¬ aln S b = -1 := fun z => h40 (q2.trans ((mlane_9 hlb.1).mpr z))
          rw [if_neg (nor_of ⟨na, nb⟩)] at evz
          have p2 := p2.trans (mlane_n na)
          have q2 := q2.trans (mlane_n nb)
          have p3 := p3 na
          have q3 := q3 nb
          refine zx_aload C d_Mod_copy_49 rfl ?_
          refine zm_g C f_Mod_9_12 d_Mod_copy_50 rfl ?_
          refine zx_iload C d_Mod_copy_53 rfl ?_
          refine zm_ld2 C d_Mod_copy_54 a rfl (by omega) ?_
          refine zx_aload C d_Mod_copy_55 rfl ?_
          refine zm_g C f_Mod_9_12 d_Mod_copy_56 rfl ?_
          refine zx_iload C d_Mod_copy_59 rfl ?_
          refine zm_ld2 C d_Mod_copy_60 b rfl (by omega) ?_
          refine zx_ic_eq C d_Mod_copy_61 (fun h61 => ?_) (fun h61 => ?_)
          · rw [if_neg (fun z => z (p2.symm.trans (h61.trans q2)))] at evz
            have ev0 := evz
            refine zx_iload C d_Mod_copy_70 rfl ?_
            refine zx_if_lt C d_Mod_copy_71 (fun h71 => ?_) (fun h71 => ?_)
            · have ev : ap_copy S (nI a) i (nI b) j n = (-13, sf S 3) := by rw [ev0, if_pos (Or.inl (Or.inl h71))]
              have hm2 : mrp (sf S 3) (upd (upd F 0 0) 0 3) R := by rw [upd_upd]; exact mrp_f hm 3
              refine zx_ic C d_Mod_copy_109 ?_
              refine zx_istore C d_Mod_copy_110 (by decide) (lv1 := [(6, _), (0, _), (1, _), (2, _), (3, _), (4, _), (5, _)]) rfl ?_
              refine zx_iload C d_Mod_copy_112 rfl ?_
              refine zx_if_eq C d_Mod_copy_114 (fun h114 => ?_) (fun h114 => ?_)
              · refine zx_aload C d_Mod_copy_144 rfl ?_
                refine zx_ic C d_Mod_copy_145 ?_
                refine zr_di (zr_V C l_Mod_107 d_Mod_copy_146 (As := [_]) rfl rfl (Nat.le_of_ble_eq_true rfl) (c_Mod_fails G _ _ _ _ _ _) 0 rfl rfl ⟨Nat.le_of_ble_eq_true rfl, Nat.le_of_ble_eq_true rfl, Nat.le_of_ble_eq_true rfl, Nat.le_of_ble_eq_true rfl⟩) ?_
                exact zx_iret C hq d_Mod_copy_149 (by rw [ev]; exact mpost_i rfl hm2)
              · exact absurd rfl h114
            · refine zx_iload C d_Mod_copy_74 rfl ?_
              refine zx_if_lt C d_Mod_copy_76 (fun h76 => ?_) (fun h76 => ?_)
              · have ev : ap_copy S (nI a) i (nI b) j n = (-13, sf S 3) := by rw [ev0, if_pos (Or.inr (Or.inl h76))]
                have hm2 : mrp (sf S 3) (upd (upd F 0 0) 0 3) R := by rw [upd_upd]; exact mrp_f hm 3
                refine zx_ic C d_Mod_copy_109 ?_
                refine zx_istore C d_Mod_copy_110 (by decide) (lv1 := [(6, _), (0, _), (1, _), (2, _), (3, _), (4, _), (5, _)]) rfl ?_
                refine zx_iload C d_Mod_copy_112 rfl ?_
                refine zx_if_eq C d_Mod_copy_114 (fun h114 => ?_) (fun h114 => ?_)
                · refine zx_aload C d_Mod_copy_144 rfl ?_
                  refine zx_ic C d_Mod_copy_145 ?_
                  refine zr_di (zr_V C l_Mod_107 d_Mod_copy_146 (As := [_]) rfl rfl (Nat.le_of_ble_eq_true rfl) (c_Mod_fails G _ _ _ _ _ _) 0 rfl rfl ⟨Nat.le_of_ble_eq_true rfl, Nat.le_of_ble_eq_true rfl, Nat.le_of_ble_eq_true rfl, Nat.le_of_ble_eq_true rfl⟩) ?_
                  exact zx_iret C hq d_Mod_copy_149 (by rw [ev]; exact mpost_i rfl hm2)
                · exact absurd rfl h114
              · refine zx_iload C d_Mod_copy_79 rfl ?_
                refine zx_if_lt C d_Mod_copy_81 (fun h81 => ?_) (fun h81 => ?_)
                · have ev : ap_copy S (nI a) i (nI b) j n = (-13, sf S 3) := by rw [ev0, if_pos (Or.inl (Or.inr (Or.inl h81)))]
                  have hm2 : mrp (sf S 3) (upd (upd F 0 0) 0 3) R := by rw [upd_upd]; exact mrp_f hm 3
                  refine zx_ic C d_Mod_copy_109 ?_
                  refine zx_istore C d_Mod_copy_110 (by decide) (lv1 := [(6, _), (0, _), (1, _), (2, _), (3, _), (4, _), (5, _)]) rfl ?_
                  refine zx_iload C d_Mod_copy_112 rfl ?_
                  refine zx_if_eq C d_Mod_copy_114 (fun h114 => ?_) (fun h114 => ?_)
                  · refine zx_aload C d_Mod_copy_144 rfl ?_
                    refine zx_ic C d_Mod_copy_145 ?_
                    refine zr_di (zr_V C l_Mod_107 d_Mod_copy_146 (As := [_]) rfl rfl (Nat.le_of_ble_eq_true rfl) (c_Mod_fails G _ _ _ _ _ _) 0 rfl rfl ⟨Nat.le_of_ble_eq_true rfl, Nat.le_of_ble_eq_true rfl, Nat.le_of_ble_eq_true rfl, Nat.le_of_ble_eq_true rfl⟩) ?_
                    exact zx_iret C hq d_Mod_copy_149 (by rw [ev]; exact mpost_i rfl hm2)
                  · exact absurd rfl h114
                · refine zx_iload C d_Mod_copy_84 rfl ?_
                  refine zx_aload C d_Mod_copy_85 rfl ?_
                  refine zm_g C f_Mod_13_12 d_Mod_copy_86 rfl ?_
                  refine zx_iload C d_Mod_copy_89 rfl ?_
                  refine zm_ld3 C d_Mod_copy_90 a rfl (by omega) ?_
                  refine zx_ic_gt C d_Mod_copy_91 (fun h91 => ?_) (fun h91 => ?_)
                  · have ev : ap_copy S (nI a) i (nI b) j n = (-13, sf S 3) := by rw [ev0, if_pos (Or.inl (Or.inr (Or.inr (Or.inl (p3 ▸ h91)))))]
                    have hm2 : mrp (sf S 3) (upd (upd F 0 0) 0 3) R := by rw [upd_upd]; exact mrp_f hm 3
                    refine zx_ic C d_Mod_copy_109 ?_
                    refine zx_istore C d_Mod_copy_110 (by decide) (lv1 := [(6, _), (0, _), (1, _), (2, _), (3, _), (4, _), (5, _)]) rfl ?_
                    refine zx_iload C d_Mod_copy_112 rfl ?_
                    refine zx_if_eq C d_Mod_copy_114 (fun h114 => ?_) (fun h114 => ?_)
                    · refine zx_aload C d_Mod_copy_144 rfl ?_
                      refine zx_ic C d_Mod_copy_145 ?_
                      refine zr_di (zr_V C l_Mod_107 d_Mod_copy_146 (As := [_]) rfl rfl (Nat.le_of_ble_eq_true rfl) (c_Mod_fails G _ _ _ _ _ _) 0 rfl rfl ⟨Nat.le_of_ble_eq_true rfl, Nat.le_of_ble_eq_true rfl, Nat.le_of_ble_eq_true rfl, Nat.le_of_ble_eq_true rfl⟩) ?_
                      exact zx_iret C hq d_Mod_copy_149 (by rw [ev]; exact mpost_i rfl hm2)
                    · exact absurd rfl h114
                  · refine zx_iload C d_Mod_copy_94 rfl ?_
                    refine zx_aload C d_Mod_copy_96 rfl ?_
                    refine zm_g C f_Mod_13_12 d_Mod_copy_97 rfl ?_
                    refine zx_iload C d_Mod_copy_100 rfl ?_
                    refine zm_ld3 C d_Mod_copy_101 b rfl (by omega) ?_
                    refine zx_ic_gt C d_Mod_copy_102 (fun h102 => ?_) (fun h102 => ?_)
                    · have ev : ap_copy S (nI a) i (nI b) j n = (-13, sf S 3) := by rw [ev0, if_pos (Or.inr (Or.inr (Or.inl (q3 ▸ h102))))]
                      have hm2 : mrp (sf S 3) (upd (upd F 0 0) 0 3) R := by rw [upd_upd]; exact mrp_f hm 3
                      refine zx_ic C d_Mod_copy_109 ?_
                      refine zx_istore C d_Mod_copy_110 (by decide) (lv1 := [(6, _), (0, _), (1, _), (2, _), (3, _), (4, _), (5, _)]) rfl ?_
                      refine zx_iload C d_Mod_copy_112 rfl ?_
                      refine zx_if_eq C d_Mod_copy_114 (fun h114 => ?_) (fun h114 => ?_)
                      · refine zx_aload C d_Mod_copy_144 rfl ?_
                        refine zx_ic C d_Mod_copy_145 ?_
                        refine zr_di (zr_V C l_Mod_107 d_Mod_copy_146 (As := [_]) rfl rfl (Nat.le_of_ble_eq_true rfl) (c_Mod_fails G _ _ _ _ _ _) 0 rfl rfl ⟨Nat.le_of_ble_eq_true rfl, Nat.le_of_ble_eq_true rfl, Nat.le_of_ble_eq_true rfl, Nat.le_of_ble_eq_true rfl⟩) ?_
                        exact zx_iret C hq d_Mod_copy_149 (by rw [ev]; exact mpost_i rfl hm2)
                      · exact absurd rfl h114
                    · refine zx_ic C d_Mod_copy_105 ?_
                      refine zx_goto C d_Mod_copy_106 ?_
                      refine zx_istore C d_Mod_copy_110 (by decide) (lv1 := [(6, _), (0, _), (1, _), (2, _), (3, _), (4, _), (5, _)]) rfl ?_
                      refine zx_iload C d_Mod_copy_112 rfl ?_
                      refine zx_if_eq C d_Mod_copy_114 (fun h114 => ?_) (fun h114 => ?_)
                      · exact absurd h114 (by decide)
                      · refine zx_iload C d_Mod_copy_117 rfl ?_
                        refine zx_aload C d_Mod_copy_119 rfl ?_
                        refine zm_g C f_Mod_13_12 d_Mod_copy_120 rfl ?_
                        refine zx_iload C d_Mod_copy_123 rfl ?_
                        refine zm_ld3 C d_Mod_copy_124 a rfl (by omega) ?_
                        refine zx_iload C d_Mod_copy_125 rfl ?_
                        refine zx_isub C d_Mod_copy_126 ?_
                        refine zx_ic_gt C d_Mod_copy_127 (fun h127 => ?_) (fun h127 => ?_)
                        · have ev : ap_copy S (nI a) i (nI b) j n = (-13, sf S 3) := by rw [ev0, if_pos (Or.inl (Or.inr (Or.inr (Or.inr (p3 ▸ h127)))))]
                          have hm2 : mrp (sf S 3) (upd (upd F 0 0) 0 3) R := by rw [upd_upd]; exact mrp_f hm 3
                          refine zx_aload C d_Mod_copy_144 rfl ?_
                          refine zx_ic C d_Mod_copy_145 ?_
                          refine zr_di (zr_V C l_Mod_107 d_Mod_copy_146 (As := [_]) rfl rfl (Nat.le_of_ble_eq_true rfl) (c_Mod_fails G _ _ _ _ _ _) 0 rfl rfl ⟨Nat.le_of_ble_eq_true rfl, Nat.le_of_ble_eq_true rfl, Nat.le_of_ble_eq_true rfl, Nat.le_of_ble_eq_true rfl⟩) ?_
                          exact zx_iret C hq d_Mod_copy_149 (by rw [ev]; exact mpost_i rfl hm2)
                        · refine zx_iload C d_Mod_copy_130 rfl ?_
                          refine zx_aload C d_Mod_copy_132 rfl ?_
                          refine zm_g C f_Mod_13_12 d_Mod_copy_133 rfl ?_
                          refine zx_iload C d_Mod_copy_136 rfl ?_
                          refine zm_ld3 C d_Mod_copy_137 b rfl (by omega) ?_
                          refine zx_iload C d_Mod_copy_138 rfl ?_
                          refine zx_isub C d_Mod_copy_140 ?_
                          refine zx_ic_le C d_Mod_copy_141 (fun h141 => ?_) (fun h141 => ?_)
                          · rw [if_neg (nor_of ⟨fun z => z.elim h71 (fun z => z.elim h81 (fun z => z.elim (fun z => h91 (by show R 3 a < i; rw [p3]; exact z)) (fun z => h127 (by show R 3 a - i < n; rw [p3]; exact z)))), fun z => z.elim h76 (fun z => z.elim (fun z => h102 (by show R 3 b < j; rw [q3]; exact z)) (fun z => absurd h141 (Int32.not_le.mpr (by show R 3 b - j < n; rw [q3]; exact z))))⟩)] at ev0
                            obtain ⟨x, hx, rfl⟩ := ix_le (n := asz S a) (by omega) h71 (fun z => h91 (by show R 3 a < i; rw [p3]; exact z))
                            obtain ⟨y, hy, rfl⟩ := ix_le (n := asz S b) (by omega) h76 (fun z => h102 (by show R 3 b < j; rw [q3]; exact z))
                            obtain ⟨nn, hnn, rfl⟩ := nI_of h81
                            have hx2 : x + nn ≤ asz S a := by
                              have z : ¬ nI (asz S a) - nI x < nI nn := fun z => h127 (by show R 3 a - nI x < nI nn; rw [p3]; exact z)
                              rw [pk_sub hx, nI_ltI (by omega) hnn] at z; omega
                            have hy2 : y + nn ≤ asz S b := by
                              have z : ¬ nI (asz S b) - nI y < nI nn := fun z => absurd h141 (Int32.not_le.mpr (by show R 3 b - nI y < nI nn; rw [q3]; exact z))
                              rw [pk_sub hy, nI_ltI (by omega) hnn] at z; omega
                            rw [nI_cl (by omega), nI_cl (by omega), nI_cl (by omega)] at ev0
                            have s161 : ∀ v : Int32, v = zB (x < y) → ZV G Y 0 0 161 [(6, .int 1), (0, .ref o), (1, .int (nI a)), (2, .int (nI x)), (3, .int (nI b)), (4, .int (nI y)), (5, .int (nI nn))] [.int v] (mw G o ad (upd F 0 0) R ++ X) := by
                              intro v hv
                              subst hv
                              have lp : ∀ n q , q + n = nn → ZV G Y 0 0 166 [(0, .ref o), (1, .int (nI a)), (2, .int (nI x)), (3, .int (nI b)), (4, .int (nI y)), (5, .int (nI nn)), (6, .int 1), (7, .int (zB (x < y))), (8, .int (nI q))] [] (mw G o ad (upd F 0 0) (ur R 4 (crow (R 4) (60 * a + x) (60 * b + y) nn q (decide (x < y)))) ++ X) := by
                                intro n
                                induction n with
                                | zero =>
                                  intro q  hn 
                                  obtain rfl : q = nn := by omega
                                  refine zx_iload C d_Mod_copy_166 rfl ?_
                                  refine zx_iload C d_Mod_copy_168 rfl ?_
                                  refine zx_ic_ge C d_Mod_copy_170 (fun h170 => ?_) (fun h170 => ?_)
                                  · refine zx_iload C d_Mod_copy_227 rfl ?_
                                    exact zx_iret C hq d_Mod_copy_229 (by rw [ev0]; exact mpost_i rfl (mrp_copy (mrp_f hm 0) ha4 hb4 (by omega) (by omega)))
                                  · exact absurd (Int32.le_refl _) h170
                                | succ n ih =>
                                  intro q  hn 
                                  have s192 : ∀ c, c < nn → (if x < y then c = nn - 1 - q else c = q) → ZV G Y 0 0 190 [(0, .ref o), (1, .int (nI a)), (2, .int (nI x)), (3, .int (nI b)), (4, .int (nI y)), (5, .int (nI nn)), (6, .int 1), (7, .int (zB (x < y))), (8, .int (nI q))] [.int (nI c)] (mw G o ad (upd F 0 0) (ur R 4 (crow (R 4) (60 * a + x) (60 * b + y) nn q (decide (x < y)))) ++ X) := by
                                    intro c hcn hcc
                                    have d1 : nI (60 * b + y) + nI c = nI (60 * b + y + c) := nI_add _ _
                                    have hcr : ur (ur R 4 (crow (R 4) (60 * a + x) (60 * b + y) nn q (decide (x < y)))) 4 (upd (ur R 4 (crow (R 4) (60 * a + x) (60 * b + y) nn q (decide (x < y))) 4) (60 * b + y + c) (crow (R 4) (60 * a + x) (60 * b + y) nn q (decide (x < y)) (60 * a + x + c))) = ur R 4 (crow (R 4) (60 * a + x) (60 * b + y) nn (q + 1) (decide (x < y))) := by
                                      rw [ur_ur, ur_eq]
                                      by_cases hxy : x < y
                                      · rw [if_pos hxy] at hcc
                                        simp only [hxy, decide_true]
                                        rw [hcc, crow_ahead (by omega) (fun c1 c2 _ _ hlt => by omega)]
                                      · rw [if_neg hxy] at hcc
                                        simp only [hxy, decide_false]
                                        rw [hcc, crow_back (by omega) (fun c1 c2 _ _ hlt => by omega)]
                                    refine zx_istore C d_Mod_copy_190 (by decide) (lv1 := [(9, _), (0, _), (1, _), (2, _), (3, _), (4, _), (5, _), (6, _), (7, _), (8, _)]) rfl ?_
                                    refine zx_aload C d_Mod_copy_192 rfl ?_
                                    refine zm_g C f_Mod_16_12 d_Mod_copy_193 rfl ?_
                                    refine zx_ic C d_Mod_copy_196 ?_
                                    refine zx_iload C d_Mod_copy_198 rfl ?_
                                    refine zx_imul C d_Mod_copy_199 ?_
                                    refine zx_iload C d_Mod_copy_200 rfl ?_
                                    refine zx_iadd C d_Mod_copy_202 ?_
                                    refine zx_iload C d_Mod_copy_203 rfl ?_
                                    refine zx_iadd C d_Mod_copy_205 ?_
                                    refine zx_aload C d_Mod_copy_206 rfl ?_
                                    refine zm_g C f_Mod_16_12 d_Mod_copy_207 rfl ?_
                                    refine zx_ic C d_Mod_copy_210 ?_
                                    refine zx_iload C d_Mod_copy_212 rfl ?_
                                    refine zx_imul C d_Mod_copy_213 ?_
                                    refine zx_iload C d_Mod_copy_214 rfl ?_
                                    refine zx_iadd C d_Mod_copy_215 ?_
                                    refine zx_iload C d_Mod_copy_216 rfl ?_
                                    refine zx_iadd C d_Mod_copy_218 ?_
                                    refine zm_ld4 C d_Mod_copy_219 (60 * a + x + c) (by rw [show (60 : Int32) = nI 60 from rfl, pk_mul, nI_add, nI_add]) (by omega) ?_
                                    refine zm_st4 C d_Mod_copy_220 (60 * b + y + c) (by rw [show (60 : Int32) = nI 60 from rfl, pk_mul, nI_add, nI_add]) (by omega) ?_
                                    rw [show ur R 4 (crow (R 4) (60 * a + x) (60 * b + y) nn q (decide (x < y))) 4 (60 * a + x + c) = crow (R 4) (60 * a + x) (60 * b + y) nn q (decide (x < y)) (60 * a + x + c) from rfl, hcr]
                                    refine zx_iinc C d_Mod_copy_221 (by decide) rfl (lv1 := [(8, _), (9, _), (0, _), (1, _), (2, _), (3, _), (4, _), (5, _), (6, _), (7, _)]) rfl ?_
                                    refine zx_goto C d_Mod_copy_224 ?_
                                    have k1 := ih (q + 1) (by omega)
                                    rw [nI_succ q] at k1
                                    exact zx_lv [0, 1, 2, 3, 4, 5, 6, 7, 8] rfl k1
                                  refine zx_iload C d_Mod_copy_166 rfl ?_
                                  refine zx_iload C d_Mod_copy_168 rfl ?_
                                  refine zx_ic_ge C d_Mod_copy_170 (fun h170 => ?_) (fun h170 => ?_)
                                  · exact absurd h170 (nI_ge (by omega) (by omega))
                                  · refine zx_iload C d_Mod_copy_173 rfl ?_
                                    refine zx_if_eq C d_Mod_copy_175 (fun h175 => ?_) (fun h175 => ?_)
                                    · have hxy : ¬ x < y := zB_e0.mp h175
                                      refine zx_iload C d_Mod_copy_188 rfl ?_
                                      first
                                        | exact zx_lv [0, 1, 2, 3, 4, 5, 6, 7, 8] rfl (s192 q (by omega) (by rw [if_neg hxy]))
                                        | exact zx_lv [0, 1, 2, 3, 4, 5, 6, 7, 8] rfl (s192 (nn - 1 - q) (by omega) (by rw [if_pos hxy]))
                                    · have hxy : x < y := Classical.byContradiction fun z => h175 (zB_e0.mpr z)
                                      have e1 : nI nn - 1 - nI q = nI (nn - 1 - q) := by rw [show (1 : Int32) = nI 1 from rfl, pk_sub (by omega), pk_sub (by omega)]
                                      refine zx_iload C d_Mod_copy_178 rfl ?_
                                      refine zx_ic C d_Mod_copy_180 ?_
                                      refine zx_isub C d_Mod_copy_181 ?_
                                      refine zx_iload C d_Mod_copy_182 rfl ?_
                                      refine zx_isub C d_Mod_copy_184 ?_
                                      rw [e1]
                                      refine zx_goto C d_Mod_copy_185 ?_
                                      first
                                        | exact zx_lv [0, 1, 2, 3, 4, 5, 6, 7, 8] rfl (s192 q (by omega) (by rw [if_neg hxy]))
                                        | exact zx_lv [0, 1, 2, 3, 4, 5, 6, 7, 8] rfl (s192 (nn - 1 - q) (by omega) (by rw [if_pos hxy]))
                              refine zx_istore C d_Mod_copy_161 (by decide) (lv1 := [(7, _), (6, _), (0, _), (1, _), (2, _), (3, _), (4, _), (5, _)]) rfl ?_
                              refine zx_ic C d_Mod_copy_163 ?_
                              refine zx_istore C d_Mod_copy_164 (by decide) (lv1 := [(8, _), (7, _), (6, _), (0, _), (1, _), (2, _), (3, _), (4, _), (5, _)]) rfl ?_
                              have k1 := lp nn 0 (by omega)
                              rw [crow_0, show ur R 4 (R 4) = R from ur_self R 4] at k1
                              exact zx_lv [0, 1, 2, 3, 4, 5, 6, 7, 8] rfl k1
                            refine zx_iload C d_Mod_copy_150 rfl ?_
                            refine zx_iload C d_Mod_copy_151 rfl ?_
                            refine zx_ic_ge C d_Mod_copy_153 (fun h153 => ?_) (fun h153 => ?_)
                            · have ev1 : (0 : Int32) = zB (x < y) := (zB_f (by have := (nI_leI (by omega) (by omega)).mp h153; omega)).symm
                              refine zx_ic C d_Mod_copy_160 ?_
                              exact s161 _ ev1
                            · have ev1 : (1 : Int32) = zB (x < y) := (zB_t (by have z : ¬ y ≤ x := fun z => h153 ((nI_leI (by omega) (by omega)).mpr z); omega)).symm
                              refine zx_ic C d_Mod_copy_156 ?_
                              refine zx_goto C d_Mod_copy_157 ?_
                              exact s161 _ ev1
                          · have ev : ap_copy S (nI a) i (nI b) j n = (-13, sf S 3) := by rw [ev0, if_pos (Or.inr (Or.inr (Or.inr (q3 ▸ (Int32.not_le.mp h141)))))]
                            have hm2 : mrp (sf S 3) (upd (upd F 0 0) 0 3) R := by rw [upd_upd]; exact mrp_f hm 3
                            refine zx_aload C d_Mod_copy_144 rfl ?_
                            refine zx_ic C d_Mod_copy_145 ?_
                            refine zr_di (zr_V C l_Mod_107 d_Mod_copy_146 (As := [_]) rfl rfl (Nat.le_of_ble_eq_true rfl) (c_Mod_fails G _ _ _ _ _ _) 0 rfl rfl ⟨Nat.le_of_ble_eq_true rfl, Nat.le_of_ble_eq_true rfl, Nat.le_of_ble_eq_true rfl, Nat.le_of_ble_eq_true rfl⟩) ?_
                            exact zx_iret C hq d_Mod_copy_149 (by rw [ev]; exact mpost_i rfl hm2)
          · rw [if_pos (fun z => h61 (p2.trans (z.trans q2.symm)))] at evz
            have ev := evz
            have hm2 : mrp (sf S 2) (upd (upd F 0 0) 0 2) R := by rw [upd_upd]; exact mrp_f hm 2
            refine zx_aload C d_Mod_copy_64 rfl ?_
            refine zx_ic C d_Mod_copy_65 ?_
            refine zr_di (zr_V C l_Mod_107 d_Mod_copy_66 (As := [_]) rfl rfl (Nat.le_of_ble_eq_true rfl) (c_Mod_fails G _ _ _ _ _ _) 0 rfl rfl ⟨Nat.le_of_ble_eq_true rfl, Nat.le_of_ble_eq_true rfl, Nat.le_of_ble_eq_true rfl, Nat.le_of_ble_eq_true rfl⟩) ?_
            exact zx_iret C hq d_Mod_copy_69 (by rw [ev]; exact mpost_i rfl hm2)
        · rw [if_pos (Or.inr ((mlane_9 hlb.1).mp (q2.symm.trans h40)))] at evz
          have ev := evz
          have hm2 : mrp (sf S 1) (upd (upd F 0 0) 0 1) R := by rw [upd_upd]; exact mrp_f hm 1
          refine zx_aload C d_Mod_copy_43 rfl ?_
          refine zx_ic C d_Mod_copy_44 ?_
          refine zr_di (zr_V C l_Mod_107 d_Mod_copy_45 (As := [_]) rfl rfl (Nat.le_of_ble_eq_true rfl) (c_Mod_fails G _ _ _ _ _ _) 0 rfl rfl ⟨Nat.le_of_ble_eq_true rfl, Nat.le_of_ble_eq_true rfl, Nat.le_of_ble_eq_true rfl, Nat.le_of_ble_eq_true rfl⟩) ?_
          exact zx_iret C hq d_Mod_copy_48 (by rw [ev]; exact mpost_i rfl hm2)
    · have ev : ap_copy S k i k2 j n = (-1, sf S 0) := if_pos (Or.inr (nand_or h16))
      have hm2 := mrp_f hm 0
      refine zx_ic C d_Mod_copy_19 ?_
      exact zx_iret C hq d_Mod_copy_20 (by rw [ev]; exact mpost_i rfl hm2)
