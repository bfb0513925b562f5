set_option maxHeartbeats 4000000 in
set_option maxRecDepth 20000 in
theorem c_Mod_goMinute (G : ZG) (o : Nat) (ad : Nat → Nat) (F : Nat → Int32) (R : Nat → Nat → Int32) (X : va_W) (a b c d : Nat → Int32) (T : ZT) (hr : mrep T F R) (s : (Nat → Bool) × (Nat → Nat → Bool)) (ha : brep a s.1) (hb : qrep b s.2) (m : Nat) (hm : m < 60) : ZM G y_Mod_goMinute b_Mod_goMinute 3 none r_Mod_goMinute [.ref o, .int (nI m)] (mw G o ad F (stR R a b c d) ++ X) (zpv (fun w => ∃ a1 b1 c1, w = mw G o ad F (stR R a1 b1 c1 d) ++ X ∧ brep a1 (gmin T m s).1 ∧ qrep b1 (gmin T m s).2)) := by
  refine ZM.of "SameTuesdayModel" "goMinute" rfl rfl (by decide) (Nat.le_of_ble_eq_true rfl) (fun Y C hq => ?_)
  change ZV G Y 0 0 0 [(0, .ref o), (1, .int (nI m))] [] (mw G o ad F (stR R a b c d) ++ X)
  have ht := hr.1
  have hD5 : T.2.1 ≤ 5 := ht.2.1
  have e6 : F 6 = nI T.2.1 := hr.2.2.1
  have e60 : (10 : Int32) * F 6 = nI (10 * T.2.1) := by rw [e6, show (10 : Int32) = nI 10 from rfl, pk_mul]
  have lp : ∀ n v a1 b1 c1, v + n = (10 * T.2.1) → (brep a1 (imgN (hap T m 0 T.1) s.1 64)) → (qrep b1 (hQ T m s.2 v)) → ZV G Y 0 0 7 [(0, .ref o), (1, .int (nI m)), (2, .int (nI v))] [] (mw G o ad F (stR R a1 b1 c1 d) ++ X) := by
    intro n
    induction n with
    | zero =>
      intro v a1 b1 c1 hn h1 h2
      obtain rfl : v = (10 * T.2.1) := by omega
      refine zx_iload C d_Mod_goMinute_7 rfl ?_
      refine zx_ic C d_Mod_goMinute_8 ?_
      refine zx_aload C d_Mod_goMinute_10 rfl ?_
      refine zm_g C f_Mod_90_12 d_Mod_goMinute_11 rfl ?_
      refine zx_imul C d_Mod_goMinute_14 ?_
      rw [e60]
      refine zx_ic_ge C d_Mod_goMinute_15 (fun h15 => ?_) (fun h15 => ?_)
      · refine zx_aload C d_Mod_goMinute_30 rfl ?_
        refine zx_iload C d_Mod_goMinute_31 rfl ?_
        refine zr_v (zr_V C l_Mod_195 d_Mod_goMinute_32 (As := [_]) rfl rfl (Nat.le_of_ble_eq_true rfl) (c_Mod_endDeeds G _ _ _ _ _ _ _ _ _ T (by exact hr) (imgN (hap T m 0 T.1) s.1 64) (hQ T m s.2 (10 * T.2.1)) (by exact h1) (by exact h2) m hm) 0 rfl rfl ⟨Nat.le_of_ble_eq_true rfl, Nat.le_of_ble_eq_true rfl, Nat.le_of_ble_eq_true rfl, Nat.le_of_ble_eq_true rfl⟩) (fun w1 hp => ?_)
        obtain ⟨a2, b2, rfl, h3, h4⟩ := hp
        refine zx_aload C d_Mod_goMinute_35 rfl ?_
        refine zx_iload C d_Mod_goMinute_36 rfl ?_
        refine zr_v (zr_V C l_Mod_198 d_Mod_goMinute_37 (As := [_]) rfl rfl (Nat.le_of_ble_eq_true rfl) (c_Mod_beginDeeds G _ _ _ _ _ _ _ _ _ T (by exact hr) _ _ (by exact h3) (by exact h4) m hm) 0 rfl rfl ⟨Nat.le_of_ble_eq_true rfl, Nat.le_of_ble_eq_true rfl, Nat.le_of_ble_eq_true rfl, Nat.le_of_ble_eq_true rfl⟩) (fun w1 hp => ?_)
        obtain ⟨b3, rfl, h5⟩ := hp
        exact zx_vret C hq d_Mod_goMinute_40 (⟨rfl, a2, b3, c1, rfl, h3, h5⟩)
      · exact absurd (Int32.le_refl _) h15
    | succ n ih =>
      intro v a1 b1 c1 hn h1 h2
      have e1 := hQ_at T m s.2 v
      refine zx_iload C d_Mod_goMinute_7 rfl ?_
      refine zx_ic C d_Mod_goMinute_8 ?_
      refine zx_aload C d_Mod_goMinute_10 rfl ?_
      refine zm_g C f_Mod_90_12 d_Mod_goMinute_11 rfl ?_
      refine zx_imul C d_Mod_goMinute_14 ?_
      rw [e60]
      refine zx_ic_ge C d_Mod_goMinute_15 (fun h15 => ?_) (fun h15 => ?_)
      · exact absurd h15 (nI_ge (by omega) (by omega))
      · refine zx_aload C d_Mod_goMinute_18 rfl ?_
        refine zx_iload C d_Mod_goMinute_19 rfl ?_
        refine zx_iload C d_Mod_goMinute_20 rfl ?_
        refine zr_v (zr_V C l_Mod_191 d_Mod_goMinute_21 (As := [_, _]) rfl rfl (Nat.le_of_ble_eq_true rfl) (c_Mod_happenBusy G _ _ _ _ _ _ _ _ _ T (by exact hr) (s.2 v) v m (by omega) (fun f hf => by rw [h2 v (by omega) f hf, e1]) hm) 0 rfl rfl ⟨Nat.le_of_ble_eq_true rfl, Nat.le_of_ble_eq_true rfl, Nat.le_of_ble_eq_true rfl, Nat.le_of_ble_eq_true rfl⟩) (fun w1 hp => ?_)
        obtain ⟨b2, c2, rfl, h3, h4⟩ := hp
        refine zx_iinc C d_Mod_goMinute_24 (by decide) rfl (lv1 := [(2, _), (0, _), (1, _)]) rfl ?_
        refine zx_goto C d_Mod_goMinute_27 ?_
        have k1 := ih (v + 1) a1 b2 c2 (by omega) h1 (hQ_s T m s.2 (fun w hw f hf hne => (h4 w hw f hf hne).trans (h2 w hw f hf)) h3)
        rw [nI_succ v] at k1
        exact zx_lv [0, 1, 2] rfl k1
  refine zx_aload C d_Mod_goMinute_0 rfl ?_
  refine zx_iload C d_Mod_goMinute_1 rfl ?_
  refine zr_v (zr_V C l_Mod_187 d_Mod_goMinute_2 (As := [_]) rfl rfl (Nat.le_of_ble_eq_true rfl) (c_Mod_happenIdle G _ _ _ _ _ _ _ _ _ T (by exact hr) s.1 (by exact ha) m hm) 0 rfl rfl ⟨Nat.le_of_ble_eq_true rfl, Nat.le_of_ble_eq_true rfl, Nat.le_of_ble_eq_true rfl, Nat.le_of_ble_eq_true rfl⟩) (fun w1 hp => ?_)
  obtain ⟨a1, c1, rfl, h1⟩ := hp
  refine zx_ic C d_Mod_goMinute_5 ?_
  refine zx_istore C d_Mod_goMinute_6 (by decide) (lv1 := [(2, _), (0, _), (1, _)]) rfl ?_
  exact zx_lv [0, 1, 2] rfl (lp (10 * T.2.1) 0 a1 b c1 (by omega) h1 (by rw [hQ_0]; exact hb))
set_option maxHeartbeats 4000000 in
set_option maxRecDepth 20000 in
theorem c_Mod_layCanBe (G : ZG) (o : Nat) (ad : Nat → Nat) (F : Nat → Int32) (R : Nat → Nat → Int32) (X : va_W) (a b c d : Nat → Int32) (T : ZT) (hr : mrep T F R) (s : (Nat → Bool) × (Nat → Nat → Bool)) (ha : brep a s.1) (hb : qrep b s.2) : ZM G y_Mod_layCanBe b_Mod_layCanBe 3 none r_Mod_layCanBe [.ref o] (mw G o ad F (stR R a b c d) ++ X) (zpv (fun w => ∃ d1, w = mw G o ad F (stR R a b c d1) ++ X ∧ brep d1 (fun f => s.1 f || anyN (fun w => s.2 w f) (10 * T.2.1)))) := by
  refine ZM.of "SameTuesdayModel" "layCanBe" rfl rfl (by decide) (Nat.le_of_ble_eq_true rfl) (fun Y C hq => ?_)
  change ZV G Y 0 0 0 [(0, .ref o)] [] (mw G o ad F (stR R a b c d) ++ X)
  have ht := hr.1
  have hD5 : T.2.1 ≤ 5 := ht.2.1
  have e6 : F 6 = nI T.2.1 := hr.2.2.1
  have e60 : (10 : Int32) * F 6 = nI (10 * T.2.1) := by rw [e6, show (10 : Int32) = nI 10 from rfl, pk_mul]
  have outer : ∀ n f d1, f + n = 64 → (∀ g, g < f → d1 g = bi ((fun f => s.1 f || anyN (fun w => s.2 w f) (10 * T.2.1)) g)) → ZV G Y 0 0 2 [(0, .ref o), (1, .int (nI f))] [] (mw G o ad F (stR R a b c d1) ++ X) := by
    intro n
    induction n with
    | zero =>
      intro f d1 hn h1
      obtain rfl : f = 64 := by omega
      refine zx_iload C d_Mod_layCanBe_2 rfl ?_
      refine zx_ic C d_Mod_layCanBe_3 ?_
      refine zx_ic_ge C d_Mod_layCanBe_5 (fun h5 => ?_) (fun h5 => ?_)
      · exact zx_vret C hq d_Mod_layCanBe_65 (⟨rfl, d1, rfl, h1⟩)
      · exact absurd (Int32.le_refl _) h5
    | succ n ih =>
      intro f d1 hn h1
      have ihf := ih
      have inner : ∀ n v d1, v + n = (10 * T.2.1) → (∀ g, g < f → d1 g = bi ((fun f => s.1 f || anyN (fun w => s.2 w f) (10 * T.2.1)) g)) → (d1 f = bi (s.1 f || anyN (fun w => s.2 w f) v)) → ZV G Y 0 0 22 [(0, .ref o), (1, .int (nI f)), (2, .int (nI v))] [] (mw G o ad F (stR R a b c d1) ++ X) := by
        intro n
        induction n with
        | zero =>
          intro v d1 hn h1 h2
          obtain rfl : v = (10 * T.2.1) := by omega
          refine zx_iload C d_Mod_layCanBe_22 rfl ?_
          refine zx_ic C d_Mod_layCanBe_23 ?_
          refine zx_aload C d_Mod_layCanBe_25 rfl ?_
          refine zm_g C f_Mod_90_12 d_Mod_layCanBe_26 rfl ?_
          refine zx_imul C d_Mod_layCanBe_29 ?_
          rw [e60]
          refine zx_ic_ge C d_Mod_layCanBe_30 (fun h30 => ?_) (fun h30 => ?_)
          · refine zx_iinc C d_Mod_layCanBe_59 (by decide) rfl (lv1 := [(1, _), (0, _), (2, _)]) rfl ?_
            refine zx_goto C d_Mod_layCanBe_62 ?_
            have k1 := ihf (f + 1) d1 (by omega) (fun g hg => by by_cases e : g = f; (rw [e]; exact h2); (exact h1 g (by omega)))
            rw [nI_succ f] at k1
            exact zx_lv [0, 1] rfl k1
          · exact absurd (Int32.le_refl _) h30
        | succ n ih =>
          intro v d1 hn h1 h2
          have eb := hb v (by omega) f (by omega)
          refine zx_iload C d_Mod_layCanBe_22 rfl ?_
          refine zx_ic C d_Mod_layCanBe_23 ?_
          refine zx_aload C d_Mod_layCanBe_25 rfl ?_
          refine zm_g C f_Mod_90_12 d_Mod_layCanBe_26 rfl ?_
          refine zx_imul C d_Mod_layCanBe_29 ?_
          rw [e60]
          refine zx_ic_ge C d_Mod_layCanBe_30 (fun h30 => ?_) (fun h30 => ?_)
          · exact absurd h30 (nI_ge (by omega) (by omega))
          · refine zx_aload C d_Mod_layCanBe_33 rfl ?_
            refine zm_g C f_Mod_72_12 d_Mod_layCanBe_34 rfl ?_
            refine zx_iload C d_Mod_layCanBe_37 rfl ?_
            refine zx_dup2 C rfl rfl d_Mod_layCanBe_38 ?_
            refine zm_zld31 C d_Mod_layCanBe_39 f rfl (by omega) ?_
            refine zx_aload C d_Mod_layCanBe_40 rfl ?_
            refine zm_g C f_Mod_66_12 d_Mod_layCanBe_41 rfl ?_
            refine zx_ic C d_Mod_layCanBe_44 ?_
            refine zx_iload C d_Mod_layCanBe_46 rfl ?_
            refine zx_imul C d_Mod_layCanBe_47 ?_
            refine zx_iload C d_Mod_layCanBe_48 rfl ?_
            refine zx_iadd C d_Mod_layCanBe_49 ?_
            refine zm_zld29 C d_Mod_layCanBe_50 (64 * v + f) (by rw [show (64 : Int32) = nI 64 from rfl, pk_mul, nI_add]) (by omega) ?_
            rw [show stR R a b c d1 31 f = bi (s.1 f || anyN (fun w => s.2 w f) v) from h2, show stR R a b c d1 29 (64 * v + f) = bi (s.2 v f) from eb]
            refine zx_ior C d_Mod_layCanBe_51 ?_
            rw [bi_or, Bool.or_assoc]
            refine zm_zst31 C d_Mod_layCanBe_52 f rfl (by omega) bi_01 ?_
            rw [stR_d]
            refine zx_iinc C d_Mod_layCanBe_53 (by decide) rfl (lv1 := [(2, _), (0, _), (1, _)]) rfl ?_
            refine zx_goto C d_Mod_layCanBe_56 ?_
            have k1 := ih (v + 1) (upd d1 f (bi (s.1 f || (anyN (fun w => s.2 w f) v || s.2 v f)))) (by omega) (fun g hg => by rw [upd_ne _ _ (by omega)]; exact h1 g hg) (upd_eq _ _ _)
            rw [nI_succ v] at k1
            exact zx_lv [0, 1, 2] rfl k1
      refine zx_iload C d_Mod_layCanBe_2 rfl ?_
      refine zx_ic C d_Mod_layCanBe_3 ?_
      refine zx_ic_ge C d_Mod_layCanBe_5 (fun h5 => ?_) (fun h5 => ?_)
      · exact absurd h5 (nI_ge (a := f) (b := 64) (by omega) (by omega))
      · refine zx_aload C d_Mod_layCanBe_8 rfl ?_
        refine zm_g C f_Mod_72_12 d_Mod_layCanBe_9 rfl ?_
        refine zx_iload C d_Mod_layCanBe_12 rfl ?_
        refine zx_aload C d_Mod_layCanBe_13 rfl ?_
        refine zm_g C f_Mod_63_12 d_Mod_layCanBe_14 rfl ?_
        refine zx_iload C d_Mod_layCanBe_17 rfl ?_
        refine zm_zld28 C d_Mod_layCanBe_18 f rfl (by omega) ?_
        refine zm_zst31 C d_Mod_layCanBe_19 f rfl (by omega) (by show a f = 0 ∨ a f = 1; rw [ha f (by omega)]; exact bi_01) ?_
        rw [stR_d]
        refine zx_ic C d_Mod_layCanBe_20 ?_
        refine zx_istore C d_Mod_layCanBe_21 (by decide) (lv1 := [(2, _), (0, _), (1, _)]) rfl ?_
        exact zx_lv [0, 1, 2] rfl (inner (10 * T.2.1) 0 (upd d1 f (a f)) (by omega) (fun g hg => by rw [upd_ne _ _ (by omega)]; exact h1 g hg) (by rw [upd_eq, ha f (by omega)]; simp [anyN]))
  refine zx_ic C d_Mod_layCanBe_0 ?_
  refine zx_istore C d_Mod_layCanBe_1 (by decide) (lv1 := [(1, _), (0, _)]) rfl ?_
  exact zx_lv [0, 1] rfl (outer 64 0 d (by omega) (fun g hg => absurd hg (by omega)))
set_option maxHeartbeats 4000000 in
set_option maxRecDepth 20000 in
theorem c_Mod_goStates (G : ZG) (o : Nat) (ad : Nat → Nat) (F : Nat → Int32) (R : Nat → Nat → Int32) (X : va_W) (a b c d : Nat → Int32) (T : ZT) (hr : mrep T F R) (la : Nat) (hla : la ≤ 60) : ZM G y_Mod_goStates b_Mod_goStates 3 none r_Mod_goStates [.ref o, .int (nI la)] (mw G o ad F (stR R a b c d) ++ X) (zpv (fun w => ∃ a1 b1 c1 d1, w = mw G o ad F (stR R a1 b1 c1 d1) ++ X ∧ brep d1 (cbe T (min T.2.2.1 (la + 1))))) := by
  refine ZM.of "SameTuesdayModel" "goStates" rfl rfl (by decide) (Nat.le_of_ble_eq_true rfl) (fun Y C hq => ?_)
  change ZV G Y 0 0 0 [(0, .ref o), (1, .int (nI la))] [] (mw G o ad F (stR R a b c d) ++ X)
  have ht := hr.1
  have e7 : F 7 = nI T.2.2.1 := hr.2.2.2.1
  have hM : T.2.2.1 ≤ 60 := ht.2.2.1
  have lp : ∀ n m a1 b1 c1, m + n = (min T.2.2.1 (la + 1)) → (brep a1 (gst T m).1) → (qrep b1 (gst T m).2) → ZV G Y 0 0 6 [(0, .ref o), (1, .int (nI la)), (2, .int (nI m))] [] (mw G o ad F (stR R a1 b1 c1 d) ++ X) := by
    intro n
    induction n with
    | zero =>
      intro m a1 b1 c1 hn h1 h2
      obtain rfl : m = (min T.2.2.1 (la + 1)) := by omega
      refine zx_iload C d_Mod_goStates_6 rfl ?_
      refine zx_aload C d_Mod_goStates_7 rfl ?_
      refine zm_g C f_Mod_120_12 d_Mod_goStates_8 rfl ?_
      refine zx_ic_ge C d_Mod_goStates_11 (fun h11 => ?_) (fun h11 => ?_)
      · refine zx_aload C d_Mod_goStates_30 rfl ?_
        refine zr_v (zr_V C l_Mod_207 d_Mod_goStates_31 (As := []) rfl rfl (Nat.le_of_ble_eq_true rfl) (c_Mod_layCanBe G _ _ _ _ _ _ _ _ _ T (by exact hr) (gst T (min T.2.2.1 (la + 1))) (by exact h1) (by exact h2)) 0 rfl rfl ⟨Nat.le_of_ble_eq_true rfl, Nat.le_of_ble_eq_true rfl, Nat.le_of_ble_eq_true rfl, Nat.le_of_ble_eq_true rfl⟩) (fun w1 hp => ?_)
        obtain ⟨d1, rfl, h3⟩ := hp
        exact zx_vret C hq d_Mod_goStates_34 (⟨rfl, a1, b1, c1, d1, rfl, h3⟩)
      · have hlt : (min T.2.2.1 (la + 1)) < T.2.2.1 := Classical.byContradiction fun z => h11 (by show F 7 ≤ _; rw [e7]; exact nI_le (by omega) (by omega))
        refine zx_iload C d_Mod_goStates_14 rfl ?_
        refine zx_iload C d_Mod_goStates_15 rfl ?_
        refine zx_ic_gt C d_Mod_goStates_16 (fun h16 => ?_) (fun h16 => ?_)
        · refine zx_aload C d_Mod_goStates_30 rfl ?_
          refine zr_v (zr_V C l_Mod_207 d_Mod_goStates_31 (As := []) rfl rfl (Nat.le_of_ble_eq_true rfl) (c_Mod_layCanBe G _ _ _ _ _ _ _ _ _ T (by exact hr) (gst T (min T.2.2.1 (la + 1))) (by exact h1) (by exact h2)) 0 rfl rfl ⟨Nat.le_of_ble_eq_true rfl, Nat.le_of_ble_eq_true rfl, Nat.le_of_ble_eq_true rfl, Nat.le_of_ble_eq_true rfl⟩) (fun w1 hp => ?_)
          obtain ⟨d1, rfl, h3⟩ := hp
          exact zx_vret C hq d_Mod_goStates_34 (⟨rfl, a1, b1, c1, d1, rfl, h3⟩)
        · exact absurd (nI_lt (by omega) (by omega)) h16
    | succ n ih =>
      intro m a1 b1 c1 hn h1 h2
      refine zx_iload C d_Mod_goStates_6 rfl ?_
      refine zx_aload C d_Mod_goStates_7 rfl ?_
      refine zm_g C f_Mod_120_12 d_Mod_goStates_8 rfl ?_
      refine zx_ic_ge C d_Mod_goStates_11 (fun h11 => ?_) (fun h11 => ?_)
      · exact absurd h11 (by show ¬ F 7 ≤ _; rw [e7]; exact nI_ge (by omega) (by omega))
      · refine zx_iload C d_Mod_goStates_14 rfl ?_
        refine zx_iload C d_Mod_goStates_15 rfl ?_
        refine zx_ic_gt C d_Mod_goStates_16 (fun h16 => ?_) (fun h16 => ?_)
        · exact absurd h16 (nI_nlt (by omega) (by omega))
        · refine zx_aload C d_Mod_goStates_19 rfl ?_
          refine zx_iload C d_Mod_goStates_20 rfl ?_
          refine zr_v (zr_V C l_Mod_204 d_Mod_goStates_21 (As := [_]) rfl rfl (Nat.le_of_ble_eq_true rfl) (c_Mod_goMinute G _ _ _ _ _ _ _ _ _ T (by exact hr) (gst T m) (by exact h1) (by exact h2) m (by omega)) 0 rfl rfl ⟨Nat.le_of_ble_eq_true rfl, Nat.le_of_ble_eq_true rfl, Nat.le_of_ble_eq_true rfl, Nat.le_of_ble_eq_true rfl⟩) (fun w1 hp => ?_)
          obtain ⟨a2, b2, c2, rfl, h3, h4⟩ := hp
          refine zx_iinc C d_Mod_goStates_24 (by decide) rfl (lv1 := [(2, _), (0, _), (1, _)]) rfl ?_
          refine zx_goto C d_Mod_goStates_27 ?_
          have k1 := ih (m + 1) a2 b2 c2 (by omega) h3 h4
          rw [nI_succ m] at k1
          exact zx_lv [0, 1, 2] rfl k1
  refine zx_aload C d_Mod_goStates_0 rfl ?_
  refine zr_v (zr_V C l_Mod_201 d_Mod_goStates_1 (As := []) rfl rfl (Nat.le_of_ble_eq_true rfl) (c_Mod_beginStates G _ _ _ _ _ _ _ _ _ T) 0 rfl rfl ⟨Nat.le_of_ble_eq_true rfl, Nat.le_of_ble_eq_true rfl, Nat.le_of_ble_eq_true rfl, Nat.le_of_ble_eq_true rfl⟩) (fun w1 hp => ?_)
  obtain ⟨a1, b1, rfl, h1, h2⟩ := hp
  refine zx_ic C d_Mod_goStates_4 ?_
  refine zx_istore C d_Mod_goStates_5 (by decide) (lv1 := [(2, _), (0, _), (1, _)]) rfl ?_
  exact zx_lv [0, 1, 2] rfl (lp (min T.2.2.1 (la + 1)) 0 a1 b1 c (by omega) h1 h2)
set_option maxHeartbeats 4000000 in
set_option maxRecDepth 20000 in
theorem c_Mod_isWithinOne (G : ZG) (o : Nat) (ad : Nat → Nat) (F : Nat → Int32) (R : Nat → Nat → Int32) (X : va_W) (a b c d : Nat → Int32) (B : Nat → Bool) (hd : brep d B) (z : Nat) (hz : z < 64) : ZM G y_Mod_isWithinOne b_Mod_isWithinOne 3 (some .boolean) r_Mod_isWithinOne [.ref o, .int (nI z)] (mw G o ad F (stR R a b c d) ++ X) (zdi (zB (wone B z 64 = true)) (mw G o ad F (stR R a b c d) ++ X)) := by
  refine ZM.of "SameTuesdayModel" "isWithinOne" rfl rfl (by decide) (Nat.le_of_ble_eq_true rfl) (fun Y C hq => ?_)
  change ZV G Y 0 0 0 [(0, .ref o), (1, .int (nI z))] [] (mw G o ad F (stR R a b c d) ++ X)
  have lp : ∀ n f , f + n = 64 → (wone B z f = false) → ZV G Y 0 0 2 [(0, .ref o), (1, .int (nI z)), (2, .int (nI f))] [] (mw G o ad F (stR R a b c d) ++ X) := by
    intro n
    induction n with
    | zero =>
      intro f  hn h1
      obtain rfl : f = 64 := by omega
      refine zx_iload C d_Mod_isWithinOne_2 rfl ?_
      refine zx_ic C d_Mod_isWithinOne_3 ?_
      refine zx_ic_ge C d_Mod_isWithinOne_5 (fun h5 => ?_) (fun h5 => ?_)
      · refine zx_ic C d_Mod_isWithinOne_33 ?_
        exact zx_zret C hq (by decide) d_Mod_isWithinOne_34 (⟨by rw [zB_f (by rw [h1]; decide)], rfl⟩)
      · exact absurd (Int32.le_refl _) h5
    | succ n ih =>
      intro f  hn h1
      have ef := hd f (by omega)
      have hu : wone B z (f + 1) = (wone B z f || (B f && (z &&& f == z))) := rfl
      refine zx_iload C d_Mod_isWithinOne_2 rfl ?_
      refine zx_ic C d_Mod_isWithinOne_3 ?_
      refine zx_ic_ge C d_Mod_isWithinOne_5 (fun h5 => ?_) (fun h5 => ?_)
      · exact absurd h5 (nI_ge (a := f) (b := 64) (by omega) (by omega))
      · refine zx_aload C d_Mod_isWithinOne_8 rfl ?_
        refine zm_g C f_Mod_72_12 d_Mod_isWithinOne_9 rfl ?_
        refine zx_iload C d_Mod_isWithinOne_12 rfl ?_
        refine zm_zld31 C d_Mod_isWithinOne_13 f rfl (by omega) ?_
        refine zx_if_eq C d_Mod_isWithinOne_14 (fun h14 => ?_) (fun h14 => ?_)
        · have h2 : wone B z (f + 1) = false := by rw [hu, h1, bi_0.mp (ef.symm.trans h14)]; rfl
          refine zx_iinc C d_Mod_isWithinOne_27 (by decide) rfl (lv1 := [(2, _), (0, _), (1, _)]) rfl ?_
          refine zx_goto C d_Mod_isWithinOne_30 ?_
          have k1 := ih (f + 1) (by omega) h2
          rw [nI_succ f] at k1
          exact zx_lv [0, 1, 2] rfl k1
        · have hB : B f = true := bi_1.mp (fun q => h14 (ef.trans q))
          refine zx_iload C d_Mod_isWithinOne_17 rfl ?_
          refine zx_iload C d_Mod_isWithinOne_18 rfl ?_
          refine zx_ic C d_Mod_isWithinOne_19 ?_
          refine zx_ixor C d_Mod_isWithinOne_20 ?_
          refine zx_iand C d_Mod_isWithinOne_21 ?_
          refine zx_if_ne C d_Mod_isWithinOne_22 (fun h22 => ?_) (fun h22 => ?_)
          · have h2 : wone B z (f + 1) = false := by rw [hu, h1, hB]; simp; exact fun q => h22 ((q_subI hz (by omega)).mpr q)
            refine zx_iinc C d_Mod_isWithinOne_27 (by decide) rfl (lv1 := [(2, _), (0, _), (1, _)]) rfl ?_
            refine zx_goto C d_Mod_isWithinOne_30 ?_
            have k1 := ih (f + 1) (by omega) h2
            rw [nI_succ f] at k1
            exact zx_lv [0, 1, 2] rfl k1
          · have h2 : wone B z 64 = true := anyN_true (j := f) (by omega) (by rw [hB, (q_subI hz (by omega)).mp h22]; simp)
            refine zx_ic C d_Mod_isWithinOne_25 ?_
            exact zx_zret C hq (by decide) d_Mod_isWithinOne_26 (⟨by rw [zB_t h2], rfl⟩)
  refine zx_ic C d_Mod_isWithinOne_0 ?_
  refine zx_istore C d_Mod_isWithinOne_1 (by decide) (lv1 := [(2, _), (0, _), (1, _)]) rfl ?_
  exact zx_lv [0, 1, 2] rfl (lp 64 0 (by omega) rfl)
set_option maxHeartbeats 4000000 in
set_option maxRecDepth 20000 in
theorem c_Mod_can (G : ZG) (o : Nat) (ad : Nat → Nat) (F : Nat → Int32) (R : Nat → Nat → Int32) (X : va_W) (S : ZA) (hm : mrp S F R) (m set : Int32) : ZM G y_Mod_can b_Mod_can 3 (some .int) r_Mod_can [.ref o, .int m, .int set] (mw G o ad F R ++ X) (mpost G o ad X (ap_can S m set) S) := by
  refine ZM.of "SameTuesdayModel" "can" rfl rfl (by decide) (Nat.le_of_ble_eq_true rfl) (fun Y C hq => ?_)
  change ZV G Y 0 0 0 [(0, .ref o), (1, .int m), (2, .int set)] [] (mw G o ad F R ++ X)
  have ht := mrp_tok hm
  have e7 : F 7 = nI (aT S).2.2.1 := mrp_e7 hm
  have hM : (aT S).2.2.1 ≤ 60 := ht.2.2.1
  refine zx_iload C d_Mod_can_0 rfl ?_
  refine zx_ic C d_Mod_can_1 ?_
  refine zx_ic C d_Mod_can_2 ?_
  refine zr_di (zr_S C l_Mod_83 d_Mod_can_4 (As := [_, _, _]) rfl rfl (Nat.le_of_ble_eq_true rfl) (c_Mod_within G _ _ _ _) ⟨Nat.le_of_ble_eq_true rfl, Nat.le_of_ble_eq_true rfl, Nat.le_of_ble_eq_true rfl, Nat.le_of_ble_eq_true rfl⟩) ?_
  refine zx_ifB_eq C d_Mod_can_7 (fun h7 => ?_) (fun h7 => ?_)
  · have ev : ap_can S m set = -2 := if_pos (Or.inl (nand_or h7))
    have hm2 := hm
    refine zx_ic C d_Mod_can_17 ?_
    exact zx_iret C hq d_Mod_can_19 (by rw [ev]; exact mpost_i rfl hm2)
  · refine zx_iload C d_Mod_can_10 rfl ?_
    refine zr_di (zr_S C l_Mod_210 d_Mod_can_11 (As := [_]) rfl rfl (Nat.le_of_ble_eq_true rfl) (c_Mod_isSet G _ _) ⟨Nat.le_of_ble_eq_true rfl, Nat.le_of_ble_eq_true rfl, Nat.le_of_ble_eq_true rfl, Nat.le_of_ble_eq_true rfl⟩) ?_
    refine zx_ifB_ne C d_Mod_can_14 (fun h14 => ?_) (fun h14 => ?_)
    · have ev0 : ap_can S m set = _ := if_neg (nor_of ⟨nor_of h7, nor_of h14⟩)
      refine zx_aload C d_Mod_can_20 rfl ?_
      refine zm_g C f_Mod_87_12 d_Mod_can_21 rfl ?_
      refine zx_if_ne C d_Mod_can_24 (fun h24 => ?_) (fun h24 => ?_)
      · rw [if_neg (fun q => h24 ((mrp_0 hm).mpr q))] at ev0
        obtain ⟨x, hx, rfl⟩ := ix_le (n := 59) (by decide) h7.1 h7.2
        obtain ⟨z, hz, rfl⟩ := ix_le (n := 63) (by decide) h14.1 h14.2
        rw [nI_cl (by omega), nI_cl (by omega)] at ev0
        refine zx_eq rfl rfl (w1 := mw G o ad F (stR R (R 28) (R 29) (R 30) (R 31)) ++ X) (by rw [stR_self]) ?_
        refine zx_aload C d_Mod_can_30 rfl ?_
        refine zx_iload C d_Mod_can_31 rfl ?_
        refine zr_v (zr_V C l_Mod_213 d_Mod_can_32 (As := [_]) rfl rfl (Nat.le_of_ble_eq_true rfl) (c_Mod_goStates G _ _ _ _ _ _ _ _ _ (aT S) (by exact hm.2.2.2.2.1) x (by omega)) 0 rfl rfl ⟨Nat.le_of_ble_eq_true rfl, Nat.le_of_ble_eq_true rfl, Nat.le_of_ble_eq_true rfl, Nat.le_of_ble_eq_true rfl⟩) (fun w1 hp => ?_)
        obtain ⟨a1, b1, c1, d1, rfl, h1⟩ := hp
        refine zx_aload C d_Mod_can_35 rfl ?_
        refine zm_g C f_Mod_72_12 d_Mod_can_36 rfl ?_
        refine zx_iload C d_Mod_can_39 rfl ?_
        refine zm_zld31 C d_Mod_can_40 z rfl (by omega) ?_
        refine zx_if_eq C d_Mod_can_41 (fun h41 => ?_) (fun h41 => ?_)
        · have ev : ap_can S (nI x) (nI z) = 0 := ev0.trans ((h1 z (by omega)).symm.trans h41)
          have hm2 : mrp S F (stR R a1 b1 c1 d1) := hm
          refine zx_ic C d_Mod_can_48 ?_
          exact zx_iret C hq d_Mod_can_49 (by rw [ev]; exact mpost_i rfl hm2)
        · have ev : ap_can S (nI x) (nI z) = 1 := by rw [ev0, bi_1.mp (fun q => h41 ((h1 z (by omega)).trans q))]; rfl
          have hm2 : mrp S F (stR R a1 b1 c1 d1) := hm
          refine zx_ic C d_Mod_can_44 ?_
          refine zx_goto C d_Mod_can_45 ?_
          exact zx_iret C hq d_Mod_can_49 (by rw [ev]; exact mpost_i rfl hm2)
      · rw [if_pos ((mrp_0 hm).mp h24)] at ev0
        have ev := ev0
        have hm2 := hm
        refine zx_ic C d_Mod_can_27 ?_
        exact zx_iret C hq d_Mod_can_29 (by rw [ev]; exact mpost_i rfl hm2)
    · have ev : ap_can S m set = -2 := if_pos (Or.inr (nand_or h14))
      have hm2 := hm
      refine zx_ic C d_Mod_can_17 ?_
      exact zx_iret C hq d_Mod_can_19 (by rw [ev]; exact mpost_i rfl hm2)
set_option maxHeartbeats 4000000 in
set_option maxRecDepth 20000 in
theorem c_Mod_soonest (G : ZG) (o : Nat) (ad : Nat → Nat) (F : Nat → Int32) (R : Nat → Nat → Int32) (X : va_W) (S : ZA) (hm : mrp S F R) (set : Int32) : ZM G y_Mod_soonest b_Mod_soonest 3 (some .int) r_Mod_soonest [.ref o, .int set] (mw G o ad F R ++ X) (mpost G o ad X (ap_soon S set) S) := by
  refine ZM.of "SameTuesdayModel" "soonest" rfl rfl (by decide) (Nat.le_of_ble_eq_true rfl) (fun Y C hq => ?_)
  change ZV G Y 0 0 0 [(0, .ref o), (1, .int set)] [] (mw G o ad F R ++ X)
  have ht := mrp_tok hm
  have e7 : F 7 = nI (aT S).2.2.1 := mrp_e7 hm
  have hM : (aT S).2.2.1 ≤ 60 := ht.2.2.1
  refine zx_iload C d_Mod_soonest_0 rfl ?_
  refine zr_di (zr_S C l_Mod_210 d_Mod_soonest_1 (As := [_]) rfl rfl (Nat.le_of_ble_eq_true rfl) (c_Mod_isSet G _ _) ⟨Nat.le_of_ble_eq_true rfl, Nat.le_of_ble_eq_true rfl, Nat.le_of_ble_eq_true rfl, Nat.le_of_ble_eq_true rfl⟩) ?_
  refine zx_ifB_ne C d_Mod_soonest_4 (fun h4 => ?_) (fun h4 => ?_)
  · have ev0 : ap_soon S set = _ := if_neg (nor_of h4)
    refine zx_aload C d_Mod_soonest_10 rfl ?_
    refine zm_g C f_Mod_87_12 d_Mod_soonest_11 rfl ?_
    refine zx_if_ne C d_Mod_soonest_14 (fun h14 => ?_) (fun h14 => ?_)
    · rw [if_neg (fun q => h14 ((mrp_0 hm).mpr q))] at ev0
      obtain ⟨z, hz, rfl⟩ := ix_le (n := 63) (by decide) h4.1 h4.2
      rw [nI_cl (by omega)] at ev0
      refine zx_eq rfl rfl (w1 := mw G o ad F (stR R (R 28) (R 29) (R 30) (R 31)) ++ X) (by rw [stR_self]) ?_
      have lp : ∀ n m a1 b1 c1 d1, m + n = (aT S).2.2.1 → (brep a1 (gst (aT S) m).1) → (qrep b1 (gst (aT S) m).2) → (ap_soon S (nI z) = soonF (aT S) z ((aT S).2.2.1 - m) m) → ZV G Y 0 0 26 [(0, .ref o), (1, .int (nI z)), (2, .int (nI m))] [] (mw G o ad F (stR R a1 b1 c1 d1) ++ X) := by
        intro n
        induction n with
        | zero =>
          intro m a1 b1 c1 d1 hn h1 h2 h3
          obtain rfl : m = (aT S).2.2.1 := by omega
          refine zx_iload C d_Mod_soonest_26 rfl ?_
          refine zx_aload C d_Mod_soonest_27 rfl ?_
          refine zm_g C f_Mod_120_12 d_Mod_soonest_28 rfl ?_
          refine zx_ic_ge C d_Mod_soonest_31 (fun h31 => ?_) (fun h31 => ?_)
          · refine zx_ic C d_Mod_soonest_59 ?_
            exact zx_iret C hq d_Mod_soonest_61 (by rw [h3, Nat.sub_self]; exact mpost_i rfl hm)
          · exact absurd (by show F 7 ≤ _; rw [e7]; exact Int32.le_refl _) h31
        | succ n ih =>
          intro m a1 b1 c1 d1 hn h1 h2 h3
          have hu : soonF (aT S) z ((aT S).2.2.1 - m) m = if wone (cbe (aT S) (m + 1)) z 64 = true then nI m else soonF (aT S) z ((aT S).2.2.1 - (m + 1)) (m + 1) := by rw [show (aT S).2.2.1 - m = ((aT S).2.2.1 - (m + 1)) + 1 by omega, soonF]
          refine zx_iload C d_Mod_soonest_26 rfl ?_
          refine zx_aload C d_Mod_soonest_27 rfl ?_
          refine zm_g C f_Mod_120_12 d_Mod_soonest_28 rfl ?_
          refine zx_ic_ge C d_Mod_soonest_31 (fun h31 => ?_) (fun h31 => ?_)
          · exact absurd h31 (by show ¬ F 7 ≤ _; rw [e7]; exact nI_ge (by omega) (by omega))
          · refine zx_aload C d_Mod_soonest_34 rfl ?_
            refine zx_iload C d_Mod_soonest_35 rfl ?_
            refine zr_v (zr_V C l_Mod_204 d_Mod_soonest_36 (As := [_]) rfl rfl (Nat.le_of_ble_eq_true rfl) (c_Mod_goMinute G _ _ _ _ _ _ _ _ _ (aT S) (by exact hm.2.2.2.2.1) (gst (aT S) m) (by exact h1) (by exact h2) m (by omega)) 0 rfl rfl ⟨Nat.le_of_ble_eq_true rfl, Nat.le_of_ble_eq_true rfl, Nat.le_of_ble_eq_true rfl, Nat.le_of_ble_eq_true rfl⟩) (fun w1 hp => ?_)
            obtain ⟨a2, b2, c2, rfl, h4, h5⟩ := hp
            refine zx_aload C d_Mod_soonest_39 rfl ?_
            refine zr_v (zr_V C l_Mod_207 d_Mod_soonest_40 (As := []) rfl rfl (Nat.le_of_ble_eq_true rfl) (c_Mod_layCanBe G _ _ _ _ _ _ _ _ _ (aT S) (by exact hm.2.2.2.2.1) (gst (aT S) (m + 1)) (by exact h4) (by exact h5)) 0 rfl rfl ⟨Nat.le_of_ble_eq_true rfl, Nat.le_of_ble_eq_true rfl, Nat.le_of_ble_eq_true rfl, Nat.le_of_ble_eq_true rfl⟩) (fun w1 hp => ?_)
            obtain ⟨d2, rfl, h6⟩ := hp
            refine zx_aload C d_Mod_soonest_43 rfl ?_
            refine zx_iload C d_Mod_soonest_44 rfl ?_
            refine zr_di (zr_V C l_Mod_216 d_Mod_soonest_45 (As := [_]) rfl rfl (Nat.le_of_ble_eq_true rfl) (c_Mod_isWithinOne G _ _ _ _ _ _ _ _ _ (cbe (aT S) (m + 1)) (by exact h6) z (by omega)) 0 rfl rfl ⟨Nat.le_of_ble_eq_true rfl, Nat.le_of_ble_eq_true rfl, Nat.le_of_ble_eq_true rfl, Nat.le_of_ble_eq_true rfl⟩) ?_
            refine zx_ifB_eq C d_Mod_soonest_48 (fun h48 => ?_) (fun h48 => ?_)
            · rw [if_neg h48] at hu
              refine zx_iinc C d_Mod_soonest_53 (by decide) rfl (lv1 := [(2, _), (0, _), (1, _)]) rfl ?_
              refine zx_goto C d_Mod_soonest_56 ?_
              have k1 := ih (m + 1) a2 b2 c2 d2 (by omega) h4 h5 (h3.trans hu)
              rw [nI_succ m] at k1
              exact zx_lv [0, 1, 2] rfl k1
            · rw [if_pos h48] at hu
              refine zx_iload C d_Mod_soonest_51 rfl ?_
              exact zx_iret C hq d_Mod_soonest_52 (by rw [h3.trans hu]; exact mpost_i rfl hm)
      refine zx_aload C d_Mod_soonest_20 rfl ?_
      refine zr_v (zr_V C l_Mod_201 d_Mod_soonest_21 (As := []) rfl rfl (Nat.le_of_ble_eq_true rfl) (c_Mod_beginStates G _ _ _ _ _ _ _ _ _ (aT S)) 0 rfl rfl ⟨Nat.le_of_ble_eq_true rfl, Nat.le_of_ble_eq_true rfl, Nat.le_of_ble_eq_true rfl, Nat.le_of_ble_eq_true rfl⟩) (fun w1 hp => ?_)
      obtain ⟨a1, b1, rfl, h1, h2⟩ := hp
      refine zx_ic C d_Mod_soonest_24 ?_
      refine zx_istore C d_Mod_soonest_25 (by decide) (lv1 := [(2, _), (0, _), (1, _)]) rfl ?_
      exact zx_lv [0, 1, 2] rfl (lp (aT S).2.2.1 0 a1 b1 (R 30) (R 31) (by omega) h1 h2 ev0)
    · rw [if_pos ((mrp_0 hm).mp h14)] at ev0
      have ev := ev0
      have hm2 := hm
      refine zx_ic C d_Mod_soonest_17 ?_
      exact zx_iret C hq d_Mod_soonest_19 (by rw [ev]; exact mpost_i rfl hm2)
  · have ev : ap_soon S set = -2 := if_pos (nand_or h4)
    have hm2 := hm
    refine zx_ic C d_Mod_soonest_7 ?_
    exact zx_iret C hq d_Mod_soonest_9 (by rw [ev]; exact mpost_i rfl hm2)
set_option maxHeartbeats 4000000 in
set_option maxRecDepth 20000 in
theorem c_Mod_bar (G : ZG) (o : Nat) (ad : Nat → Nat) (F : Nat → Int32) (R : Nat → Nat → Int32) (X : va_W) (S : ZA) (hm : mrp S F R) (set : Int32) : ZM G y_Mod_bar b_Mod_bar 5 (some .int) r_Mod_bar [.ref o, .int set] (mw G o ad F R ++ X) (mpost G o ad X (ap_bar S set) S) := by
  refine ZM.of "SameTuesdayModel" "bar" rfl rfl (by decide) (Nat.le_of_ble_eq_true rfl) (fun Y C hq => ?_)
  change ZV G Y 0 0 0 [(0, .ref o), (1, .int set)] [] (mw G o ad F R ++ X)
  have ht := mrp_tok hm
  have e7 : F 7 = nI (aT S).2.2.1 := mrp_e7 hm
  have hM : (aT S).2.2.1 ≤ 60 := ht.2.2.1
  refine zx_iload C d_Mod_bar_0 rfl ?_
  refine zr_di (zr_S C l_Mod_210 d_Mod_bar_1 (As := [_]) rfl rfl (Nat.le_of_ble_eq_true rfl) (c_Mod_isSet G _ _) ⟨Nat.le_of_ble_eq_true rfl, Nat.le_of_ble_eq_true rfl, Nat.le_of_ble_eq_true rfl, Nat.le_of_ble_eq_true rfl⟩) ?_
  refine zx_ifB_ne C d_Mod_bar_4 (fun h4 => ?_) (fun h4 => ?_)
  · have ev0 : ap_bar S set = _ := if_neg (nor_of h4)
    refine zx_aload C d_Mod_bar_10 rfl ?_
    refine zm_g C f_Mod_87_12 d_Mod_bar_11 rfl ?_
    refine zx_if_ne C d_Mod_bar_14 (fun h14 => ?_) (fun h14 => ?_)
    · rw [if_neg (fun q => h14 ((mrp_0 hm).mpr q))] at ev0
      obtain ⟨z, hz, rfl⟩ := ix_le (n := 63) (by decide) h4.1 h4.2
      rw [nI_cl (by omega)] at ev0
      refine zx_eq rfl rfl (w1 := mw G o ad F (stR R (R 28) (R 29) (R 30) (R 31)) ++ X) (by rw [stR_self]) ?_
      refine zx_aload C d_Mod_bar_20 rfl ?_
      refine zx_ic C d_Mod_bar_21 ?_
      refine zr_v (zr_V C l_Mod_213 d_Mod_bar_23 (As := [_]) rfl rfl (Nat.le_of_ble_eq_true rfl) (c_Mod_goStates G _ _ _ _ _ _ _ _ _ (aT S) (by exact hm.2.2.2.2.1) 60 (by decide)) 0 rfl rfl ⟨Nat.le_of_ble_eq_true rfl, Nat.le_of_ble_eq_true rfl, Nat.le_of_ble_eq_true rfl, Nat.le_of_ble_eq_true rfl⟩) (fun w1 hp => ?_)
      obtain ⟨a1, b1, c1, d1, rfl, h1⟩ := hp
      rw [show min (aT S).2.2.1 (60 + 1) = (aT S).2.2.1 by omega] at h1
      have outer : ∀ n x , x + n = 6 → (ap_bar S (nI z) = barO (cbe (aT S) (aT S).2.2.1) z (6 - x) x) → ZV G Y 0 0 28 [(0, .ref o), (1, .int (nI z)), (2, .int (nI x))] [] (mw G o ad F (stR R a1 b1 c1 d1) ++ X) := by
        intro n
        induction n with
        | zero =>
          intro x  hn h3
          obtain rfl : x = 6 := by omega
          refine zx_iload C d_Mod_bar_28 rfl ?_
          refine zx_ic C d_Mod_bar_29 ?_
          refine zx_ic_ge C d_Mod_bar_31 (fun h31 => ?_) (fun h31 => ?_)
          · refine zx_ic C d_Mod_bar_90 ?_
            exact zx_iret C hq d_Mod_bar_92 (by rw [h3]; exact mpost_i rfl hm)
          · exact absurd (Int32.le_refl _) h31
        | succ n ih =>
          intro x  hn h3
          obtain ⟨k, hk⟩ : ∃ k, 6 - x = k + 1 := ⟨5 - x, by omega⟩
          rw [hk, barO, show 5 - x = 6 - (x + 1) by omega] at h3
          have ihx : ∀ y, y + n = 6 → ap_bar S (nI z) = barO (cbe (aT S) (aT S).2.2.1) z k y → ZV G Y 0 0 28 [(0, .ref o), (1, .int (nI z)), (2, .int (nI y))] [] (mw G o ad F (stR R a1 b1 c1 d1) ++ X) := fun y hy h => ih y hy (by rw [show 6 - y = k by omega]; exact h)
          have inner : ∀ n y , y + n = 6 → (x < y) → (ap_bar S (nI z) = (match barI (cbe (aT S) (aT S).2.2.1) z x (6 - y) y with | some v => v | none => barO (cbe (aT S) (aT S).2.2.1) z k (x + 1))) → ZV G Y 0 0 38 [(0, .ref o), (1, .int (nI z)), (2, .int (nI x)), (3, .int (nI y))] [] (mw G o ad F (stR R a1 b1 c1 d1) ++ X) := by
            intro n
            induction n with
            | zero =>
              intro y  hn hxy h3
              obtain rfl : y = 6 := by omega
              refine zx_iload C d_Mod_bar_38 rfl ?_
              refine zx_ic C d_Mod_bar_39 ?_
              refine zx_ic_ge C d_Mod_bar_41 (fun h41 => ?_) (fun h41 => ?_)
              · refine zx_iinc C d_Mod_bar_84 (by decide) rfl (lv1 := [(2, _), (0, _), (1, _), (3, _)]) rfl ?_
                refine zx_goto C d_Mod_bar_87 ?_
                have k1 := ihx (x + 1) (by omega) (by rw [h3]; rfl)
                rw [nI_succ x] at k1
                exact zx_lv [0, 1, 2] rfl k1
              · exact absurd (Int32.le_refl _) h41
            | succ n ih =>
              intro y  hn hxy h3
              have hu : barI (cbe (aT S) (aT S).2.2.1) z x (6 - y) y = if z &&& both2 x y = both2 x y ∧ wone (cbe (aT S) (aT S).2.2.1) (both2 x y) 64 = false then some (nI (10 * x + y)) else barI (cbe (aT S) (aT S).2.2.1) z x (6 - (y + 1)) (y + 1) := by rw [show 6 - y = (6 - (y + 1)) + 1 by omega, barI]
              have hb64 := q_both64 x (by omega) y (by omega)
              refine zx_iload C d_Mod_bar_38 rfl ?_
              refine zx_ic C d_Mod_bar_39 ?_
              refine zx_ic_ge C d_Mod_bar_41 (fun h41 => ?_) (fun h41 => ?_)
              · exact absurd h41 (nI_ge (a := y) (b := 6) (by omega) (by omega))
              · refine zx_ic C d_Mod_bar_44 ?_
                refine zx_iload C d_Mod_bar_45 rfl ?_
                refine zx_ishl C d_Mod_bar_46 ?_
                refine zx_ic C d_Mod_bar_47 ?_
                refine zx_iload C d_Mod_bar_48 rfl ?_
                refine zx_ishl C d_Mod_bar_49 ?_
                refine zx_ior C d_Mod_bar_50 ?_
                rw [q_both x (by omega) y (by omega)]
                refine zx_istore C d_Mod_bar_51 (by decide) (lv1 := [(4, _), (0, _), (1, _), (2, _), (3, _)]) rfl ?_
                refine zx_iload C d_Mod_bar_53 rfl ?_
                refine zx_iload C d_Mod_bar_54 rfl ?_
                refine zx_iand C d_Mod_bar_56 ?_
                rw [q_andN z (by omega) _ hb64]
                refine zx_iload C d_Mod_bar_57 rfl ?_
                refine zx_ic_ne C d_Mod_bar_59 (fun h59 => ?_) (fun h59 => ?_)
                · rw [if_neg (fun q => h59 (congrArg nI q.1))] at hu
                  rw [hu] at h3
                  refine zx_iinc C d_Mod_bar_78 (by decide) rfl (lv1 := [(3, _), (4, _), (0, _), (1, _), (2, _)]) rfl ?_
                  refine zx_goto C d_Mod_bar_81 ?_
                  have k1 := ih (y + 1) (by omega) (by omega) h3
                  rw [nI_succ y] at k1
                  exact zx_lv [0, 1, 2, 3] rfl k1
                · refine zx_aload C d_Mod_bar_62 rfl ?_
                  refine zx_iload C d_Mod_bar_63 rfl ?_
                  refine zr_di (zr_V C l_Mod_216 d_Mod_bar_65 (As := [_]) rfl rfl (Nat.le_of_ble_eq_true rfl) (c_Mod_isWithinOne G _ _ _ _ _ _ _ _ _ (cbe (aT S) (aT S).2.2.1) (by exact h1) (both2 x y) hb64) 0 rfl rfl ⟨Nat.le_of_ble_eq_true rfl, Nat.le_of_ble_eq_true rfl, Nat.le_of_ble_eq_true rfl, Nat.le_of_ble_eq_true rfl⟩) ?_
                  refine zx_ifB_ne C d_Mod_bar_68 (fun h68 => ?_) (fun h68 => ?_)
                  · rw [if_neg (fun q => absurd (h68.symm.trans q.2) (by decide))] at hu
                    rw [hu] at h3
                    refine zx_iinc C d_Mod_bar_78 (by decide) rfl (lv1 := [(3, _), (4, _), (0, _), (1, _), (2, _)]) rfl ?_
                    refine zx_goto C d_Mod_bar_81 ?_
                    have k1 := ih (y + 1) (by omega) (by omega) h3
                    rw [nI_succ y] at k1
                    exact zx_lv [0, 1, 2, 3] rfl k1
                  · rw [if_pos ⟨(nI_eq (by have : z &&& both2 x y ≤ z := Nat.and_le_left; omega) (by omega)).mp h59, by simpa using h68⟩] at hu
                    rw [hu] at h3
                    have e10 : (10 : Int32) * nI x + nI y = nI (10 * x + y) := by rw [show (10 : Int32) = nI 10 from rfl, pk_mul, nI_add]
                    refine zx_ic C d_Mod_bar_71 ?_
                    refine zx_iload C d_Mod_bar_73 rfl ?_
                    refine zx_imul C d_Mod_bar_74 ?_
                    refine zx_iload C d_Mod_bar_75 rfl ?_
                    refine zx_iadd C d_Mod_bar_76 ?_
                    exact zx_iret C hq d_Mod_bar_77 (by rw [e10, h3]; exact mpost_i rfl hm)
          refine zx_iload C d_Mod_bar_28 rfl ?_
          refine zx_ic C d_Mod_bar_29 ?_
          refine zx_ic_ge C d_Mod_bar_31 (fun h31 => ?_) (fun h31 => ?_)
          · exact absurd h31 (nI_ge (a := x) (b := 6) (by omega) (by omega))
          · refine zx_iload C d_Mod_bar_34 rfl ?_
            refine zx_ic C d_Mod_bar_35 ?_
            refine zx_iadd C d_Mod_bar_36 ?_
            rw [← nI_succ x]
            refine zx_istore C d_Mod_bar_37 (by decide) (lv1 := [(3, _), (0, _), (1, _), (2, _)]) rfl ?_
            exact zx_lv [0, 1, 2, 3] rfl (inner (5 - x) (x + 1) (by omega) (by omega) h3)
      refine zx_ic C d_Mod_bar_26 ?_
      refine zx_istore C d_Mod_bar_27 (by decide) (lv1 := [(2, _), (0, _), (1, _)]) rfl ?_
      exact zx_lv [0, 1, 2] rfl (outer 6 0 (by omega) ev0)
    · rw [if_pos ((mrp_0 hm).mp h14)] at ev0
      have ev := ev0
      have hm2 := hm
      refine zx_ic C d_Mod_bar_17 ?_
      exact zx_iret C hq d_Mod_bar_19 (by rw [ev]; exact mpost_i rfl hm2)
  · have ev : ap_bar S set = -2 := if_pos (nand_or h4)
    have hm2 := hm
    refine zx_ic C d_Mod_bar_7 ?_
    exact zx_iret C hq d_Mod_bar_9 (by rw [ev]; exact mpost_i rfl hm2)
