set_option maxHeartbeats 600000 in
set_option maxRecDepth 20000 in
theorem c_Mod_happenIdle (G : ZG) (o : Nat) (ad : Nat → Nat) (F : Nat → Int32) (R : Nat → Nat → Int32) (X : va_W) (a b c d : Nat → Int32) (T : ZT) (hr : mrep T F R) (I : Nat → Bool) (ha : brep a I) (m : Nat) (hm : m < 60) : ZM G y_Mod_happenIdle b_Mod_happenIdle 3 none r_Mod_happenIdle [.ref o, .int (nI m)] (mw G o ad F (stR R a b c d) ++ X) (zpv (fun w => ∃ a1 c1, w = mw G o ad F (stR R a1 b c1 d) ++ X ∧ brep a1 (imgN (hap T m 0 T.1) I 64))) := by
  refine ZM.of "SameTuesdayModel" "happenIdle" rfl rfl (by decide) (Nat.le_of_ble_eq_true rfl) (fun Y C hq => ?_)
  change ZV G Y 0 0 0 [(0, .ref o), (1, .int (nI m))] [] (mw G o ad F (stR R a b c d) ++ X)
  have ht := hr.1
  have s3 : ∀ c1, brep c1 (imgN (hap T m 0 T.1) I 64) → ZV G Y 0 0 59 [(0, .ref o), (1, .int (nI m)), (2, .int (nI 0))] [] (mw G o ad F (stR R a b c1 d) ++ X) := by
    intro c1 hc
    have l3 : ∀ n j a1, j + n = 64 → (∀ f, f < j → a1 f = c1 f) → ZV G Y 0 0 59 [(0, .ref o), (1, .int (nI m)), (2, .int (nI j))] [] (mw G o ad F (stR R a1 b c1 d) ++ X) := by
      intro n
      induction n with
      | zero =>
        intro j a1 hn h1
        obtain rfl : j = 64 := by omega
        refine zx_iload C d_Mod_happenIdle_59 rfl ?_
        refine zx_ic C d_Mod_happenIdle_60 ?_
        refine zx_ic_ge C d_Mod_happenIdle_62 (fun h62 => ?_) (fun h62 => ?_)
        · exact zx_vret C hq d_Mod_happenIdle_83 (⟨rfl, a1, c1, rfl, fun f hf => (h1 f hf).trans (hc f hf)⟩)
        · exact absurd (Int32.le_refl _) h62
      | succ n ih =>
        intro j a1 hn h1
        refine zx_iload C d_Mod_happenIdle_59 rfl ?_
        refine zx_ic C d_Mod_happenIdle_60 ?_
        refine zx_ic_ge C d_Mod_happenIdle_62 (fun h62 => ?_) (fun h62 => ?_)
        · exact absurd h62 (nI_ge (a := j) (b := 64) (by omega) (by omega))
        · refine zx_aload C d_Mod_happenIdle_65 rfl ?_
          refine zm_g C f_Mod_63_12 d_Mod_happenIdle_66 rfl ?_
          refine zx_iload C d_Mod_happenIdle_69 rfl ?_
          refine zx_aload C d_Mod_happenIdle_70 rfl ?_
          refine zm_g C f_Mod_69_12 d_Mod_happenIdle_71 rfl ?_
          refine zx_iload C d_Mod_happenIdle_74 rfl ?_
          refine zm_zld30 C d_Mod_happenIdle_75 j rfl (by omega) ?_
          refine zm_zst28 C d_Mod_happenIdle_76 j rfl (by omega) (by show c1 j = 0 ∨ c1 j = 1; rw [hc j (by omega)]; exact bi_01) ?_
          rw [stR_a]
          refine zx_iinc C d_Mod_happenIdle_77 (by decide) rfl (lv1 := [(2, _), (0, _), (1, _)]) rfl ?_
          refine zx_goto C d_Mod_happenIdle_80 ?_
          have k1 := ih (j + 1) (upd a1 j (c1 j)) (by omega) (fun f hf => by by_cases e : f = j; (rw [e, upd_eq]); (rw [upd_ne _ _ e]; exact h1 f (by omega)))
          rw [nI_succ j] at k1
          exact zx_lv [0, 1, 2] rfl k1
    exact l3 64 0 a (by omega) (fun f hf => absurd hf (by omega))
  have l2 : ∀ n j c1, j + n = 64 → (brep c1 (imgN (hap T m 0 T.1) I j)) → ZV G Y 0 0 23 [(0, .ref o), (1, .int (nI m)), (2, .int (nI j))] [] (mw G o ad F (stR R a b c1 d) ++ X) := by
    intro n
    induction n with
    | zero =>
      intro j c1 hn h1
      obtain rfl : j = 64 := by omega
      refine zx_iload C d_Mod_happenIdle_23 rfl ?_
      refine zx_ic C d_Mod_happenIdle_24 ?_
      refine zx_ic_ge C d_Mod_happenIdle_26 (fun h26 => ?_) (fun h26 => ?_)
      · refine zx_ic C d_Mod_happenIdle_57 ?_
        refine zx_istore C d_Mod_happenIdle_58 (by decide) (lv1 := [(2, _), (0, _), (1, _)]) rfl ?_
        exact zx_lv [0, 1, 2] rfl (s3 c1 h1)
      · exact absurd (Int32.le_refl _) h26
    | succ n ih =>
      intro j c1 hn h1
      have hj64 : j < 64 := by omega
      have ea := ha j hj64
      refine zx_iload C d_Mod_happenIdle_23 rfl ?_
      refine zx_ic C d_Mod_happenIdle_24 ?_
      refine zx_ic_ge C d_Mod_happenIdle_26 (fun h26 => ?_) (fun h26 => ?_)
      · exact absurd h26 (nI_ge (a := j) (b := 64) (by omega) (by omega))
      · refine zx_aload C d_Mod_happenIdle_29 rfl ?_
        refine zm_g C f_Mod_63_12 d_Mod_happenIdle_30 rfl ?_
        refine zx_iload C d_Mod_happenIdle_33 rfl ?_
        refine zm_zld28 C d_Mod_happenIdle_34 j rfl (by omega) ?_
        refine zx_if_eq C d_Mod_happenIdle_35 (fun h35 => ?_) (fun h35 => ?_)
        · have hs : I j = false := bi_0.mp (ea.symm.trans h35)
          have h2 := imgN_not h1 hs
          try rw [stR_c]
          refine zx_iinc C d_Mod_happenIdle_51 (by decide) rfl (lv1 := [(2, _), (0, _), (1, _)]) rfl ?_
          refine zx_goto C d_Mod_happenIdle_54 ?_
          have k1 := ih (j + 1) _ (by omega) h2
          rw [nI_succ j] at k1
          exact zx_lv [0, 1, 2] rfl k1
        · have hs : I j = true := bi_1.mp (fun z => h35 (ea.trans z))
          have h2 := imgN_set h1 hs
          refine zx_aload C d_Mod_happenIdle_38 rfl ?_
          refine zm_g C f_Mod_69_12 d_Mod_happenIdle_39 rfl ?_
          refine zx_aload C d_Mod_happenIdle_42 rfl ?_
          refine zx_iload C d_Mod_happenIdle_43 rfl ?_
          refine zx_iload C d_Mod_happenIdle_44 rfl ?_
          refine zx_ic C d_Mod_happenIdle_45 ?_
          refine zr_di (zr_V C l_Mod_156 d_Mod_happenIdle_46 (As := [_, _, _]) rfl rfl (Nat.le_of_ble_eq_true rfl) (c_Mod_happen G _ _ _ _ _ T (by exact hr) j m 0 hj64 hm (by decide)) 0 rfl rfl ⟨Nat.le_of_ble_eq_true rfl, Nat.le_of_ble_eq_true rfl, Nat.le_of_ble_eq_true rfl, Nat.le_of_ble_eq_true rfl⟩) ?_
          refine zx_ic C d_Mod_happenIdle_49 ?_
          refine zm_zst30 C d_Mod_happenIdle_50 (hap T m 0 T.1 j) rfl (hap_64 ht (Nat.le_refl _) hj64) (by decide) ?_
          try rw [stR_c]
          refine zx_iinc C d_Mod_happenIdle_51 (by decide) rfl (lv1 := [(2, _), (0, _), (1, _)]) rfl ?_
          refine zx_goto C d_Mod_happenIdle_54 ?_
          have k1 := ih (j + 1) _ (by omega) h2
          rw [nI_succ j] at k1
          exact zx_lv [0, 1, 2] rfl k1
  have l1 : ∀ n j c1, j + n = 64 → (∀ f, f < j → c1 f = 0) → ZV G Y 0 0 2 [(0, .ref o), (1, .int (nI m)), (2, .int (nI j))] [] (mw G o ad F (stR R a b c1 d) ++ X) := by
    intro n
    induction n with
    | zero =>
      intro j c1 hn h1
      obtain rfl : j = 64 := by omega
      refine zx_iload C d_Mod_happenIdle_2 rfl ?_
      refine zx_ic C d_Mod_happenIdle_3 ?_
      refine zx_ic_ge C d_Mod_happenIdle_5 (fun h5 => ?_) (fun h5 => ?_)
      · refine zx_ic C d_Mod_happenIdle_21 ?_
        refine zx_istore C d_Mod_happenIdle_22 (by decide) (lv1 := [(2, _), (0, _), (1, _)]) rfl ?_
        exact zx_lv [0, 1, 2] rfl (l2 64 0 c1 (by omega) (fun f hf => (h1 f hf)))
      · exact absurd (Int32.le_refl _) h5
    | succ n ih =>
      intro j c1 hn h1
      refine zx_iload C d_Mod_happenIdle_2 rfl ?_
      refine zx_ic C d_Mod_happenIdle_3 ?_
      refine zx_ic_ge C d_Mod_happenIdle_5 (fun h5 => ?_) (fun h5 => ?_)
      · exact absurd h5 (nI_ge (a := j) (b := 64) (by omega) (by omega))
      · refine zx_aload C d_Mod_happenIdle_8 rfl ?_
        refine zm_g C f_Mod_69_12 d_Mod_happenIdle_9 rfl ?_
        refine zx_iload C d_Mod_happenIdle_12 rfl ?_
        refine zx_ic C d_Mod_happenIdle_13 ?_
        refine zm_zst30 C d_Mod_happenIdle_14 j rfl (by omega) (by decide) ?_
        rw [stR_c]
        refine zx_iinc C d_Mod_happenIdle_15 (by decide) rfl (lv1 := [(2, _), (0, _), (1, _)]) rfl ?_
        refine zx_goto C d_Mod_happenIdle_18 ?_
        have k1 := ih (j + 1) (upd c1 j 0) (by omega) (fun f hf => by by_cases e : f = j; (rw [e, upd_eq]); (rw [upd_ne _ _ e]; exact h1 f (by omega)))
        rw [nI_succ j] at k1
        exact zx_lv [0, 1, 2] rfl k1
  refine zx_ic C d_Mod_happenIdle_0 ?_
  refine zx_istore C d_Mod_happenIdle_1 (by decide) (lv1 := [(2, _), (0, _), (1, _)]) rfl ?_
  exact zx_lv [0, 1, 2] rfl (l1 64 0 c (by omega) (fun f hf => absurd hf (by omega)))
set_option maxHeartbeats 600000 in
set_option maxRecDepth 20000 in
theorem c_Mod_happenBusy (G : ZG) (o : Nat) (ad : Nat → Nat) (F : Nat → Int32) (R : Nat → Nat → Int32) (X : va_W) (a b c d : Nat → Int32) (T : ZT) (hr : mrep T F R) (Q : Nat → Bool) (v m : Nat) (hv : v < 50) (hb : ∀ f, f < 64 → b (64 * v + f) = bi (Q f)) (hm : m < 60) : ZM G y_Mod_happenBusy b_Mod_happenBusy 4 none r_Mod_happenBusy [.ref o, .int (nI v), .int (nI m)] (mw G o ad F (stR R a b c d) ++ X) (zpv (fun w => ∃ b1 c1, w = mw G o ad F (stR R a b1 c1 d) ++ X ∧ (∀ f, f < 64 → b1 (64 * v + f) = bi (imgN (hap T m 0 T.1) Q 64 f)) ∧ ∀ w, w < 50 → ∀ f, f < 64 → w ≠ v → b1 (64 * w + f) = b (64 * w + f))) := by
  refine ZM.of "SameTuesdayModel" "happenBusy" rfl rfl (by decide) (Nat.le_of_ble_eq_true rfl) (fun Y C hq => ?_)
  change ZV G Y 0 0 0 [(0, .ref o), (1, .int (nI v)), (2, .int (nI m))] [] (mw G o ad F (stR R a b c d) ++ X)
  have ht := hr.1
  have s3 : ∀ c1, brep c1 (imgN (hap T m 0 T.1) Q 64) → ZV G Y 0 0 64 [(0, .ref o), (1, .int (nI v)), (2, .int (nI m)), (3, .int (nI 0))] [] (mw G o ad F (stR R a b c1 d) ++ X) := by
    intro c1 hc
    have l3 : ∀ n j b1, j + n = 64 → (∀ f, f < j → b1 (64 * v + f) = c1 f) → (∀ w, w < 50 → ∀ f, f < 64 → w ≠ v → b1 (64 * w + f) = b (64 * w + f)) → ZV G Y 0 0 64 [(0, .ref o), (1, .int (nI v)), (2, .int (nI m)), (3, .int (nI j))] [] (mw G o ad F (stR R a b1 c1 d) ++ X) := by
      intro n
      induction n with
      | zero =>
        intro j b1 hn h1 h2
        obtain rfl : j = 64 := by omega
        refine zx_iload C d_Mod_happenBusy_64 rfl ?_
        refine zx_ic C d_Mod_happenBusy_65 ?_
        refine zx_ic_ge C d_Mod_happenBusy_67 (fun h67 => ?_) (fun h67 => ?_)
        · exact zx_vret C hq d_Mod_happenBusy_93 (⟨rfl, b1, c1, rfl, fun f hf => (h1 f hf).trans (hc f hf), h2⟩)
        · exact absurd (Int32.le_refl _) h67
      | succ n ih =>
        intro j b1 hn h1 h2
        refine zx_iload C d_Mod_happenBusy_64 rfl ?_
        refine zx_ic C d_Mod_happenBusy_65 ?_
        refine zx_ic_ge C d_Mod_happenBusy_67 (fun h67 => ?_) (fun h67 => ?_)
        · exact absurd h67 (nI_ge (a := j) (b := 64) (by omega) (by omega))
        · refine zx_aload C d_Mod_happenBusy_70 rfl ?_
          refine zm_g C f_Mod_66_12 d_Mod_happenBusy_71 rfl ?_
          refine zx_ic C d_Mod_happenBusy_74 ?_
          refine zx_iload C d_Mod_happenBusy_76 rfl ?_
          refine zx_imul C d_Mod_happenBusy_77 ?_
          refine zx_iload C d_Mod_happenBusy_78 rfl ?_
          refine zx_iadd C d_Mod_happenBusy_79 ?_
          refine zx_aload C d_Mod_happenBusy_80 rfl ?_
          refine zm_g C f_Mod_69_12 d_Mod_happenBusy_81 rfl ?_
          refine zx_iload C d_Mod_happenBusy_84 rfl ?_
          refine zm_zld30 C d_Mod_happenBusy_85 j rfl (by omega) ?_
          refine zm_zst29 C d_Mod_happenBusy_86 (64 * v + j) (by rw [show (64 : Int32) = nI 64 from rfl, pk_mul, nI_add]) (by omega) (by show c1 j = 0 ∨ c1 j = 1; rw [hc j (by omega)]; exact bi_01) ?_
          rw [stR_b]
          refine zx_iinc C d_Mod_happenBusy_87 (by decide) rfl (lv1 := [(3, _), (0, _), (1, _), (2, _)]) rfl ?_
          refine zx_goto C d_Mod_happenBusy_90 ?_
          have k1 := ih (j + 1) (upd b1 (64 * v + j) (c1 j)) (by omega) (fun f hf => by by_cases e : f = j; (rw [e, upd_eq]); (rw [upd_ne _ _ (by omega)]; exact h1 f (by omega))) (fun w hw f hf hv2 => by rw [upd_ne _ _ (by omega)]; exact h2 w hw f hf hv2)
          rw [nI_succ j] at k1
          exact zx_lv [0, 1, 2, 3] rfl k1
    exact l3 64 0 b (by omega) (fun f hf => absurd hf (by omega)) (fun _ _ _ _ _ => rfl)
  have l2 : ∀ n j c1, j + n = 64 → (brep c1 (imgN (hap T m 0 T.1) Q j)) → ZV G Y 0 0 23 [(0, .ref o), (1, .int (nI v)), (2, .int (nI m)), (3, .int (nI j))] [] (mw G o ad F (stR R a b c1 d) ++ X) := by
    intro n
    induction n with
    | zero =>
      intro j c1 hn h1
      obtain rfl : j = 64 := by omega
      refine zx_iload C d_Mod_happenBusy_23 rfl ?_
      refine zx_ic C d_Mod_happenBusy_24 ?_
      refine zx_ic_ge C d_Mod_happenBusy_26 (fun h26 => ?_) (fun h26 => ?_)
      · refine zx_ic C d_Mod_happenBusy_62 ?_
        refine zx_istore C d_Mod_happenBusy_63 (by decide) (lv1 := [(3, _), (0, _), (1, _), (2, _)]) rfl ?_
        exact zx_lv [0, 1, 2, 3] rfl (s3 c1 h1)
      · exact absurd (Int32.le_refl _) h26
    | succ n ih =>
      intro j c1 hn h1
      have hj64 : j < 64 := by omega
      have ea := hb j hj64
      refine zx_iload C d_Mod_happenBusy_23 rfl ?_
      refine zx_ic C d_Mod_happenBusy_24 ?_
      refine zx_ic_ge C d_Mod_happenBusy_26 (fun h26 => ?_) (fun h26 => ?_)
      · exact absurd h26 (nI_ge (a := j) (b := 64) (by omega) (by omega))
      · refine zx_aload C d_Mod_happenBusy_29 rfl ?_
        refine zm_g C f_Mod_66_12 d_Mod_happenBusy_30 rfl ?_
        refine zx_ic C d_Mod_happenBusy_33 ?_
        refine zx_iload C d_Mod_happenBusy_35 rfl ?_
        refine zx_imul C d_Mod_happenBusy_36 ?_
        refine zx_iload C d_Mod_happenBusy_37 rfl ?_
        refine zx_iadd C d_Mod_happenBusy_38 ?_
        refine zm_zld29 C d_Mod_happenBusy_39 (64 * v + j) (by rw [show (64 : Int32) = nI 64 from rfl, pk_mul, nI_add]) (by omega) ?_
        refine zx_if_eq C d_Mod_happenBusy_40 (fun h40 => ?_) (fun h40 => ?_)
        · have hs : Q j = false := bi_0.mp (ea.symm.trans h40)
          have h2 := imgN_not h1 hs
          try rw [stR_c]
          refine zx_iinc C d_Mod_happenBusy_56 (by decide) rfl (lv1 := [(3, _), (0, _), (1, _), (2, _)]) rfl ?_
          refine zx_goto C d_Mod_happenBusy_59 ?_
          have k1 := ih (j + 1) _ (by omega) h2
          rw [nI_succ j] at k1
          exact zx_lv [0, 1, 2, 3] rfl k1
        · have hs : Q j = true := bi_1.mp (fun z => h40 (ea.trans z))
          have h2 := imgN_set h1 hs
          refine zx_aload C d_Mod_happenBusy_43 rfl ?_
          refine zm_g C f_Mod_69_12 d_Mod_happenBusy_44 rfl ?_
          refine zx_aload C d_Mod_happenBusy_47 rfl ?_
          refine zx_iload C d_Mod_happenBusy_48 rfl ?_
          refine zx_iload C d_Mod_happenBusy_49 rfl ?_
          refine zx_ic C d_Mod_happenBusy_50 ?_
          refine zr_di (zr_V C l_Mod_156 d_Mod_happenBusy_51 (As := [_, _, _]) rfl rfl (Nat.le_of_ble_eq_true rfl) (c_Mod_happen G _ _ _ _ _ T (by exact hr) j m 0 hj64 hm (by decide)) 0 rfl rfl ⟨Nat.le_of_ble_eq_true rfl, Nat.le_of_ble_eq_true rfl, Nat.le_of_ble_eq_true rfl, Nat.le_of_ble_eq_true rfl⟩) ?_
          refine zx_ic C d_Mod_happenBusy_54 ?_
          refine zm_zst30 C d_Mod_happenBusy_55 (hap T m 0 T.1 j) rfl (hap_64 ht (Nat.le_refl _) hj64) (by decide) ?_
          try rw [stR_c]
          refine zx_iinc C d_Mod_happenBusy_56 (by decide) rfl (lv1 := [(3, _), (0, _), (1, _), (2, _)]) rfl ?_
          refine zx_goto C d_Mod_happenBusy_59 ?_
          have k1 := ih (j + 1) _ (by omega) h2
          rw [nI_succ j] at k1
          exact zx_lv [0, 1, 2, 3] rfl k1
  have l1 : ∀ n j c1, j + n = 64 → (∀ f, f < j → c1 f = 0) → ZV G Y 0 0 2 [(0, .ref o), (1, .int (nI v)), (2, .int (nI m)), (3, .int (nI j))] [] (mw G o ad F (stR R a b c1 d) ++ X) := by
    intro n
    induction n with
    | zero =>
      intro j c1 hn h1
      obtain rfl : j = 64 := by omega
      refine zx_iload C d_Mod_happenBusy_2 rfl ?_
      refine zx_ic C d_Mod_happenBusy_3 ?_
      refine zx_ic_ge C d_Mod_happenBusy_5 (fun h5 => ?_) (fun h5 => ?_)
      · refine zx_ic C d_Mod_happenBusy_21 ?_
        refine zx_istore C d_Mod_happenBusy_22 (by decide) (lv1 := [(3, _), (0, _), (1, _), (2, _)]) rfl ?_
        exact zx_lv [0, 1, 2, 3] rfl (l2 64 0 c1 (by omega) (fun f hf => (h1 f hf)))
      · exact absurd (Int32.le_refl _) h5
    | succ n ih =>
      intro j c1 hn h1
      refine zx_iload C d_Mod_happenBusy_2 rfl ?_
      refine zx_ic C d_Mod_happenBusy_3 ?_
      refine zx_ic_ge C d_Mod_happenBusy_5 (fun h5 => ?_) (fun h5 => ?_)
      · exact absurd h5 (nI_ge (a := j) (b := 64) (by omega) (by omega))
      · refine zx_aload C d_Mod_happenBusy_8 rfl ?_
        refine zm_g C f_Mod_69_12 d_Mod_happenBusy_9 rfl ?_
        refine zx_iload C d_Mod_happenBusy_12 rfl ?_
        refine zx_ic C d_Mod_happenBusy_13 ?_
        refine zm_zst30 C d_Mod_happenBusy_14 j rfl (by omega) (by decide) ?_
        rw [stR_c]
        refine zx_iinc C d_Mod_happenBusy_15 (by decide) rfl (lv1 := [(3, _), (0, _), (1, _), (2, _)]) rfl ?_
        refine zx_goto C d_Mod_happenBusy_18 ?_
        have k1 := ih (j + 1) (upd c1 j 0) (by omega) (fun f hf => by by_cases e : f = j; (rw [e, upd_eq]); (rw [upd_ne _ _ e]; exact h1 f (by omega)))
        rw [nI_succ j] at k1
        exact zx_lv [0, 1, 2, 3] rfl k1
  refine zx_ic C d_Mod_happenBusy_0 ?_
  refine zx_istore C d_Mod_happenBusy_1 (by decide) (lv1 := [(3, _), (0, _), (1, _), (2, _)]) rfl ?_
  exact zx_lv [0, 1, 2, 3] rfl (l1 64 0 c (by omega) (fun f hf => absurd hf (by omega)))
set_option maxHeartbeats 600000 in
set_option maxRecDepth 20000 in
theorem c_Mod_endDeeds (G : ZG) (o : Nat) (ad : Nat → Nat) (F : Nat → Int32) (R : Nat → Nat → Int32) (X : va_W) (a b c d : Nat → Int32) (T : ZT) (hr : mrep T F R) (I : Nat → Bool) (Q : Nat → Nat → Bool) (ha : brep a I) (hb : qrep b Q) (m : Nat) (hm : m < 60) : ZM G y_Mod_endDeeds b_Mod_endDeeds 5 none r_Mod_endDeeds [.ref o, .int (nI m)] (mw G o ad F (stR R a b c d) ++ X) (zpv (fun w => ∃ a1 b1, w = mw G o ad F (stR R a1 b1 c d) ++ X ∧ brep a1 (eI T m I Q T.2.1 0) ∧ qrep b1 (eQ m Q T.2.1 0))) := by
  refine ZM.of "SameTuesdayModel" "endDeeds" rfl rfl (by decide) (Nat.le_of_ble_eq_true rfl) (fun Y C hq => ?_)
  change ZV G Y 0 0 0 [(0, .ref o), (1, .int (nI m))] [] (mw G o ad F (stR R a b c d) ++ X)
  have ht := hr.1
  have hD5 : T.2.1 ≤ 5 := ht.2.1
  have e6 : F 6 = nI T.2.1 := hr.2.2.1
  have outer : ∀ n e a1 b1, e + n = T.2.1 → (brep a1 (eI T m I Q e 0)) → (qrep b1 (eQ m Q e 0)) → ZV G Y 0 0 2 [(0, .ref o), (1, .int (nI m)), (2, .int (nI e))] [] (mw G o ad F (stR R a1 b1 c d) ++ X) := by
    intro n
    induction n with
    | zero =>
      intro e a1 b1 hn h1 h2
      obtain rfl : e = T.2.1 := by omega
      refine zx_iload C d_Mod_endDeeds_2 rfl ?_
      refine zx_aload C d_Mod_endDeeds_3 rfl ?_
      refine zm_g C f_Mod_90_12 d_Mod_endDeeds_4 rfl ?_
      refine zx_ic_ge C d_Mod_endDeeds_7 (fun h7 => ?_) (fun h7 => ?_)
      · exact zx_vret C hq d_Mod_endDeeds_68 (⟨rfl, a1, b1, rfl, h1, h2⟩)
      · exact absurd (by show F 6 ≤ _; rw [e6]; exact Int32.le_refl _) h7
    | succ n ih =>
      intro e a1 b1 hn h1 h2
      have ihd := ih
      have inner : ∀ n f a1 b1, f + n = 64 → (brep a1 (eI T m I Q e f)) → (qrep b1 (eQ m Q e f)) → ZV G Y 0 0 12 [(0, .ref o), (1, .int (nI m)), (2, .int (nI e)), (3, .int (nI f))] [] (mw G o ad F (stR R a1 b1 c d) ++ X) := by
        intro n
        induction n with
        | zero =>
          intro f a1 b1 hn h1 h2
          obtain rfl : f = 64 := by omega
          refine zx_iload C d_Mod_endDeeds_12 rfl ?_
          refine zx_ic C d_Mod_endDeeds_13 ?_
          refine zx_ic_ge C d_Mod_endDeeds_15 (fun h15 => ?_) (fun h15 => ?_)
          · refine zx_iinc C d_Mod_endDeeds_62 (by decide) rfl (lv1 := [(2, _), (0, _), (1, _), (3, _)]) rfl ?_
            refine zx_goto C d_Mod_endDeeds_65 ?_
            have k1 := ihd (e + 1) a1 b1 (by omega) (by rw [← eI_next]; exact h1) (eQ_next m Q e h2)
            rw [nI_succ e] at k1
            exact zx_lv [0, 1, 2] rfl k1
          · exact absurd (Int32.le_refl _) h15
        | succ n ih =>
          intro f a1 b1 hn h1 h2
          have hf64 : f < 64 := by omega
          have ea := h2 (10 * e + m % 10) (by omega) f hf64
          rw [eQ_at] at ea
          refine zx_iload C d_Mod_endDeeds_12 rfl ?_
          refine zx_ic C d_Mod_endDeeds_13 ?_
          refine zx_ic_ge C d_Mod_endDeeds_15 (fun h15 => ?_) (fun h15 => ?_)
          · exact absurd h15 (nI_ge (a := f) (b := 64) (by omega) (by omega))
          · refine zx_iload C d_Mod_endDeeds_18 rfl ?_
            refine zx_iload C d_Mod_endDeeds_19 rfl ?_
            refine zx_iload C d_Mod_endDeeds_20 rfl ?_
            refine zr_di (zr_S C l_Mod_184 d_Mod_endDeeds_21 (As := [_, _, _]) rfl rfl (Nat.le_of_ble_eq_true rfl) (c_Mod_place G _ _ _ _) ⟨Nat.le_of_ble_eq_true rfl, Nat.le_of_ble_eq_true rfl, Nat.le_of_ble_eq_true rfl, Nat.le_of_ble_eq_true rfl⟩) ?_
            rw [place_n (by omega) (by omega) hf64]
            refine zx_istore C d_Mod_endDeeds_24 (by decide) (lv1 := [(4, _), (0, _), (1, _), (2, _), (3, _)]) rfl ?_
            refine zx_aload C d_Mod_endDeeds_26 rfl ?_
            refine zm_g C f_Mod_66_12 d_Mod_endDeeds_27 rfl ?_
            refine zx_iload C d_Mod_endDeeds_30 rfl ?_
            refine zm_zld29 C d_Mod_endDeeds_32 (64 * (10 * e + m % 10) + f) rfl (by omega) ?_
            refine zx_if_eq C d_Mod_endDeeds_33 (fun h33 => ?_) (fun h33 => ?_)
            · have hs : Q (10 * e + m % 10) f = false := bi_0.mp (ea.symm.trans h33)
              have g1 := eI_not h1 hs
              have g2 := eQ_not h2 hs
              try rw [stR_a]
              try rw [stR_b]
              refine zx_iinc C d_Mod_endDeeds_56 (by decide) rfl (lv1 := [(3, _), (4, _), (0, _), (1, _), (2, _)]) rfl ?_
              refine zx_goto C d_Mod_endDeeds_59 ?_
              have k1 := ih (f + 1) _ _ (by omega) g1 g2
              rw [nI_succ f] at k1
              exact zx_lv [0, 1, 2, 3] rfl k1
            · have hs : Q (10 * e + m % 10) f = true := bi_1.mp (fun z => h33 (ea.trans z))
              have g1 := eI_set h1 hs
              have g2 := eQ_set h2 (by omega) hf64
              refine zx_aload C d_Mod_endDeeds_36 rfl ?_
              refine zm_g C f_Mod_63_12 d_Mod_endDeeds_37 rfl ?_
              refine zx_aload C d_Mod_endDeeds_40 rfl ?_
              refine zx_iload C d_Mod_endDeeds_41 rfl ?_
              refine zx_iload C d_Mod_endDeeds_42 rfl ?_
              refine zr_di (zr_V C l_Mod_159 d_Mod_endDeeds_43 (As := [_, _]) rfl rfl (Nat.le_of_ble_eq_true rfl) (c_Mod_done G _ _ _ _ _ T (by exact hr) f e hf64 (by omega)) 0 rfl rfl ⟨Nat.le_of_ble_eq_true rfl, Nat.le_of_ble_eq_true rfl, Nat.le_of_ble_eq_true rfl, Nat.le_of_ble_eq_true rfl⟩) ?_
              refine zx_ic C d_Mod_endDeeds_46 ?_
              refine zm_zst28 C d_Mod_endDeeds_47 (den T e f) rfl (den_64 ht (by omega) hf64) (by decide) ?_
              refine zx_aload C d_Mod_endDeeds_48 rfl ?_
              refine zm_g C f_Mod_66_12 d_Mod_endDeeds_49 rfl ?_
              refine zx_iload C d_Mod_endDeeds_52 rfl ?_
              refine zx_ic C d_Mod_endDeeds_54 ?_
              refine zm_zst29 C d_Mod_endDeeds_55 (64 * (10 * e + m % 10) + f) rfl (by omega) (by decide) ?_
              try rw [stR_a]
              try rw [stR_b]
              refine zx_iinc C d_Mod_endDeeds_56 (by decide) rfl (lv1 := [(3, _), (4, _), (0, _), (1, _), (2, _)]) rfl ?_
              refine zx_goto C d_Mod_endDeeds_59 ?_
              have k1 := ih (f + 1) _ _ (by omega) g1 g2
              rw [nI_succ f] at k1
              exact zx_lv [0, 1, 2, 3] rfl k1
      refine zx_iload C d_Mod_endDeeds_2 rfl ?_
      refine zx_aload C d_Mod_endDeeds_3 rfl ?_
      refine zm_g C f_Mod_90_12 d_Mod_endDeeds_4 rfl ?_
      refine zx_ic_ge C d_Mod_endDeeds_7 (fun h7 => ?_) (fun h7 => ?_)
      · exact absurd h7 (by show ¬ F 6 ≤ _; rw [e6]; exact nI_ge (by omega) (by omega))
      · refine zx_ic C d_Mod_endDeeds_10 ?_
        refine zx_istore C d_Mod_endDeeds_11 (by decide) (lv1 := [(3, _), (0, _), (1, _), (2, _)]) rfl ?_
        exact zx_lv [0, 1, 2, 3] rfl (inner 64 0 a1 b1 (by omega) h1 h2)
  refine zx_ic C d_Mod_endDeeds_0 ?_
  refine zx_istore C d_Mod_endDeeds_1 (by decide) (lv1 := [(2, _), (0, _), (1, _)]) rfl ?_
  exact zx_lv [0, 1, 2] rfl (outer T.2.1 0 a b (by omega) (by rw [eI_0]; exact ha) (by rw [eQ_0]; exact hb))
set_option maxHeartbeats 600000 in
set_option maxRecDepth 20000 in
theorem c_Mod_beginDeeds (G : ZG) (o : Nat) (ad : Nat → Nat) (F : Nat → Int32) (R : Nat → Nat → Int32) (X : va_W) (a b c d : Nat → Int32) (T : ZT) (hr : mrep T F R) (I : Nat → Bool) (Q : Nat → Nat → Bool) (ha : brep a I) (hb : qrep b Q) (m : Nat) (hm : m < 60) : ZM G y_Mod_beginDeeds b_Mod_beginDeeds 4 none r_Mod_beginDeeds [.ref o, .int (nI m)] (mw G o ad F (stR R a b c d) ++ X) (zpv (fun w => ∃ b1, w = mw G o ad F (stR R a b1 c d) ++ X ∧ qrep b1 (bQ T m I Q T.2.1 0))) := by
  refine ZM.of "SameTuesdayModel" "beginDeeds" rfl rfl (by decide) (Nat.le_of_ble_eq_true rfl) (fun Y C hq => ?_)
  change ZV G Y 0 0 0 [(0, .ref o), (1, .int (nI m))] [] (mw G o ad F (stR R a b c d) ++ X)
  have ht := hr.1
  have hD5 : T.2.1 ≤ 5 := ht.2.1
  have e6 : F 6 = nI T.2.1 := hr.2.2.1
  have outer : ∀ n e b1, e + n = T.2.1 → (qrep b1 (bQ T m I Q e 0)) → ZV G Y 0 0 2 [(0, .ref o), (1, .int (nI m)), (2, .int (nI e))] [] (mw G o ad F (stR R a b1 c d) ++ X) := by
    intro n
    induction n with
    | zero =>
      intro e b1 hn h2
      obtain rfl : e = T.2.1 := by omega
      refine zx_iload C d_Mod_beginDeeds_2 rfl ?_
      refine zx_aload C d_Mod_beginDeeds_3 rfl ?_
      refine zm_g C f_Mod_90_12 d_Mod_beginDeeds_4 rfl ?_
      refine zx_ic_ge C d_Mod_beginDeeds_7 (fun h7 => ?_) (fun h7 => ?_)
      · exact zx_vret C hq d_Mod_beginDeeds_68 (⟨rfl, b1, rfl, h2⟩)
      · exact absurd (by show F 6 ≤ _; rw [e6]; exact Int32.le_refl _) h7
    | succ n ih =>
      intro e b1 hn h2
      have ihd := ih
      have inner : ∀ n f b1, f + n = 64 → (qrep b1 (bQ T m I Q e f)) → ZV G Y 0 0 12 [(0, .ref o), (1, .int (nI m)), (2, .int (nI e)), (3, .int (nI f))] [] (mw G o ad F (stR R a b1 c d) ++ X) := by
        intro n
        induction n with
        | zero =>
          intro f b1 hn h2
          obtain rfl : f = 64 := by omega
          refine zx_iload C d_Mod_beginDeeds_12 rfl ?_
          refine zx_ic C d_Mod_beginDeeds_13 ?_
          refine zx_ic_ge C d_Mod_beginDeeds_15 (fun h15 => ?_) (fun h15 => ?_)
          · refine zx_iinc C d_Mod_beginDeeds_62 (by decide) rfl (lv1 := [(2, _), (0, _), (1, _), (3, _)]) rfl ?_
            refine zx_goto C d_Mod_beginDeeds_65 ?_
            have k1 := ihd (e + 1) b1 (by omega) (bQ_next T m I Q e h2)
            rw [nI_succ e] at k1
            exact zx_lv [0, 1, 2] rfl k1
          · exact absurd (Int32.le_refl _) h15
        | succ n ih =>
          intro f b1 hn h2
          have hf64 : f < 64 := by omega
          have ea := ha f hf64
          have b7 := ht.2.2.2.2 e (by omega)
          have e15 : R 15 e = nI (tq T 7 e) := (hr.2.2.2.2.2 e (by omega)).2.2.2
          refine zx_iload C d_Mod_beginDeeds_12 rfl ?_
          refine zx_ic C d_Mod_beginDeeds_13 ?_
          refine zx_ic_ge C d_Mod_beginDeeds_15 (fun h15 => ?_) (fun h15 => ?_)
          · exact absurd h15 (nI_ge (a := f) (b := 64) (by omega) (by omega))
          · refine zx_aload C d_Mod_beginDeeds_18 rfl ?_
            refine zm_g C f_Mod_63_12 d_Mod_beginDeeds_19 rfl ?_
            refine zx_iload C d_Mod_beginDeeds_22 rfl ?_
            refine zm_zld28 C d_Mod_beginDeeds_23 f rfl (by omega) ?_
            refine zx_if_eq C d_Mod_beginDeeds_24 (fun h24 => ?_) (fun h24 => ?_)
            · have hs : I f = false := bi_0.mp (ea.symm.trans h24)
              have g2 := bQ_not (d := e) h2 (by rw [hs]; rfl)
              try rw [stR_b]
              refine zx_iinc C d_Mod_beginDeeds_56 (by decide) rfl (lv1 := [(3, _), (0, _), (1, _), (2, _)]) rfl ?_
              refine zx_goto C d_Mod_beginDeeds_59 ?_
              have k1 := ih (f + 1) _ (by omega) g2
              rw [nI_succ f] at k1
              exact zx_lv [0, 1, 2, 3] rfl k1
            · have hs : I f = true := bi_1.mp (fun z => h24 (ea.trans z))
              refine zx_aload C d_Mod_beginDeeds_27 rfl ?_
              refine zx_iload C d_Mod_beginDeeds_28 rfl ?_
              refine zx_iload C d_Mod_beginDeeds_29 rfl ?_
              refine zx_iload C d_Mod_beginDeeds_30 rfl ?_
              refine zr_di (zr_V C l_Mod_169 d_Mod_beginDeeds_31 (As := [_, _, _]) rfl rfl (Nat.le_of_ble_eq_true rfl) (c_Mod_mayBegin G _ _ _ _ _ T (by exact hr) f e m hf64 (by omega) hm) 0 rfl rfl ⟨Nat.le_of_ble_eq_true rfl, Nat.le_of_ble_eq_true rfl, Nat.le_of_ble_eq_true rfl, Nat.le_of_ble_eq_true rfl⟩) ?_
              refine zx_ifB_eq C d_Mod_beginDeeds_34 (fun h34 => ?_) (fun h34 => ?_)
              · have g2 := bQ_not (d := e) h2 (by rw [hs]; simpa using h34)
                try rw [stR_b]
                refine zx_iinc C d_Mod_beginDeeds_56 (by decide) rfl (lv1 := [(3, _), (0, _), (1, _), (2, _)]) rfl ?_
                refine zx_goto C d_Mod_beginDeeds_59 ?_
                have k1 := ih (f + 1) _ (by omega) g2
                rw [nI_succ f] at k1
                exact zx_lv [0, 1, 2, 3] rfl k1
              · have g2 := bQ_set h2 (by omega) hf64 hs h34
                refine zx_aload C d_Mod_beginDeeds_37 rfl ?_
                refine zm_g C f_Mod_66_12 d_Mod_beginDeeds_38 rfl ?_
                refine zx_iload C d_Mod_beginDeeds_41 rfl ?_
                refine zx_iload C d_Mod_beginDeeds_42 rfl ?_
                refine zx_aload C d_Mod_beginDeeds_43 rfl ?_
                refine zm_g C f_Mod_40_12 d_Mod_beginDeeds_44 rfl ?_
                refine zx_iload C d_Mod_beginDeeds_47 rfl ?_
                refine zm_ld15 C d_Mod_beginDeeds_48 e rfl (by omega) ?_
                refine zx_iadd C d_Mod_beginDeeds_49 ?_
                rw [show stR R a b1 c d 15 e = nI (tq T 7 e) from e15, nI_add]
                refine zx_iload C d_Mod_beginDeeds_50 rfl ?_
                refine zr_di (zr_S C l_Mod_184 d_Mod_beginDeeds_51 (As := [_, _, _]) rfl rfl (Nat.le_of_ble_eq_true rfl) (c_Mod_place G _ _ _ _) ⟨Nat.le_of_ble_eq_true rfl, Nat.le_of_ble_eq_true rfl, Nat.le_of_ble_eq_true rfl, Nat.le_of_ble_eq_true rfl⟩) ?_
                rw [place_n (by omega) (by omega) hf64]
                refine zx_ic C d_Mod_beginDeeds_54 ?_
                refine zm_zst29 C d_Mod_beginDeeds_55 (64 * (10 * e + (m + tq T 7 e) % 10) + f) rfl (by omega) (by decide) ?_
                try rw [stR_b]
                refine zx_iinc C d_Mod_beginDeeds_56 (by decide) rfl (lv1 := [(3, _), (0, _), (1, _), (2, _)]) rfl ?_
                refine zx_goto C d_Mod_beginDeeds_59 ?_
                have k1 := ih (f + 1) _ (by omega) g2
                rw [nI_succ f] at k1
                exact zx_lv [0, 1, 2, 3] rfl k1
      refine zx_iload C d_Mod_beginDeeds_2 rfl ?_
      refine zx_aload C d_Mod_beginDeeds_3 rfl ?_
      refine zm_g C f_Mod_90_12 d_Mod_beginDeeds_4 rfl ?_
      refine zx_ic_ge C d_Mod_beginDeeds_7 (fun h7 => ?_) (fun h7 => ?_)
      · exact absurd h7 (by show ¬ F 6 ≤ _; rw [e6]; exact nI_ge (by omega) (by omega))
      · refine zx_ic C d_Mod_beginDeeds_10 ?_
        refine zx_istore C d_Mod_beginDeeds_11 (by decide) (lv1 := [(3, _), (0, _), (1, _), (2, _)]) rfl ?_
        exact zx_lv [0, 1, 2, 3] rfl (inner 64 0 b1 (by omega) h2)
  refine zx_ic C d_Mod_beginDeeds_0 ?_
  refine zx_istore C d_Mod_beginDeeds_1 (by decide) (lv1 := [(2, _), (0, _), (1, _)]) rfl ?_
  exact zx_lv [0, 1, 2] rfl (outer T.2.1 0 b (by omega) (by rw [bQ_0]; exact hb))
set_option maxHeartbeats 600000 in
set_option maxRecDepth 20000 in
theorem c_Mod_beginStates (G : ZG) (o : Nat) (ad : Nat → Nat) (F : Nat → Int32) (R : Nat → Nat → Int32) (X : va_W) (a b c d : Nat → Int32) (T : ZT) : ZM G y_Mod_beginStates b_Mod_beginStates 2 none r_Mod_beginStates [.ref o] (mw G o ad F (stR R a b c d) ++ X) (zpv (fun w => ∃ a1 b1, w = mw G o ad F (stR R a1 b1 c d) ++ X ∧ brep a1 (gst T 0).1 ∧ qrep b1 (gst T 0).2)) := by
  refine ZM.of "SameTuesdayModel" "beginStates" rfl rfl (by decide) (Nat.le_of_ble_eq_true rfl) (fun Y C hq => ?_)
  change ZV G Y 0 0 0 [(0, .ref o)] [] (mw G o ad F (stR R a b c d) ++ X)
  have s2 : ∀ a1, brep a1 (gst T 0).1 → ZV G Y 0 0 31 [(0, .ref o), (1, .int (nI 0))] [] (mw G o ad F (stR R a1 b c d) ++ X) := by
    intro a1 ha1
    have l2 : ∀ n j b1, j + n = 3200 → (∀ f, f < j → b1 f = 0) → ZV G Y 0 0 31 [(0, .ref o), (1, .int (nI j))] [] (mw G o ad F (stR R a1 b1 c d) ++ X) := by
      intro n
      induction n with
      | zero =>
        intro j b1 hn h1
        obtain rfl : j = 3200 := by omega
        refine zx_iload C d_Mod_beginStates_31 rfl ?_
        refine zx_ic C d_Mod_beginStates_32 ?_
        refine zx_ic_ge C d_Mod_beginStates_35 (fun h35 => ?_) (fun h35 => ?_)
        · exact zx_vret C hq d_Mod_beginStates_51 (⟨rfl, a1, b1, rfl, ha1, fun w hw f hf => h1 _ (by omega)⟩)
        · exact absurd (Int32.le_refl _) h35
      | succ n ih =>
        intro j b1 hn h1
        refine zx_iload C d_Mod_beginStates_31 rfl ?_
        refine zx_ic C d_Mod_beginStates_32 ?_
        refine zx_ic_ge C d_Mod_beginStates_35 (fun h35 => ?_) (fun h35 => ?_)
        · exact absurd h35 (nI_ge (a := j) (b := 3200) (by omega) (by omega))
        · refine zx_aload C d_Mod_beginStates_38 rfl ?_
          refine zm_g C f_Mod_66_12 d_Mod_beginStates_39 rfl ?_
          refine zx_iload C d_Mod_beginStates_42 rfl ?_
          refine zx_ic C d_Mod_beginStates_43 ?_
          refine zm_zst29 C d_Mod_beginStates_44 j rfl (by omega) (by decide) ?_
          rw [stR_b]
          refine zx_iinc C d_Mod_beginStates_45 (by decide) rfl (lv1 := [(1, _), (0, _)]) rfl ?_
          refine zx_goto C d_Mod_beginStates_48 ?_
          have k1 := ih (j + 1) (upd b1 j 0) (by omega) (fun f hf => by by_cases e : f = j; (rw [e, upd_eq]); (rw [upd_ne _ _ e]; exact h1 f (by omega)))
          rw [nI_succ j] at k1
          exact zx_lv [0, 1] rfl k1
    exact l2 3200 0 b (by omega) (fun f hf => absurd hf (by omega))
  have l1 : ∀ n j a1, j + n = 64 → (∀ f, f < j → a1 f = bi (f == 0)) → ZV G Y 0 0 2 [(0, .ref o), (1, .int (nI j))] [] (mw G o ad F (stR R a1 b c d) ++ X) := by
    intro n
    induction n with
    | zero =>
      intro j a1 hn h1
      obtain rfl : j = 64 := by omega
      refine zx_iload C d_Mod_beginStates_2 rfl ?_
      refine zx_ic C d_Mod_beginStates_3 ?_
      refine zx_ic_ge C d_Mod_beginStates_5 (fun h5 => ?_) (fun h5 => ?_)
      · refine zx_ic C d_Mod_beginStates_29 ?_
        refine zx_istore C d_Mod_beginStates_30 (by decide) (lv1 := [(1, _), (0, _)]) rfl ?_
        exact zx_lv [0, 1] rfl (s2 a1 h1)
      · exact absurd (Int32.le_refl _) h5
    | succ n ih =>
      intro j a1 hn h1
      have st1 : ∀ v : Int32, v = bi (j == 0) → ZV G Y 0 0 23 [(0, .ref o), (1, .int (nI j))] [] (mw G o ad F (stR R (upd a1 j v) b c d) ++ X) := by
        intro v hv
        refine zx_iinc C d_Mod_beginStates_23 (by decide) rfl (lv1 := [(1, _), (0, _)]) rfl ?_
        refine zx_goto C d_Mod_beginStates_26 ?_
        have k1 := ih (j + 1) (upd a1 j v) (by omega) (fun f hf => by by_cases e : f = j; (rw [e, upd_eq, hv]); (rw [upd_ne _ _ e]; exact h1 f (by omega)))
        rw [nI_succ j] at k1
        exact zx_lv [0, 1] rfl k1
      refine zx_iload C d_Mod_beginStates_2 rfl ?_
      refine zx_ic C d_Mod_beginStates_3 ?_
      refine zx_ic_ge C d_Mod_beginStates_5 (fun h5 => ?_) (fun h5 => ?_)
      · exact absurd h5 (nI_ge (a := j) (b := 64) (by omega) (by omega))
      · refine zx_aload C d_Mod_beginStates_8 rfl ?_
        refine zm_g C f_Mod_63_12 d_Mod_beginStates_9 rfl ?_
        refine zx_iload C d_Mod_beginStates_12 rfl ?_
        refine zx_iload C d_Mod_beginStates_13 rfl ?_
        refine zx_if_ne C d_Mod_beginStates_14 (fun h14 => ?_) (fun h14 => ?_)
        · have ev : (0 : Int32) = bi (j == 0) := by
            have : ¬ j = 0 := fun z => h14 (by rw [z]; rfl)
            simp [bi, this]
          refine zx_ic C d_Mod_beginStates_21 ?_
          refine zm_zst28 C d_Mod_beginStates_22 j rfl (by omega) (by decide) ?_
          rw [stR_a]
          exact zx_lv [0, 1] rfl (st1 _ ev)
        · have ev : (1 : Int32) = bi (j == 0) := by
            have : j = 0 := (nI_e0 (by omega)).mp h14
            simp [bi, this]
          refine zx_ic C d_Mod_beginStates_17 ?_
          refine zx_goto C d_Mod_beginStates_18 ?_
          refine zm_zst28 C d_Mod_beginStates_22 j rfl (by omega) (by decide) ?_
          rw [stR_a]
          exact zx_lv [0, 1] rfl (st1 _ ev)
  refine zx_ic C d_Mod_beginStates_0 ?_
  refine zx_istore C d_Mod_beginStates_1 (by decide) (lv1 := [(1, _), (0, _)]) rfl ?_
  exact zx_lv [0, 1] rfl (l1 64 0 a (by omega) (fun f hf => absurd hf (by omega)))
