set_option maxHeartbeats 4000000 in
set_option maxRecDepth 20000 in
theorem c_Mod_isLaw (G : ZG) (o : Nat) (ad : Nat → Nat) (F : Nat → Int32) (R : Nat → Nat → Int32) (X : va_W) (S : ZA) (hm : mrp S F R) (z : Nat) (hz : z < 64) : ZM G y_Mod_isLaw b_Mod_isLaw 3 (some .boolean) r_Mod_isLaw [.ref o, .int (nI z)] (mw G o ad F R ++ X) (zdi (zB (lwA S z = true)) (mw G o ad F R ++ X)) := by
  refine ZM.of "SameTuesdayModel" "isLaw" rfl rfl (by decide) (Nat.le_of_ble_eq_true rfl) (fun Y C hq => ?_)
  change ZV G Y 0 0 0 [(0, .ref o), (1, .int (nI z))] [] (mw G o ad F R ++ X)
  have e32 := mrp_e32 hm
  have h8 : and8 S ≤ 8 := hm.1.2.2.2.1
  have lp : ∀ n k , k + n = (and8 S) → (ilw (ady S) k z = true) → ZV G Y 0 0 2 [(0, .ref o), (1, .int (nI z)), (2, .int (nI k))] [] (mw G o ad F R ++ X) := by
    intro n
    induction n with
    | zero =>
      intro k  hn h1
      obtain rfl : k = (and8 S) := by omega
      refine zx_iload C d_Mod_isLaw_2 rfl ?_
      refine zx_aload C d_Mod_isLaw_3 rfl ?_
      refine zm_g C f_Mod_123_12 d_Mod_isLaw_4 rfl ?_
      refine zx_ic_ge C d_Mod_isLaw_7 (fun h7 => ?_) (fun h7 => ?_)
      · refine zx_ic C d_Mod_isLaw_31 ?_
        exact zx_zret C hq (by decide) d_Mod_isLaw_32 (⟨by rw [zB_t (show lwA S z = true from h1)], rfl⟩)
      · exact absurd (by rw [e32]; exact Int32.le_refl _) h7
    | succ n ih =>
      intro k  hn h1
      have e33 := hm.2.2.2.2.2.2.2 k (by omega)
      have b33 := hm.1.2.2.2.2 k (by omega)
      refine zx_iload C d_Mod_isLaw_2 rfl ?_
      refine zx_aload C d_Mod_isLaw_3 rfl ?_
      refine zm_g C f_Mod_123_12 d_Mod_isLaw_4 rfl ?_
      refine zx_ic_ge C d_Mod_isLaw_7 (fun h7 => ?_) (fun h7 => ?_)
      · exact absurd h7 (by rw [e32]; exact nI_ge (by omega) (by omega))
      · refine zx_iload C d_Mod_isLaw_10 rfl ?_
        refine zx_aload C d_Mod_isLaw_11 rfl ?_
        refine zm_g C f_Mod_75_12 d_Mod_isLaw_12 rfl ?_
        refine zx_iload C d_Mod_isLaw_15 rfl ?_
        refine zm_ld33 C d_Mod_isLaw_16 k rfl (by omega) ?_
        rw [e33]
        refine zx_ic C d_Mod_isLaw_17 ?_
        refine zx_ixor C d_Mod_isLaw_18 ?_
        refine zx_iand C d_Mod_isLaw_19 ?_
        refine zx_if_ne C d_Mod_isLaw_20 (fun h20 => ?_) (fun h20 => ?_)
        · have h2 : ilw (ady S) (k + 1) z = true := by
            show (ilw (ady S) k z && !(z &&& ady S k == z)) = true
            rw [h1]; simp; exact fun q => h20 ((q_subI hz b33).mpr q)
          refine zx_iinc C d_Mod_isLaw_25 (by decide) rfl (lv1 := [(2, _), (0, _), (1, _)]) rfl ?_
          refine zx_goto C d_Mod_isLaw_28 ?_
          have k1 := ih (k + 1) (by omega) h2
          rw [nI_succ k] at k1
          exact zx_lv [0, 1, 2] rfl k1
        · have ev : ¬ lwA S z = true := by rw [lwA, ilw_mono (k := k) (by omega) ((q_subI hz b33).mp h20)]; decide
          refine zx_ic C d_Mod_isLaw_23 ?_
          exact zx_zret C hq (by decide) d_Mod_isLaw_24 (⟨by rw [zB_f ev], rfl⟩)
  refine zx_ic C d_Mod_isLaw_0 ?_
  refine zx_istore C d_Mod_isLaw_1 (by decide) (lv1 := [(2, _), (0, _), (1, _)]) rfl ?_
  exact zx_lv [0, 1, 2] rfl (lp (and8 S) 0 (by omega) rfl)
set_option maxHeartbeats 4000000 in
set_option maxRecDepth 20000 in
theorem c_Mod_laws (G : ZG) (o : Nat) (ad : Nat → Nat) (F : Nat → Int32) (R : Nat → Nat → Int32) (X : va_W) (S : ZA) (hm : mrp S F R) (k : Int32) : ZM G y_Mod_laws b_Mod_laws 4 (some .int) r_Mod_laws [.ref o, .int k] (mw G o ad F R ++ X) (mpost G o ad X (ap_laws S k) S) := by
  refine ZM.of "SameTuesdayModel" "laws" rfl rfl (by decide) (Nat.le_of_ble_eq_true rfl) (fun Y C hq => ?_)
  change ZV G Y 0 0 0 [(0, .ref o), (1, .int k)] [] (mw G o ad F R ++ X)
  refine zx_iload C d_Mod_laws_0 rfl ?_
  refine zx_ic C d_Mod_laws_1 ?_
  refine zx_ic_ge C d_Mod_laws_2 (fun h2 => ?_) (fun h2 => ?_)
  · have ev0 : ap_laws S k = _ := if_neg (Int32.not_lt.mpr h2)
    refine zx_aload C d_Mod_laws_7 rfl ?_
    refine zm_g C f_Mod_87_12 d_Mod_laws_8 rfl ?_
    refine zx_if_ne C d_Mod_laws_11 (fun h11 => ?_) (fun h11 => ?_)
    · rw [if_neg (fun q => h11 ((mrp_0 hm).mpr q))] at ev0
      have lp : ∀ n z c, z + n = 64 → (c ≤ z) → (ap_laws S k = lawsF (lwA S) k (64 - z) z c) → ZV G Y 0 0 21 [(0, .ref o), (1, .int k), (2, .int (nI c)), (3, .int (nI z))] [] (mw G o ad F R ++ X) := by
        intro n
        induction n with
        | zero =>
          intro z c hn hc h3
          obtain rfl : z = 64 := by omega
          refine zx_iload C d_Mod_laws_21 rfl ?_
          refine zx_ic C d_Mod_laws_22 ?_
          refine zx_ic_ge C d_Mod_laws_24 (fun h24 => ?_) (fun h24 => ?_)
          · rw [Nat.sub_self, lawsF] at h3
            refine zx_iload C d_Mod_laws_51 rfl ?_
            refine zx_ic C d_Mod_laws_52 ?_
            refine zx_ic_ne C d_Mod_laws_53 (fun h53 => ?_) (fun h53 => ?_)
            · rw [if_neg h53] at h3
              refine zx_ic C d_Mod_laws_60 ?_
              exact zx_iret C hq d_Mod_laws_62 (by rw [h3]; exact mpost_i rfl hm)
            · rw [if_pos h53] at h3
              refine zx_iload C d_Mod_laws_56 rfl ?_
              refine zx_goto C d_Mod_laws_57 ?_
              exact zx_iret C hq d_Mod_laws_62 (by rw [h3]; exact mpost_i rfl hm)
          · exact absurd (Int32.le_refl _) h24
        | succ n ih =>
          intro z c hn hc h3
          rw [show 64 - z = (64 - (z + 1)) + 1 by omega, lawsF] at h3
          refine zx_iload C d_Mod_laws_21 rfl ?_
          refine zx_ic C d_Mod_laws_22 ?_
          refine zx_ic_ge C d_Mod_laws_24 (fun h24 => ?_) (fun h24 => ?_)
          · exact absurd h24 (nI_ge (a := z) (b := 64) (by omega) (by omega))
          · refine zx_aload C d_Mod_laws_27 rfl ?_
            refine zx_iload C d_Mod_laws_28 rfl ?_
            refine zr_di (zr_V C l_Mod_219 d_Mod_laws_29 (As := [_]) rfl rfl (Nat.le_of_ble_eq_true rfl) (c_Mod_isLaw G _ _ _ _ _ S (by exact hm) z (by omega)) 0 rfl rfl ⟨Nat.le_of_ble_eq_true rfl, Nat.le_of_ble_eq_true rfl, Nat.le_of_ble_eq_true rfl, Nat.le_of_ble_eq_true rfl⟩) ?_
            refine zx_ifB_eq C d_Mod_laws_32 (fun h32 => ?_) (fun h32 => ?_)
            · rw [if_neg h32] at h3
              refine zx_iinc C d_Mod_laws_45 (by decide) rfl (lv1 := [(3, _), (0, _), (1, _), (2, _)]) rfl ?_
              refine zx_goto C d_Mod_laws_48 ?_
              first
                | (have k1 := ih (z + 1) c (by omega) (by omega) h3; rw [nI_succ z] at k1; exact zx_lv [0, 1, 2, 3] rfl k1)
                | (have k1 := ih (z + 1) (c + 1) (by omega) (by omega) h3; rw [nI_succ z, nI_succ c] at k1; exact zx_lv [0, 1, 2, 3] rfl k1)
            · rw [if_pos h32] at h3
              refine zx_iload C d_Mod_laws_35 rfl ?_
              refine zx_iload C d_Mod_laws_36 rfl ?_
              refine zx_ic_ne C d_Mod_laws_37 (fun h37 => ?_) (fun h37 => ?_)
              · rw [if_neg h37] at h3
                refine zx_iinc C d_Mod_laws_42 (by decide) rfl (lv1 := [(2, _), (0, _), (1, _), (3, _)]) rfl ?_
                refine zx_iinc C d_Mod_laws_45 (by decide) rfl (lv1 := [(3, _), (2, _), (0, _), (1, _)]) rfl ?_
                refine zx_goto C d_Mod_laws_48 ?_
                first
                  | (have k1 := ih (z + 1) c (by omega) (by omega) h3; rw [nI_succ z] at k1; exact zx_lv [0, 1, 2, 3] rfl k1)
                  | (have k1 := ih (z + 1) (c + 1) (by omega) (by omega) h3; rw [nI_succ z, nI_succ c] at k1; exact zx_lv [0, 1, 2, 3] rfl k1)
              · rw [if_pos h37] at h3
                refine zx_iload C d_Mod_laws_40 rfl ?_
                exact zx_iret C hq d_Mod_laws_41 (by rw [h3]; exact mpost_i rfl hm)
      refine zx_ic C d_Mod_laws_17 ?_
      refine zx_istore C d_Mod_laws_18 (by decide) (lv1 := [(2, _), (0, _), (1, _)]) rfl ?_
      refine zx_ic C d_Mod_laws_19 ?_
      refine zx_istore C d_Mod_laws_20 (by decide) (lv1 := [(3, _), (2, _), (0, _), (1, _)]) rfl ?_
      exact zx_lv [0, 1, 2, 3] rfl (lp 64 0 0 (by omega) (by omega) ev0)
    · rw [if_pos ((mrp_0 hm).mp h11)] at ev0
      have ev := ev0
      have hm2 := hm
      refine zx_ic C d_Mod_laws_14 ?_
      exact zx_iret C hq d_Mod_laws_16 (by rw [ev]; exact mpost_i rfl hm2)
  · have ev : ap_laws S k = -1 := if_pos (Int32.not_le.mp h2)
    have hm2 := hm
    refine zx_ic C d_Mod_laws_5 ?_
    exact zx_iret C hq d_Mod_laws_6 (by rw [ev]; exact mpost_i rfl hm2)
set_option maxHeartbeats 4000000 in
set_option maxRecDepth 20000 in
theorem c_Mod_size (G : ZG) (w : va_W) (z : Nat) (hz : z < 64) : ZM G y_Mod_size b_Mod_size 3 (some .int) r_Mod_size [.int (nI z)] w (zdi (nI (popc 6 z)) w) := by
  refine ZM.of "SameTuesdayModel" "size" rfl rfl (by decide) (Nat.le_of_ble_eq_true rfl) (fun Y C hq => ?_)
  change ZV G Y 0 0 0 [(0, .int (nI z))] [] w
  have lp : ∀ n x c, x < 2 ^ n → n ≤ 6 → c ≤ 6 → c + popc n x = popc 6 z → ZV G Y 0 0 4 [(0, .int (nI z)), (1, .int (nI c)), (2, .int (nI x))] [] w := by
    intro n
    induction n with
    | zero =>
      intro x c hx hn hc h1
      obtain rfl : x = 0 := by have : x < 1 := hx; omega
      refine zx_iload C d_Mod_size_4 rfl ?_
      refine zx_if_le C d_Mod_size_5 (fun h5 => ?_) (fun h5 => ?_)
      · refine zx_iload C d_Mod_size_21 rfl ?_
        exact zx_iret C hq d_Mod_size_22 (⟨by rw [← h1]; rfl, rfl⟩)
      · exact absurd ((nI_np (by decide)).mpr rfl) h5
    | succ n ih =>
      intro x c hx hn hc h1
      have hx64 : x < 64 := Nat.lt_of_lt_of_le hx (show 2 ^ (n + 1) ≤ 2 ^ 6 from Nat.pow_le_pow_right (by decide) hn)
      have hu : popc (n + 1) x = x % 2 + popc n (x / 2) := rfl
      have hp6 := popc_le (n := 6) (z := z)
      refine zx_iload C d_Mod_size_4 rfl ?_
      refine zx_if_le C d_Mod_size_5 (fun h5 => ?_) (fun h5 => ?_)
      · obtain rfl : x = 0 := (nI_np (by omega)).mp h5
        have hz0 : ∀ k, popc k 0 = 0 := fun k => by induction k with | zero => rfl | succ k ihk => (show 0 % 2 + popc k (0 / 2) = 0; rw [Nat.zero_div, ihk])
        have h2 : c = popc 6 z := by rw [← h1, hz0]; rfl
        refine zx_iload C d_Mod_size_21 rfl ?_
        exact zx_iret C hq d_Mod_size_22 (⟨by rw [h2], rfl⟩)
      · refine zx_iload C d_Mod_size_8 rfl ?_
        refine zx_iload C d_Mod_size_9 rfl ?_
        refine zx_ic C d_Mod_size_10 ?_
        refine zx_iand C d_Mod_size_11 ?_
        rw [nI_a1 (by omega)]
        refine zx_iadd C d_Mod_size_12 ?_
        rw [nI_add]
        refine zx_istore C d_Mod_size_13 (by decide) (lv1 := [(1, _), (0, _), (2, _)]) rfl ?_
        refine zx_iload C d_Mod_size_14 rfl ?_
        refine zx_ic C d_Mod_size_15 ?_
        refine zx_ishr C d_Mod_size_16 ?_
        rw [nI_s1 (by omega)]
        refine zx_istore C d_Mod_size_17 (by decide) (lv1 := [(2, _), (1, _), (0, _)]) rfl ?_
        refine zx_goto C d_Mod_size_18 ?_
        exact zx_lv [0, 1, 2] rfl (ih (x / 2) (c + x % 2) (by rw [Nat.pow_succ] at hx; omega) (by omega) (by omega) (by omega))
  refine zx_ic C d_Mod_size_0 ?_
  refine zx_istore C d_Mod_size_1 (by decide) (lv1 := [(1, _), (0, _)]) rfl ?_
  refine zx_iload C d_Mod_size_2 rfl ?_
  refine zx_istore C d_Mod_size_3 (by decide) (lv1 := [(2, _), (1, _), (0, _)]) rfl ?_
  exact zx_lv [0, 1, 2] rfl (lp 6 z 0 hz (Nat.le_refl _) (by omega) (by omega))
set_option maxHeartbeats 4000000 in
set_option maxRecDepth 20000 in
theorem c_Mod_fewest (G : ZG) (o : Nat) (ad : Nat → Nat) (F : Nat → Int32) (R : Nat → Nat → Int32) (X : va_W) (S : ZA) (hm : mrp S F R)  : ZM G y_Mod_fewest b_Mod_fewest 3 (some .int) r_Mod_fewest [.ref o] (mw G o ad F R ++ X) (mpost G o ad X (ap_few S) S) := by
  refine ZM.of "SameTuesdayModel" "fewest" rfl rfl (by decide) (Nat.le_of_ble_eq_true rfl) (fun Y C hq => ?_)
  change ZV G Y 0 0 0 [(0, .ref o)] [] (mw G o ad F R ++ X)
  refine zx_aload C d_Mod_fewest_0 rfl ?_
  refine zm_g C f_Mod_87_12 d_Mod_fewest_1 rfl ?_
  refine zx_if_ne C d_Mod_fewest_4 (fun h4 => ?_) (fun h4 => ?_)
  · have ev0 : ap_few S = _ := if_neg (fun q => h4 ((mrp_0 hm).mpr q))
    have lp : ∀ n z b, z + n = 64 → (∀ y, b = some y → y < z) → (ap_few S = bzv (fewF (lwA S) (64 - z) z b)) → ZV G Y 0 0 15 [(0, .ref o), (1, .int (bzv b)), (2, .int (nI z))] [] (mw G o ad F R ++ X) := by
      intro n
      induction n with
      | zero =>
        intro z b hn hy h3
        obtain rfl : z = 64 := by omega
        refine zx_iload C d_Mod_fewest_15 rfl ?_
        refine zx_ic C d_Mod_fewest_16 ?_
        refine zx_ic_ge C d_Mod_fewest_18 (fun h18 => ?_) (fun h18 => ?_)
        · refine zx_iload C d_Mod_fewest_54 rfl ?_
          exact zx_iret C hq d_Mod_fewest_55 (by rw [h3]; exact mpost_i rfl hm)
        · exact absurd (Int32.le_refl _) h18
      | succ n ih =>
        intro z b hn hy h3
        rw [show 64 - z = (64 - (z + 1)) + 1 by omega, fewF] at h3
        have s48 : ∀ b2, ap_few S = bzv (fewF (lwA S) (64 - (z + 1)) (z + 1) b2) → (∀ y, b2 = some y → y < z + 1) → ZV G Y 0 0 48 [(0, .ref o), (1, .int (bzv b2)), (2, .int (nI z))] [] (mw G o ad F R ++ X) := by
          intro b2 h5 h6
          refine zx_iinc C d_Mod_fewest_48 (by decide) rfl (lv1 := [(2, _), (0, _), (1, _)]) rfl ?_
          refine zx_goto C d_Mod_fewest_51 ?_
          have k1 := ih (z + 1) b2 (by omega) h6 h5
          rw [nI_succ z] at k1
          exact zx_lv [0, 1, 2] rfl k1
        cases b with
        | none =>
          refine zx_iload C d_Mod_fewest_15 rfl ?_
          refine zx_ic C d_Mod_fewest_16 ?_
          refine zx_ic_ge C d_Mod_fewest_18 (fun h18 => ?_) (fun h18 => ?_)
          · exact absurd h18 (nI_ge (a := z) (b := 64) (by omega) (by omega))
          · refine zx_aload C d_Mod_fewest_21 rfl ?_
            refine zx_iload C d_Mod_fewest_22 rfl ?_
            refine zr_di (zr_V C l_Mod_219 d_Mod_fewest_23 (As := [_]) rfl rfl (Nat.le_of_ble_eq_true rfl) (c_Mod_isLaw G _ _ _ _ _ S (by exact hm) z (by omega)) 0 rfl rfl ⟨Nat.le_of_ble_eq_true rfl, Nat.le_of_ble_eq_true rfl, Nat.le_of_ble_eq_true rfl, Nat.le_of_ble_eq_true rfl⟩) ?_
            refine zx_ifB_eq C d_Mod_fewest_26 (fun h26 => ?_) (fun h26 => ?_)
            · rw [if_neg (fun q => h26 q.1)] at h3
              have h7 := s48 none h3 (fun y hy => by cases hy)
              exact zx_lv [0, 1, 2] rfl h7
            · rw [if_pos ⟨h26, rfl⟩] at h3
              have h7 := s48 (some z) h3 (fun y hy => by cases hy; omega)
              refine zx_iload C d_Mod_fewest_29 rfl ?_
              refine zx_ic C d_Mod_fewest_30 ?_
              refine zx_ic_eq C d_Mod_fewest_32 (fun h32 => ?_) (fun h32 => ?_)
              · refine zx_iload C d_Mod_fewest_46 rfl ?_
                refine zx_istore C d_Mod_fewest_47 (by decide) (lv1 := [(1, _), (0, _), (2, _)]) rfl ?_
                exact zx_lv [0, 1, 2] rfl h7
              · exact absurd rfl h32
        | some y =>
          have hyz := hy y rfl
          have p1 := popc_le (n := 6) (z := z)
          have p2 := popc_le (n := 6) (z := y)
          refine zx_iload C d_Mod_fewest_15 rfl ?_
          refine zx_ic C d_Mod_fewest_16 ?_
          refine zx_ic_ge C d_Mod_fewest_18 (fun h18 => ?_) (fun h18 => ?_)
          · exact absurd h18 (nI_ge (a := z) (b := 64) (by omega) (by omega))
          · refine zx_aload C d_Mod_fewest_21 rfl ?_
            refine zx_iload C d_Mod_fewest_22 rfl ?_
            refine zr_di (zr_V C l_Mod_219 d_Mod_fewest_23 (As := [_]) rfl rfl (Nat.le_of_ble_eq_true rfl) (c_Mod_isLaw G _ _ _ _ _ S (by exact hm) z (by omega)) 0 rfl rfl ⟨Nat.le_of_ble_eq_true rfl, Nat.le_of_ble_eq_true rfl, Nat.le_of_ble_eq_true rfl, Nat.le_of_ble_eq_true rfl⟩) ?_
            refine zx_ifB_eq C d_Mod_fewest_26 (fun h26 => ?_) (fun h26 => ?_)
            · rw [if_neg (fun q => h26 q.1)] at h3
              have h7 := s48 (some y) h3 (fun y2 hy2 => by cases hy2; omega)
              exact zx_lv [0, 1, 2] rfl h7
            · refine zx_iload C d_Mod_fewest_29 rfl ?_
              refine zx_ic C d_Mod_fewest_30 ?_
              refine zx_ic_eq C d_Mod_fewest_32 (fun h32 => ?_) (fun h32 => ?_)
              · exact absurd h32 (fun q => absurd ((bzv_none (b := some y) (fun d hd => by cases hd; omega)).mp q) (by simp))
              · refine zx_iload C d_Mod_fewest_35 rfl ?_
                refine zr_di (zr_S C l_Mod_222 d_Mod_fewest_36 (As := [_]) rfl rfl (Nat.le_of_ble_eq_true rfl) (c_Mod_size G _ z (by omega)) ⟨Nat.le_of_ble_eq_true rfl, Nat.le_of_ble_eq_true rfl, Nat.le_of_ble_eq_true rfl, Nat.le_of_ble_eq_true rfl⟩) ?_
                refine zx_iload C d_Mod_fewest_39 rfl ?_
                refine zr_di (zr_S C l_Mod_222 d_Mod_fewest_40 (As := [_]) rfl rfl (Nat.le_of_ble_eq_true rfl) (c_Mod_size G _ y (by omega)) ⟨Nat.le_of_ble_eq_true rfl, Nat.le_of_ble_eq_true rfl, Nat.le_of_ble_eq_true rfl, Nat.le_of_ble_eq_true rfl⟩) ?_
                refine zx_ic_ge C d_Mod_fewest_43 (fun h43 => ?_) (fun h43 => ?_)
                · rw [if_neg (fun q => by have := (nI_leI (by omega) (by omega)).mp h43; have := of_decide_eq_true (show decide (popc 6 z < popc 6 y) = true from q.2); omega)] at h3
                  have h7 := s48 (some y) h3 (fun y2 hy2 => by cases hy2; omega)
                  exact zx_lv [0, 1, 2] rfl h7
                · rw [if_pos ⟨h26, by have hq : ¬ popc 6 y ≤ popc 6 z := fun q => h43 ((nI_leI (by omega) (by omega)).mpr q); show decide (popc 6 z < popc 6 y) = true; exact decide_eq_true (by omega)⟩] at h3
                  have h7 := s48 (some z) h3 (fun y2 hy2 => by cases hy2; omega)
                  refine zx_iload C d_Mod_fewest_46 rfl ?_
                  refine zx_istore C d_Mod_fewest_47 (by decide) (lv1 := [(1, _), (0, _), (2, _)]) rfl ?_
                  exact zx_lv [0, 1, 2] rfl h7
    refine zx_ic C d_Mod_fewest_10 ?_
    refine zx_istore C d_Mod_fewest_12 (by decide) (lv1 := [(1, _), (0, _)]) rfl ?_
    refine zx_ic C d_Mod_fewest_13 ?_
    refine zx_istore C d_Mod_fewest_14 (by decide) (lv1 := [(2, _), (1, _), (0, _)]) rfl ?_
    exact zx_lv [0, 1, 2] rfl (lp 64 0 none (by omega) (fun y hy => by cases hy) ev0)
  · have ev : ap_few S = -3 := if_pos ((mrp_0 hm).mp h4)
    have hm2 := hm
    refine zx_ic C d_Mod_fewest_7 ?_
    exact zx_iret C hq d_Mod_fewest_9 (by rw [ev]; exact mpost_i rfl hm2)
set_option maxHeartbeats 4000000 in
set_option maxRecDepth 20000 in
theorem c_Mod_parted (G : ZG) (o : Nat) (ad : Nat → Nat) (F : Nat → Int32) (R : Nat → Nat → Int32) (X : va_W) (S : ZA) (hm : mrp S F R) (f : Nat) (hf : f < 64) : ZM G y_Mod_parted b_Mod_parted 5 (some .int) r_Mod_parted [.ref o, .int (nI f)] (mw G o ad F R ++ X) (zdi (nI (prt (lwA S) f)) (mw G o ad F R ++ X)) := by
  refine ZM.of "SameTuesdayModel" "parted" rfl rfl (by decide) (Nat.le_of_ble_eq_true rfl) (fun Y C hq => ?_)
  change ZV G Y 0 0 0 [(0, .ref o), (1, .int (nI f))] [] (mw G o ad F R ++ X)
  have lp : ∀ n z , z + n = 64 → ZV G Y 0 0 7 [(0, .ref o), (1, .int (nI f)), (2, .int (nI (inC (lwA S) f z))), (3, .int (nI (ouC (lwA S) f z))), (4, .int (nI z))] [] (mw G o ad F R ++ X) := by
    intro n
    induction n with
    | zero =>
      intro z  hn 
      obtain rfl : z = 64 := by omega
      have b1 := cntN_le (fun z => lwA S z && (z &&& f == z)) 64
      have b2 := cntN_le (fun z => lwA S z && !(z &&& f == z)) 64
      have b1 : inC (lwA S) f 64 ≤ 64 := b1
      have b2 : ouC (lwA S) f 64 ≤ 64 := b2
      refine zx_iload C d_Mod_parted_7 rfl ?_
      refine zx_ic C d_Mod_parted_9 ?_
      refine zx_ic_ge C d_Mod_parted_11 (fun h11 => ?_) (fun h11 => ?_)
      · refine zx_iload C d_Mod_parted_63 rfl ?_
        refine zx_iload C d_Mod_parted_64 rfl ?_
        refine zx_ic_ge C d_Mod_parted_65 (fun h65 => ?_) (fun h65 => ?_)
        · have ev : prt (lwA S) f = ouC (lwA S) f 64 := if_neg (by have := (nI_leI (by omega) (by omega)).mp h65; omega)
          refine zx_iload C d_Mod_parted_72 rfl ?_
          exact zx_iret C hq d_Mod_parted_73 (⟨by rw [ev], rfl⟩)
        · have ev : prt (lwA S) f = inC (lwA S) f 64 := if_pos (by have hq : ¬ ouC (lwA S) f 64 ≤ inC (lwA S) f 64 := fun q => h65 ((nI_leI (by omega) (by omega)).mpr q); omega)
          refine zx_iload C d_Mod_parted_68 rfl ?_
          refine zx_goto C d_Mod_parted_69 ?_
          exact zx_iret C hq d_Mod_parted_73 (⟨by rw [ev], rfl⟩)
      · exact absurd (Int32.le_refl _) h11
    | succ n ih =>
      intro z  hn 
      have hi : inC (lwA S) f (z + 1) = inC (lwA S) f z + (if (lwA S z && (z &&& f == z)) = true then 1 else 0) := rfl
      have hu : ouC (lwA S) f (z + 1) = ouC (lwA S) f z + (if (lwA S z && !(z &&& f == z)) = true then 1 else 0) := rfl
      have fin : ∀ i2 o2 : Nat, i2 = inC (lwA S) f (z + 1) → o2 = ouC (lwA S) f (z + 1) → ZV G Y 0 0 57 [(0, .ref o), (1, .int (nI f)), (2, .int (nI i2)), (3, .int (nI o2)), (4, .int (nI z))] [] (mw G o ad F R ++ X) := by
        intro i2 o2 h5 h6
        refine zx_iinc C d_Mod_parted_57 (by decide) rfl (lv1 := [(4, _), (0, _), (1, _), (2, _), (3, _)]) rfl ?_
        refine zx_goto C d_Mod_parted_60 ?_
        have k1 := ih (z + 1) (by omega)
        rw [← h5, ← h6, nI_succ z] at k1
        exact zx_lv [0, 1, 2, 3, 4] rfl k1
      refine zx_iload C d_Mod_parted_7 rfl ?_
      refine zx_ic C d_Mod_parted_9 ?_
      refine zx_ic_ge C d_Mod_parted_11 (fun h11 => ?_) (fun h11 => ?_)
      · exact absurd h11 (nI_ge (a := z) (b := 64) (by omega) (by omega))
      · refine zx_aload C d_Mod_parted_14 rfl ?_
        refine zx_iload C d_Mod_parted_15 rfl ?_
        refine zr_di (zr_V C l_Mod_219 d_Mod_parted_17 (As := [_]) rfl rfl (Nat.le_of_ble_eq_true rfl) (c_Mod_isLaw G _ _ _ _ _ S (by exact hm) z (by omega)) 0 rfl rfl ⟨Nat.le_of_ble_eq_true rfl, Nat.le_of_ble_eq_true rfl, Nat.le_of_ble_eq_true rfl, Nat.le_of_ble_eq_true rfl⟩) ?_
        refine zx_ifB_eq C d_Mod_parted_20 (fun h20 => ?_) (fun h20 => ?_)
        · have hF : lwA S z = false := by simpa using h20
          rw [hF] at hi hu
          have g5 : inC (lwA S) f z = inC (lwA S) f (z + 1) := by rw [hi]; rfl
          have g6 : ouC (lwA S) f z = ouC (lwA S) f (z + 1) := by rw [hu]; rfl
          first
            | exact zx_lv [0, 1, 2, 3, 4] rfl (fin _ _ g5 g6)
            | exact absurd h30 h47
            | exact absurd h47 h30
        · refine zx_iload C d_Mod_parted_23 rfl ?_
          refine zx_iload C d_Mod_parted_24 rfl ?_
          refine zx_iload C d_Mod_parted_26 rfl ?_
          refine zx_ic C d_Mod_parted_27 ?_
          refine zx_ixor C d_Mod_parted_28 ?_
          refine zx_iand C d_Mod_parted_29 ?_
          refine zx_if_ne C d_Mod_parted_30 (fun h30 => ?_) (fun h30 => ?_)
          · have hE : (z &&& f == z) = false := by simp; exact fun q => h30 ((q_subI (by omega) hf).mpr q)
            rw [h20, hE] at hi hu
            have g5 : inC (lwA S) f z = inC (lwA S) f (z + 1) := by rw [hi]; simp
            have g6 : ouC (lwA S) f z + 1 = ouC (lwA S) f (z + 1) := by rw [hu]; simp
            refine zx_ic C d_Mod_parted_37 ?_
            refine zx_iadd C d_Mod_parted_38 ?_
            first | rw [← nI_succ] | rw [Int32.add_zero]
            refine zx_istore C d_Mod_parted_39 (by decide) (lv1 := [(2, _), (0, _), (1, _), (3, _), (4, _)]) rfl ?_
            refine zx_iload C d_Mod_parted_40 rfl ?_
            refine zx_iload C d_Mod_parted_41 rfl ?_
            refine zx_iload C d_Mod_parted_43 rfl ?_
            refine zx_ic C d_Mod_parted_44 ?_
            refine zx_ixor C d_Mod_parted_45 ?_
            refine zx_iand C d_Mod_parted_46 ?_
            refine zx_if_ne C d_Mod_parted_47 (fun h47 => ?_) (fun h47 => ?_)
            · refine zx_ic C d_Mod_parted_54 ?_
              refine zx_iadd C d_Mod_parted_55 ?_
              first | rw [← nI_succ] | rw [Int32.add_zero]
              refine zx_istore C d_Mod_parted_56 (by decide) (lv1 := [(3, _), (2, _), (0, _), (1, _), (4, _)]) rfl ?_
              first
                | exact zx_lv [0, 1, 2, 3, 4] rfl (fin _ _ g5 g6)
                | exact absurd h30 h47
                | exact absurd h47 h30
            · refine zx_ic C d_Mod_parted_50 ?_
              refine zx_goto C d_Mod_parted_51 ?_
              refine zx_iadd C d_Mod_parted_55 ?_
              first | rw [← nI_succ] | rw [Int32.add_zero]
              refine zx_istore C d_Mod_parted_56 (by decide) (lv1 := [(3, _), (2, _), (0, _), (1, _), (4, _)]) rfl ?_
              first
                | exact zx_lv [0, 1, 2, 3, 4] rfl (fin _ _ g5 g6)
                | exact absurd h30 h47
                | exact absurd h47 h30
          · have hE := (q_subI (by omega) hf).mp h30
            rw [h20, hE] at hi hu
            have g5 : inC (lwA S) f z + 1 = inC (lwA S) f (z + 1) := by rw [hi]; simp
            have g6 : ouC (lwA S) f z = ouC (lwA S) f (z + 1) := by rw [hu]; simp
            refine zx_ic C d_Mod_parted_33 ?_
            refine zx_goto C d_Mod_parted_34 ?_
            refine zx_iadd C d_Mod_parted_38 ?_
            first | rw [← nI_succ] | rw [Int32.add_zero]
            refine zx_istore C d_Mod_parted_39 (by decide) (lv1 := [(2, _), (0, _), (1, _), (3, _), (4, _)]) rfl ?_
            refine zx_iload C d_Mod_parted_40 rfl ?_
            refine zx_iload C d_Mod_parted_41 rfl ?_
            refine zx_iload C d_Mod_parted_43 rfl ?_
            refine zx_ic C d_Mod_parted_44 ?_
            refine zx_ixor C d_Mod_parted_45 ?_
            refine zx_iand C d_Mod_parted_46 ?_
            refine zx_if_ne C d_Mod_parted_47 (fun h47 => ?_) (fun h47 => ?_)
            · refine zx_ic C d_Mod_parted_54 ?_
              refine zx_iadd C d_Mod_parted_55 ?_
              first | rw [← nI_succ] | rw [Int32.add_zero]
              refine zx_istore C d_Mod_parted_56 (by decide) (lv1 := [(3, _), (2, _), (0, _), (1, _), (4, _)]) rfl ?_
              first
                | exact zx_lv [0, 1, 2, 3, 4] rfl (fin _ _ g5 g6)
                | exact absurd h30 h47
                | exact absurd h47 h30
            · refine zx_ic C d_Mod_parted_50 ?_
              refine zx_goto C d_Mod_parted_51 ?_
              refine zx_iadd C d_Mod_parted_55 ?_
              first | rw [← nI_succ] | rw [Int32.add_zero]
              refine zx_istore C d_Mod_parted_56 (by decide) (lv1 := [(3, _), (2, _), (0, _), (1, _), (4, _)]) rfl ?_
              first
                | exact zx_lv [0, 1, 2, 3, 4] rfl (fin _ _ g5 g6)
                | exact absurd h30 h47
                | exact absurd h47 h30
  refine zx_ic C d_Mod_parted_0 ?_
  refine zx_istore C d_Mod_parted_1 (by decide) (lv1 := [(2, _), (0, _), (1, _)]) rfl ?_
  refine zx_ic C d_Mod_parted_2 ?_
  refine zx_istore C d_Mod_parted_3 (by decide) (lv1 := [(3, _), (2, _), (0, _), (1, _)]) rfl ?_
  refine zx_ic C d_Mod_parted_4 ?_
  refine zx_istore C d_Mod_parted_5 (by decide) (lv1 := [(4, _), (3, _), (2, _), (0, _), (1, _)]) rfl ?_
  exact zx_lv [0, 1, 2, 3, 4] rfl (lp 64 0 (by omega))
set_option maxHeartbeats 4000000 in
set_option maxRecDepth 20000 in
theorem c_Mod_next (G : ZG) (o : Nat) (ad : Nat → Nat) (F : Nat → Int32) (R : Nat → Nat → Int32) (X : va_W) (S : ZA) (hm : mrp S F R) (what : Int32) : ZM G y_Mod_next b_Mod_next 5 (some .int) r_Mod_next [.ref o, .int what] (mw G o ad F R ++ X) (mpost G o ad X (ap_next S what) S) := by
  refine ZM.of "SameTuesdayModel" "next" rfl rfl (by decide) (Nat.le_of_ble_eq_true rfl) (fun Y C hq => ?_)
  change ZV G Y 0 0 0 [(0, .ref o), (1, .int what)] [] (mw G o ad F R ++ X)
  have ht := mrp_tok hm
  have e7 : F 7 = nI (aT S).2.2.1 := mrp_e7 hm
  have hM : (aT S).2.2.1 ≤ 60 := ht.2.2.1
  refine zx_iload C d_Mod_next_0 rfl ?_
  refine zx_ic C d_Mod_next_1 ?_
  refine zx_ic C d_Mod_next_2 ?_
  refine zr_di (zr_S C l_Mod_83 d_Mod_next_3 (As := [_, _, _]) rfl rfl (Nat.le_of_ble_eq_true rfl) (c_Mod_within G _ _ _ _) ⟨Nat.le_of_ble_eq_true rfl, Nat.le_of_ble_eq_true rfl, Nat.le_of_ble_eq_true rfl, Nat.le_of_ble_eq_true rfl⟩) ?_
  refine zx_ifB_ne C d_Mod_next_6 (fun h6 => ?_) (fun h6 => ?_)
  · have ev0 : ap_next S what = _ := if_neg (nor_of h6)
    refine zx_aload C d_Mod_next_12 rfl ?_
    refine zm_g C f_Mod_87_12 d_Mod_next_13 rfl ?_
    refine zx_if_ne C d_Mod_next_16 (fun h16 => ?_) (fun h16 => ?_)
    · rw [if_neg (fun q => h16 ((mrp_0 hm).mpr q))] at ev0
      obtain ⟨N0, hN0⟩ : ∃ x, x = nxF (cbe (aT S) (aT S).2.2.1) (prt (lwA S)) 64 0 (none, 0) := ⟨_, rfl⟩
      rw [← hN0] at ev0
      refine zx_eq rfl rfl (w1 := mw G o ad F (stR R (R 28) (R 29) (R 30) (R 31)) ++ X) (by rw [stR_self]) ?_
      refine zx_aload C d_Mod_next_22 rfl ?_
      refine zx_ic C d_Mod_next_23 ?_
      refine zr_v (zr_V C l_Mod_213 d_Mod_next_25 (As := [_]) rfl rfl (Nat.le_of_ble_eq_true rfl) (c_Mod_goStates G _ _ _ _ _ _ _ _ _ (aT S) (by exact hm.2.2.2.2.1) 60 (by decide)) 0 rfl rfl ⟨Nat.le_of_ble_eq_true rfl, Nat.le_of_ble_eq_true rfl, Nat.le_of_ble_eq_true rfl, Nat.le_of_ble_eq_true rfl⟩) (fun w1 hp => ?_)
      obtain ⟨a1, b1, c1, d1, rfl, h1⟩ := hp
      rw [show min (aT S).2.2.1 (60 + 1) = (aT S).2.2.1 by omega] at h1
      have lp : ∀ n f s, f + n = 64 → (∀ y, s.1 = some y → y < f) → (s.2 ≤ 64) → (N0 = nxF (cbe (aT S) (aT S).2.2.1) (prt (lwA S)) (64 - f) f s) → ZV G Y 0 0 36 [(0, .ref o), (1, .int what), (2, .int (bzv s.1)), (3, .int (nI s.2)), (4, .int (nI f))] [] (mw G o ad F (stR R a1 b1 c1 d1) ++ X) := by
        intro n
        induction n with
        | zero =>
          intro f s hn hy hs h3
          obtain rfl : f = 64 := by omega
          refine zx_iload C d_Mod_next_36 rfl ?_
          refine zx_ic C d_Mod_next_38 ?_
          refine zx_ic_ge C d_Mod_next_40 (fun h40 => ?_) (fun h40 => ?_)
          · refine zx_iload C d_Mod_next_85 rfl ?_
            refine zx_if_ne C d_Mod_next_86 (fun h86 => ?_) (fun h86 => ?_)
            · rw [if_neg h86, h3] at ev0
              refine zx_iload C d_Mod_next_93 rfl ?_
              exact zx_iret C hq d_Mod_next_94 (by rw [ev0]; exact mpost_i rfl hm)
            · rw [if_pos h86, h3] at ev0
              refine zx_iload C d_Mod_next_89 rfl ?_
              refine zx_goto C d_Mod_next_90 ?_
              exact zx_iret C hq d_Mod_next_94 (by rw [ev0]; exact mpost_i rfl hm)
          · exact absurd (Int32.le_refl _) h40
        | succ n ih =>
          intro f s hn hy hs h3
          rw [show 64 - f = (64 - (f + 1)) + 1 by omega, nxF] at h3
          have ef := h1 f (by omega)
          have pf := prt_le (lwA S) f
          have s79 : ∀ s2 : Option Nat × Nat, N0 = nxF (cbe (aT S) (aT S).2.2.1) (prt (lwA S)) (64 - (f + 1)) (f + 1) s2 → (∀ y, s2.1 = some y → y < f + 1) → s2.2 ≤ 64 → ZV G Y 0 0 79 [(0, .ref o), (1, .int what), (2, .int (bzv s2.1)), (3, .int (nI s2.2)), (4, .int (nI f))] [] (mw G o ad F (stR R a1 b1 c1 d1) ++ X) := by
            intro s2 h5 h6 h7
            refine zx_iinc C d_Mod_next_79 (by decide) rfl (lv1 := [(4, _), (0, _), (1, _), (2, _), (3, _)]) rfl ?_
            refine zx_goto C d_Mod_next_82 ?_
            have k1 := ih (f + 1) s2 (by omega) h6 h7 h5
            rw [nI_succ f] at k1
            exact zx_lv [0, 1, 2, 3, 4] rfl k1
          refine zx_iload C d_Mod_next_36 rfl ?_
          refine zx_ic C d_Mod_next_38 ?_
          refine zx_ic_ge C d_Mod_next_40 (fun h40 => ?_) (fun h40 => ?_)
          · exact absurd h40 (nI_ge (a := f) (b := 64) (by omega) (by omega))
          · refine zx_aload C d_Mod_next_43 rfl ?_
            refine zm_g C f_Mod_72_12 d_Mod_next_44 rfl ?_
            refine zx_iload C d_Mod_next_47 rfl ?_
            refine zm_zld31 C d_Mod_next_49 f rfl (by omega) ?_
            refine zx_if_eq C d_Mod_next_50 (fun h50 => ?_) (fun h50 => ?_)
            · rw [if_neg (fun q => by have := q.1; rw [bi_0.mp (ef.symm.trans h50)] at this; cases this)] at h3
              have h7 := s79 s h3 (fun y hy2 => by have := hy y hy2; omega) hs
              exact zx_lv [0, 1, 2, 3, 4] rfl h7
            · have hB : (cbe (aT S) (aT S).2.2.1) f = true := bi_1.mp (fun q => h50 (ef.trans q))
              refine zx_iload C d_Mod_next_53 rfl ?_
              refine zx_ic C d_Mod_next_54 ?_
              refine zx_ic_eq C d_Mod_next_56 (fun h56 => ?_) (fun h56 => ?_)
              · rw [if_pos ⟨hB, Or.inl ((bzv_none (fun d hd => by have := hy d hd; omega)).mp h56)⟩] at h3
                have h7 := s79 (some f, (prt (lwA S)) f) h3 (fun y hy2 => by cases hy2; omega) pf
                refine zx_iload C d_Mod_next_69 rfl ?_
                refine zx_istore C d_Mod_next_71 (by decide) (lv1 := [(2, _), (0, _), (1, _), (3, _), (4, _)]) rfl ?_
                refine zx_aload C d_Mod_next_72 rfl ?_
                refine zx_iload C d_Mod_next_73 rfl ?_
                refine zr_di (zr_V C l_Mod_225 d_Mod_next_75 (As := [_]) rfl rfl (Nat.le_of_ble_eq_true rfl) (c_Mod_parted G _ _ _ _ _ S (by exact hm) f (by omega)) 0 rfl rfl ⟨Nat.le_of_ble_eq_true rfl, Nat.le_of_ble_eq_true rfl, Nat.le_of_ble_eq_true rfl, Nat.le_of_ble_eq_true rfl⟩) ?_
                refine zx_istore C d_Mod_next_78 (by decide) (lv1 := [(3, _), (2, _), (0, _), (1, _), (4, _)]) rfl ?_
                exact zx_lv [0, 1, 2, 3, 4] rfl h7
              · refine zx_aload C d_Mod_next_59 rfl ?_
                refine zx_iload C d_Mod_next_60 rfl ?_
                refine zr_di (zr_V C l_Mod_225 d_Mod_next_62 (As := [_]) rfl rfl (Nat.le_of_ble_eq_true rfl) (c_Mod_parted G _ _ _ _ _ S (by exact hm) f (by omega)) 0 rfl rfl ⟨Nat.le_of_ble_eq_true rfl, Nat.le_of_ble_eq_true rfl, Nat.le_of_ble_eq_true rfl, Nat.le_of_ble_eq_true rfl⟩) ?_
                refine zx_iload C d_Mod_next_65 rfl ?_
                refine zx_ic_le C d_Mod_next_66 (fun h66 => ?_) (fun h66 => ?_)
                · have hq := (nI_leI (by omega) (by omega)).mp h66
                  rw [if_neg (fun q => q.2.elim (fun q => h56 (by rw [q]; rfl)) (fun q => by omega))] at h3
                  have h7 := s79 s h3 (fun y hy2 => by have := hy y hy2; omega) hs
                  exact zx_lv [0, 1, 2, 3, 4] rfl h7
                · have hq : ¬ (prt (lwA S)) f ≤ s.2 := fun q => h66 ((nI_leI (by omega) (by omega)).mpr q)
                  rw [if_pos ⟨hB, Or.inr (by omega)⟩] at h3
                  have h7 := s79 (some f, (prt (lwA S)) f) h3 (fun y hy2 => by cases hy2; omega) pf
                  refine zx_iload C d_Mod_next_69 rfl ?_
                  refine zx_istore C d_Mod_next_71 (by decide) (lv1 := [(2, _), (0, _), (1, _), (3, _), (4, _)]) rfl ?_
                  refine zx_aload C d_Mod_next_72 rfl ?_
                  refine zx_iload C d_Mod_next_73 rfl ?_
                  refine zr_di (zr_V C l_Mod_225 d_Mod_next_75 (As := [_]) rfl rfl (Nat.le_of_ble_eq_true rfl) (c_Mod_parted G _ _ _ _ _ S (by exact hm) f (by omega)) 0 rfl rfl ⟨Nat.le_of_ble_eq_true rfl, Nat.le_of_ble_eq_true rfl, Nat.le_of_ble_eq_true rfl, Nat.le_of_ble_eq_true rfl⟩) ?_
                  refine zx_istore C d_Mod_next_78 (by decide) (lv1 := [(3, _), (2, _), (0, _), (1, _), (4, _)]) rfl ?_
                  exact zx_lv [0, 1, 2, 3, 4] rfl h7
      refine zx_ic C d_Mod_next_28 ?_
      refine zx_istore C d_Mod_next_30 (by decide) (lv1 := [(2, _), (0, _), (1, _)]) rfl ?_
      refine zx_ic C d_Mod_next_31 ?_
      refine zx_istore C d_Mod_next_32 (by decide) (lv1 := [(3, _), (2, _), (0, _), (1, _)]) rfl ?_
      refine zx_ic C d_Mod_next_33 ?_
      refine zx_istore C d_Mod_next_34 (by decide) (lv1 := [(4, _), (3, _), (2, _), (0, _), (1, _)]) rfl ?_
      exact zx_lv [0, 1, 2, 3, 4] rfl (lp 64 0 (none, 0) (by omega) (fun y hy => by cases hy) (by decide) hN0)
    · rw [if_pos ((mrp_0 hm).mp h16)] at ev0
      have ev := ev0
      have hm2 := hm
      refine zx_ic C d_Mod_next_19 ?_
      exact zx_iret C hq d_Mod_next_21 (by rw [ev]; exact mpost_i rfl hm2)
  · have ev : ap_next S what = -2 := if_pos (nand_or h6)
    have hm2 := hm
    refine zx_ic C d_Mod_next_9 ?_
    exact zx_iret C hq d_Mod_next_11 (by rw [ev]; exact mpost_i rfl hm2)
