set_option maxHeartbeats 4000000 in
set_option maxRecDepth 20000 in
theorem c_Mod_against (G : ZG) (o : Nat) (ad : Nat → Nat) (F : Nat → Int32) (R : Nat → Nat → Int32) (X : va_W) (S : ZA) (hm : mrp S F R) (k : Nat) (hk : k < 4) (l i n : Int32) : ZM G y_Mod_against b_Mod_against 5 (some .int) r_Mod_against [.ref o, .int (nI k), .int l, .int i, .int n] (mw G o ad F R ++ X) (zdi (ag (aln S k) (asz S k) l i n) (mw G o ad F R ++ X)) := by
  refine ZM.of "SameTuesdayModel" "against" rfl rfl (by decide) (Nat.le_of_ble_eq_true rfl) (fun Y C hq => ?_)
  change ZV G Y 0 0 0 [(0, .ref o), (1, .int (nI k)), (2, .int l), (3, .int i), (4, .int n)] [] (mw G o ad F R ++ X)
  obtain ⟨e2, e3, e4⟩ := hm.2.2.2.1 k hk
  have hln := (hm.1.1 k hk).1
  refine zx_aload C d_Mod_against_0 rfl ?_
  refine zm_g C f_Mod_9_12 d_Mod_against_1 rfl ?_
  refine zx_iload C d_Mod_against_4 rfl ?_
  refine zm_ld2 C d_Mod_against_5 k rfl (by omega) ?_
  refine zx_ic C d_Mod_against_6 ?_
  refine zx_ic_eq C d_Mod_against_8 (fun h8 => ?_) (fun h8 => ?_)
  · have e1 : aln S k = -1 := (mlane_9 hln).mp (e2.symm.trans h8)
    refine zx_aload C d_Mod_against_23 rfl ?_
    refine zm_g C f_Mod_9_12 d_Mod_against_24 rfl ?_
    refine zx_iload C d_Mod_against_27 rfl ?_
    refine zm_ld2 C d_Mod_against_28 k rfl (by omega) ?_
    refine zx_ic C d_Mod_against_29 ?_
    refine zx_ic_ne C d_Mod_against_31 (fun h31 => ?_) (fun h31 => ?_)
    · have hn1 : ¬ aln S k = -1 := fun z => h31 (e2.trans ((mlane_9 hln).mpr z))
      have e3 := e3 hn1
      have hl2 : aln S k = l := by first | exact hl | exact absurd e1 hn1
      have ev0 : ag (aln S k) (asz S k) l i n = _ := if_neg (fun z => z.2 hl2)
      rw [if_neg hn1] at ev0
      refine zx_iload C d_Mod_against_36 rfl ?_
      refine zx_if_ge C d_Mod_against_38 (fun h38 => ?_) (fun h38 => ?_)
      · rw [if_neg (Int32.not_lt.mpr h38)] at ev0
        refine zx_iload C d_Mod_against_43 rfl ?_
        refine zx_if_lt C d_Mod_against_44 (fun h44 => ?_) (fun h44 => ?_)
        · have ev : (3 : Int32) = ag (aln S k) (asz S k) l i n := by rw [ev0, if_pos (Or.inl h44)]
          refine zx_ic C d_Mod_against_70 ?_
          refine zx_goto C d_Mod_against_71 ?_
          exact zx_iret C hq d_Mod_against_75 (⟨by rw [ev], rfl⟩)
        · refine zx_iload C d_Mod_against_47 rfl ?_
          refine zx_aload C d_Mod_against_48 rfl ?_
          refine zm_g C f_Mod_13_12 d_Mod_against_49 rfl ?_
          refine zx_iload C d_Mod_against_52 rfl ?_
          refine zm_ld3 C d_Mod_against_53 k rfl (by omega) ?_
          refine zx_ic_gt C d_Mod_against_54 (fun h54 => ?_) (fun h54 => ?_)
          · have ev : (3 : Int32) = ag (aln S k) (asz S k) l i n := by rw [ev0, if_pos (Or.inr (Or.inl (e3 ▸ h54)))]
            refine zx_ic C d_Mod_against_70 ?_
            refine zx_goto C d_Mod_against_71 ?_
            exact zx_iret C hq d_Mod_against_75 (⟨by rw [ev], rfl⟩)
          · refine zx_iload C d_Mod_against_57 rfl ?_
            refine zx_aload C d_Mod_against_59 rfl ?_
            refine zm_g C f_Mod_13_12 d_Mod_against_60 rfl ?_
            refine zx_iload C d_Mod_against_63 rfl ?_
            refine zm_ld3 C d_Mod_against_64 k rfl (by omega) ?_
            refine zx_iload C d_Mod_against_65 rfl ?_
            refine zx_isub C d_Mod_against_66 ?_
            refine zx_ic_le C d_Mod_against_67 (fun h67 => ?_) (fun h67 => ?_)
            · have ev : (0 : Int32) = ag (aln S k) (asz S k) l i n := by rw [ev0, if_neg (fun z => z.elim h44 (fun z => z.elim (fun z => h54 (by rw [e3]; exact z)) (fun z => absurd h67 (Int32.not_le.mpr (by rw [e3]; exact z)))))]
              refine zx_ic C d_Mod_against_74 ?_
              exact zx_iret C hq d_Mod_against_75 (⟨by rw [ev], rfl⟩)
            · have ev : (3 : Int32) = ag (aln S k) (asz S k) l i n := by rw [ev0, if_pos (Or.inr (Or.inr (by rw [← e3]; exact Int32.not_le.mp h67)))]
              refine zx_ic C d_Mod_against_70 ?_
              refine zx_goto C d_Mod_against_71 ?_
              exact zx_iret C hq d_Mod_against_75 (⟨by rw [ev], rfl⟩)
      · have ev : (4 : Int32) = ag (aln S k) (asz S k) l i n := by rw [ev0, if_pos (Int32.not_le.mp h38)]
        refine zx_ic C d_Mod_against_41 ?_
        exact zx_iret C hq d_Mod_against_42 (⟨by rw [ev], rfl⟩)
    · have e1 : aln S k = -1 := (mlane_9 hln).mp (e2.symm.trans h31)
      have ev : (1 : Int32) = ag (aln S k) (asz S k) l i n := by rw [ag, if_neg (fun z => z.1 e1), if_pos e1]
      refine zx_ic C d_Mod_against_34 ?_
      exact zx_iret C hq d_Mod_against_35 (⟨by rw [ev], rfl⟩)
  · have hn1 : ¬ aln S k = -1 := fun z => h8 (e2.trans ((mlane_9 hln).mpr z))
    have e2n : R 2 k = aln S k := e2.trans (mlane_n hn1)
    refine zx_aload C d_Mod_against_11 rfl ?_
    refine zm_g C f_Mod_9_12 d_Mod_against_12 rfl ?_
    refine zx_iload C d_Mod_against_15 rfl ?_
    refine zm_ld2 C d_Mod_against_16 k rfl (by omega) ?_
    refine zx_iload C d_Mod_against_17 rfl ?_
    refine zx_ic_eq C d_Mod_against_18 (fun h18 => ?_) (fun h18 => ?_)
    · have hl : aln S k = l := e2n.symm.trans h18
      refine zx_aload C d_Mod_against_23 rfl ?_
      refine zm_g C f_Mod_9_12 d_Mod_against_24 rfl ?_
      refine zx_iload C d_Mod_against_27 rfl ?_
      refine zm_ld2 C d_Mod_against_28 k rfl (by omega) ?_
      refine zx_ic C d_Mod_against_29 ?_
      refine zx_ic_ne C d_Mod_against_31 (fun h31 => ?_) (fun h31 => ?_)
      · have hn1 : ¬ aln S k = -1 := fun z => h31 (e2.trans ((mlane_9 hln).mpr z))
        have e3 := e3 hn1
        have hl2 : aln S k = l := by first | exact hl | exact absurd e1 hn1
        have ev0 : ag (aln S k) (asz S k) l i n = _ := if_neg (fun z => z.2 hl2)
        rw [if_neg hn1] at ev0
        refine zx_iload C d_Mod_against_36 rfl ?_
        refine zx_if_ge C d_Mod_against_38 (fun h38 => ?_) (fun h38 => ?_)
        · rw [if_neg (Int32.not_lt.mpr h38)] at ev0
          refine zx_iload C d_Mod_against_43 rfl ?_
          refine zx_if_lt C d_Mod_against_44 (fun h44 => ?_) (fun h44 => ?_)
          · have ev : (3 : Int32) = ag (aln S k) (asz S k) l i n := by rw [ev0, if_pos (Or.inl h44)]
            refine zx_ic C d_Mod_against_70 ?_
            refine zx_goto C d_Mod_against_71 ?_
            exact zx_iret C hq d_Mod_against_75 (⟨by rw [ev], rfl⟩)
          · refine zx_iload C d_Mod_against_47 rfl ?_
            refine zx_aload C d_Mod_against_48 rfl ?_
            refine zm_g C f_Mod_13_12 d_Mod_against_49 rfl ?_
            refine zx_iload C d_Mod_against_52 rfl ?_
            refine zm_ld3 C d_Mod_against_53 k rfl (by omega) ?_
            refine zx_ic_gt C d_Mod_against_54 (fun h54 => ?_) (fun h54 => ?_)
            · have ev : (3 : Int32) = ag (aln S k) (asz S k) l i n := by rw [ev0, if_pos (Or.inr (Or.inl (e3 ▸ h54)))]
              refine zx_ic C d_Mod_against_70 ?_
              refine zx_goto C d_Mod_against_71 ?_
              exact zx_iret C hq d_Mod_against_75 (⟨by rw [ev], rfl⟩)
            · refine zx_iload C d_Mod_against_57 rfl ?_
              refine zx_aload C d_Mod_against_59 rfl ?_
              refine zm_g C f_Mod_13_12 d_Mod_against_60 rfl ?_
              refine zx_iload C d_Mod_against_63 rfl ?_
              refine zm_ld3 C d_Mod_against_64 k rfl (by omega) ?_
              refine zx_iload C d_Mod_against_65 rfl ?_
              refine zx_isub C d_Mod_against_66 ?_
              refine zx_ic_le C d_Mod_against_67 (fun h67 => ?_) (fun h67 => ?_)
              · have ev : (0 : Int32) = ag (aln S k) (asz S k) l i n := by rw [ev0, if_neg (fun z => z.elim h44 (fun z => z.elim (fun z => h54 (by rw [e3]; exact z)) (fun z => absurd h67 (Int32.not_le.mpr (by rw [e3]; exact z)))))]
                refine zx_ic C d_Mod_against_74 ?_
                exact zx_iret C hq d_Mod_against_75 (⟨by rw [ev], rfl⟩)
              · have ev : (3 : Int32) = ag (aln S k) (asz S k) l i n := by rw [ev0, if_pos (Or.inr (Or.inr (by rw [← e3]; exact Int32.not_le.mp h67)))]
                refine zx_ic C d_Mod_against_70 ?_
                refine zx_goto C d_Mod_against_71 ?_
                exact zx_iret C hq d_Mod_against_75 (⟨by rw [ev], rfl⟩)
        · have ev : (4 : Int32) = ag (aln S k) (asz S k) l i n := by rw [ev0, if_pos (Int32.not_le.mp h38)]
          refine zx_ic C d_Mod_against_41 ?_
          exact zx_iret C hq d_Mod_against_42 (⟨by rw [ev], rfl⟩)
      · have e1 : aln S k = -1 := (mlane_9 hln).mp (e2.symm.trans h31)
        have ev : (1 : Int32) = ag (aln S k) (asz S k) l i n := by rw [ag, if_neg (fun z => z.1 e1), if_pos e1]
        refine zx_ic C d_Mod_against_34 ?_
        exact zx_iret C hq d_Mod_against_35 (⟨by rw [ev], rfl⟩)
    · have ev : (2 : Int32) = ag (aln S k) (asz S k) l i n := (if_pos ⟨hn1, fun z => h18 (e2n.trans z)⟩).symm
      refine zx_ic C d_Mod_against_21 ?_
      exact zx_iret C hq d_Mod_against_22 (⟨by rw [ev], rfl⟩)
set_option maxHeartbeats 4000000 in
set_option maxRecDepth 20000 in
theorem c_Mod_layRow (G : ZG) (o : Nat) (ad : Nat → Nat) (F : Nat → Int32) (R : Nat → Nat → Int32) (X : va_W) (S : ZA) (hm : mrp S F R) (k nn : Nat) (hk : k < 4) (hn : nn ≤ 20) (l i : Int32) : ZM G y_Mod_layRow b_Mod_layRow 8 (some .int) r_Mod_layRow [.ref o, .int (nI k), .int l, .int i, .int (nI nn)] (mw G o ad F R ++ X) (zpi (fun r w => r = (lrow S k l i nn).1 ∧ ∃ (F1 : Nat → Int32) (R1 : Nat → Nat → Int32), w = mw G o ad F1 R1 ++ X ∧ mrp (sf S (lrow S k l i nn).2) F1 R1 ∧ (r = 0 → prow (aT S) (rowP S k i.toNatClampNeg nn) F1 R1))) := by
  refine ZM.of "SameTuesdayModel" "layRow" rfl rfl (by decide) (Nat.le_of_ble_eq_true rfl) (fun Y C hq => ?_)
  change ZV G Y 0 0 0 [(0, .ref o), (1, .int (nI k)), (2, .int l), (3, .int i), (4, .int (nI nn))] [] (mw G o ad F R ++ X)
  obtain ⟨e2, e3, e4⟩ := hm.2.2.2.1 k hk
  have hsz := (hm.1.1 k hk).2.1
  have ht := mrp_tok hm
  have hD5 : (aT S).2.1 ≤ 5 := ht.2.1
  have e2n : (2 : Int32) * nI nn = nI (2 * nn) := by rw [show (2 : Int32) = nI 2 from rfl, pk_mul]
  refine zx_aload C d_Mod_layRow_0 rfl ?_
  refine zx_iload C d_Mod_layRow_1 rfl ?_
  refine zx_iload C d_Mod_layRow_2 rfl ?_
  refine zx_iload C d_Mod_layRow_3 rfl ?_
  refine zx_ic C d_Mod_layRow_4 ?_
  refine zx_iload C d_Mod_layRow_5 rfl ?_
  refine zx_imul C d_Mod_layRow_7 ?_
  rw [e2n]
  refine zr_di (zr_V C l_Mod_103 d_Mod_layRow_8 (As := [_, _, _, _]) rfl rfl (Nat.le_of_ble_eq_true rfl) (c_Mod_against G _ _ _ _ _ S (by exact hm) k hk l i _) 0 rfl rfl ⟨Nat.le_of_ble_eq_true rfl, Nat.le_of_ble_eq_true rfl, Nat.le_of_ble_eq_true rfl, Nat.le_of_ble_eq_true rfl⟩) ?_
  refine zx_istore C d_Mod_layRow_11 (by decide) (lv1 := [(5, _), (0, _), (1, _), (2, _), (3, _), (4, _)]) rfl ?_
  refine zx_iload C d_Mod_layRow_13 rfl ?_
  refine zx_if_eq C d_Mod_layRow_15 (fun h15 => ?_) (fun h15 => ?_)
  · obtain ⟨hn1, hl1, ii, rfl, hii⟩ := ag_fine hsz (by omega) h15
    rw [h15]
    refine zx_aload C d_Mod_layRow_25 rfl ?_
    refine zm_g C f_Mod_87_12 d_Mod_layRow_26 rfl ?_
    refine zx_if_ne C d_Mod_layRow_29 (fun h29 => ?_) (fun h29 => ?_)
    · have ev0 : lrow S k l (nI ii) nn = (pchk S k ii nn 0, aft S) := by rw [lrow, if_neg (fun z => z h15), if_neg (fun z => h29 ((mrp_0 hm).mpr z)), nI_cl (by omega)]
      have hsf : sf S (aft S) = S := rfl
      have loop : ∀ n p r22 r23, p + n = nn → pchk S k ii n p = pchk S k ii nn 0 → (∀ q, q < p → r22 q = nI ((rowP S k ii nn).2.1 q) ∧ (rowP S k ii nn).2.1 q ≤ 59 ∧ r23 q = nI ((rowP S k ii nn).2.2 q) ∧ (rowP S k ii nn).2.2 q < (aT S).2.1) → ZV G Y 0 0 46 [(0, .ref o), (1, .int (nI k)), (2, .int l), (3, .int (nI ii)), (4, .int (nI nn)), (5, .int 0), (6, .int (nI (60 * k + ii))), (7, .int (nI p))] [] (mw G o ad F (ur (ur R 22 r22) 23 r23) ++ X) := by
        intro n
        induction n with
        | zero =>
          intro p r22 r23 hpn hck hrw
          refine zx_iload C d_Mod_layRow_46 rfl ?_
          refine zx_iload C d_Mod_layRow_48 rfl ?_
          refine zx_ic_ge C d_Mod_layRow_50 (fun h50 => ?_) (fun h50 => ?_)
          · refine zx_aload C d_Mod_layRow_146 rfl ?_
            refine zx_iload C d_Mod_layRow_147 rfl ?_
            refine zm_p C p_Mod_149_12 d_Mod_layRow_149 zb_fit_i (Nat.le_of_ble_eq_true rfl) zms_21 ?_
            refine zx_ic C d_Mod_layRow_152 ?_
            exact zx_iret C hq d_Mod_layRow_153 (⟨0, rfl, by rw [ev0, ← hck]; rfl, upd F 21 (nI nn), _, rfl, by rw [ev0, hsf]; exact hm, fun _ => by rw [nI_cl (by omega)]; exact ⟨hn, rfl, fun q hq => hrw q (by have : q < nn := hq; omega)⟩⟩)
          · exact absurd (by rw [show p = nn by omega]; exact Int32.le_refl _) h50
        | succ n ih =>
          intro p r22 r23 hpn hck hrw
          have c1 : ur (ur R 22 r22) 23 r23 4 (60 * k + (ii + 2 * p)) = ace S k (ii + 2 * p) := e4 _ (by omega)
          have c2 : ur (ur R 22 r22) 23 r23 4 (60 * k + (ii + 2 * p + 1)) = ace S k (ii + 2 * p + 1) := e4 _ (by omega)
          rw [pchk] at hck
          refine zx_iload C d_Mod_layRow_46 rfl ?_
          refine zx_iload C d_Mod_layRow_48 rfl ?_
          refine zx_ic_ge C d_Mod_layRow_50 (fun h50 => ?_) (fun h50 => ?_)
          · exact absurd h50 (nI_ge (by omega) (by omega))
          · refine zx_aload C d_Mod_layRow_53 rfl ?_
            refine zm_g C f_Mod_16_12 d_Mod_layRow_54 rfl ?_
            refine zx_iload C d_Mod_layRow_57 rfl ?_
            refine zx_ic C d_Mod_layRow_59 ?_
            refine zx_iload C d_Mod_layRow_60 rfl ?_
            refine zx_imul C d_Mod_layRow_62 ?_
            refine zx_iadd C d_Mod_layRow_63 ?_
            refine zm_ld4 C d_Mod_layRow_64 (60 * k + (ii + 2 * p)) (by rw [show (2 : Int32) = nI 2 from rfl, pk_mul, nI_add]; congr 1; omega) (by omega) ?_
            rw [c1]
            refine zx_ic C d_Mod_layRow_65 ?_
            refine zx_ic C d_Mod_layRow_66 ?_
            refine zr_di (zr_S C l_Mod_83 d_Mod_layRow_68 (As := [_, _, _]) rfl rfl (Nat.le_of_ble_eq_true rfl) (c_Mod_within G _ _ _ _) ⟨Nat.le_of_ble_eq_true rfl, Nat.le_of_ble_eq_true rfl, Nat.le_of_ble_eq_true rfl, Nat.le_of_ble_eq_true rfl⟩) ?_
            refine zx_ifB_ne C d_Mod_layRow_71 (fun h71 => ?_) (fun h71 => ?_)
            · rw [if_neg (nor_of h71)] at hck
              refine zx_aload C d_Mod_layRow_77 rfl ?_
              refine zx_aload C d_Mod_layRow_78 rfl ?_
              refine zm_g C f_Mod_16_12 d_Mod_layRow_79 rfl ?_
              refine zx_iload C d_Mod_layRow_82 rfl ?_
              refine zx_ic C d_Mod_layRow_84 ?_
              refine zx_iload C d_Mod_layRow_85 rfl ?_
              refine zx_imul C d_Mod_layRow_87 ?_
              refine zx_iadd C d_Mod_layRow_88 ?_
              refine zx_ic C d_Mod_layRow_89 ?_
              refine zx_iadd C d_Mod_layRow_90 ?_
              refine zm_ld4 C d_Mod_layRow_91 (60 * k + (ii + 2 * p + 1)) (by rw [show (2 : Int32) = nI 2 from rfl, show (1 : Int32) = nI 1 from rfl, pk_mul, nI_add, nI_add]; congr 1; omega) (by omega) ?_
              rw [c2]
              refine zr_di (zr_V C l_Mod_143 d_Mod_layRow_92 (As := [_]) rfl rfl (Nat.le_of_ble_eq_true rfl) (c_Mod_isDeed G _ _ _ _ _ _) 0 rfl rfl ⟨Nat.le_of_ble_eq_true rfl, Nat.le_of_ble_eq_true rfl, Nat.le_of_ble_eq_true rfl, Nat.le_of_ble_eq_true rfl⟩) ?_
              refine zx_ifB_ne C d_Mod_layRow_95 (fun h95 => ?_) (fun h95 => ?_)
              · rw [mrp_e6 hm] at h95
                rw [if_neg (nor_of h95)] at hck
                obtain ⟨a, ha, ea⟩ := ix_le (n := 59) (by decide) h71.1 h71.2
                obtain ⟨b, hb, eb⟩ := ix_of (by omega) h95.1 h95.2
                have ea2 : (rowP S k ii nn).2.1 p = a := by show (ace S k (ii + 2 * p)).toNatClampNeg = a; rw [ea, nI_cl (by omega)]
                have eb2 : (rowP S k ii nn).2.2 p = b := by show (ace S k (ii + 2 * p + 1)).toNatClampNeg = b; rw [eb, nI_cl (by omega)]
                refine zx_aload C d_Mod_layRow_100 rfl ?_
                refine zm_g C f_Mod_49_12 d_Mod_layRow_101 rfl ?_
                refine zx_iload C d_Mod_layRow_104 rfl ?_
                refine zx_aload C d_Mod_layRow_106 rfl ?_
                refine zm_g C f_Mod_16_12 d_Mod_layRow_107 rfl ?_
                refine zx_iload C d_Mod_layRow_110 rfl ?_
                refine zx_ic C d_Mod_layRow_112 ?_
                refine zx_iload C d_Mod_layRow_113 rfl ?_
                refine zx_imul C d_Mod_layRow_115 ?_
                refine zx_iadd C d_Mod_layRow_116 ?_
                refine zm_ld4 C d_Mod_layRow_117 (60 * k + (ii + 2 * p)) (by rw [show (2 : Int32) = nI 2 from rfl, pk_mul, nI_add]; congr 1; omega) (by omega) ?_
                rw [c1]
                refine zm_st22 C d_Mod_layRow_118 p rfl (by omega) ?_
                refine zx_aload C d_Mod_layRow_119 rfl ?_
                refine zm_g C f_Mod_52_12 d_Mod_layRow_120 rfl ?_
                refine zx_iload C d_Mod_layRow_123 rfl ?_
                refine zx_aload C d_Mod_layRow_125 rfl ?_
                refine zm_g C f_Mod_16_12 d_Mod_layRow_126 rfl ?_
                refine zx_iload C d_Mod_layRow_129 rfl ?_
                refine zx_ic C d_Mod_layRow_131 ?_
                refine zx_iload C d_Mod_layRow_132 rfl ?_
                refine zx_imul C d_Mod_layRow_134 ?_
                refine zx_iadd C d_Mod_layRow_135 ?_
                refine zx_ic C d_Mod_layRow_136 ?_
                refine zx_iadd C d_Mod_layRow_137 ?_
                refine zm_ld4 C d_Mod_layRow_138 (60 * k + (ii + 2 * p + 1)) (by rw [show (2 : Int32) = nI 2 from rfl, show (1 : Int32) = nI 1 from rfl, pk_mul, nI_add, nI_add]; congr 1; omega) (by omega) ?_
                rw [show ur (ur (ur R 22 r22) 23 r23) 22 (upd (ur (ur R 22 r22) 23 r23 22) p (ace S k (ii + 2 * p))) 4 (60 * k + (ii + 2 * p + 1)) = ace S k (ii + 2 * p + 1) from c2]
                refine zm_st23 C d_Mod_layRow_139 p rfl (by omega) ?_
                refine zx_iinc C d_Mod_layRow_140 (by decide) rfl (lv1 := [(7, _), (0, _), (1, _), (2, _), (3, _), (4, _), (5, _), (6, _)]) rfl ?_
                refine zx_goto C d_Mod_layRow_143 ?_
                have k1 := ih (p + 1) (upd r22 p (ace S k (ii + 2 * p))) (upd r23 p (ace S k (ii + 2 * p + 1))) (by omega) hck (fun q hq => by
                  by_cases e : q = p
                  · subst e; rw [upd_eq, upd_eq, ea2, eb2]; exact ⟨ea, ha, eb, hb⟩
                  · rw [upd_ne _ _ e, upd_ne _ _ e]; exact hrw q (by omega))
                rw [nI_succ p] at k1
                refine zx_eq rfl rfl ?_ (zx_lv [0, 1, 2, 3, 4, 5, 6, 7] rfl k1)
                congr 2
                funext z
                by_cases e1 : z = 23
                · subst e1; rfl
                · by_cases e2 : z = 22
                  · subst e2; rfl
                  · simp only [ur, if_neg e1, if_neg e2]
              · rw [mrp_e6 hm] at h95
                rw [if_pos (nand_or h95)] at hck
                have ev : (lrow S k l (nI ii) nn).1 = -1 := by rw [ev0]; exact hck.symm
                refine zx_ic C d_Mod_layRow_98 ?_
                exact zx_iret C hq d_Mod_layRow_99 (⟨_, rfl, ev.symm, _, _, rfl, by rw [ev0, hsf]; exact hm, fun z => absurd z (by decide)⟩)
            · rw [if_pos (nand_or h71)] at hck
              have ev : (lrow S k l (nI ii) nn).1 = -2 := by rw [ev0]; exact hck.symm
              refine zx_ic C d_Mod_layRow_74 ?_
              exact zx_iret C hq d_Mod_layRow_76 (⟨_, rfl, ev.symm, _, _, rfl, by rw [ev0, hsf]; exact hm, fun z => absurd z (by decide)⟩)
      refine zx_ic C d_Mod_layRow_35 ?_
      refine zx_iload C d_Mod_layRow_37 rfl ?_
      refine zx_imul C d_Mod_layRow_38 ?_
      refine zx_iload C d_Mod_layRow_39 rfl ?_
      refine zx_iadd C d_Mod_layRow_40 ?_
      refine zx_eq rfl (st1 := [.int (nI (60 * k + ii))]) (by rw [show (60 : Int32) = nI 60 from rfl, pk_mul, nI_add]) rfl ?_
      refine zx_istore C d_Mod_layRow_41 (by decide) (lv1 := [(6, _), (5, _), (0, _), (1, _), (2, _), (3, _), (4, _)]) rfl ?_
      refine zx_ic C d_Mod_layRow_43 ?_
      refine zx_istore C d_Mod_layRow_44 (by decide) (lv1 := [(7, _), (6, _), (5, _), (0, _), (1, _), (2, _), (3, _), (4, _)]) rfl ?_
      have k1 := loop nn 0 (R 22) (R 23) (by omega) rfl (fun q hq => absurd hq (by omega))
      rw [ur_self, show ur R 23 (R 23) = R from ur_self R 23] at k1
      exact zx_lv [0, 1, 2, 3, 4, 5, 6, 7] rfl k1
    · have ev : lrow S k l (nI ii) nn = (-3, aft S) := by rw [lrow, if_neg (fun z => z h15), if_pos ((mrp_0 hm).mp h29)]
      refine zx_ic C d_Mod_layRow_32 ?_
      exact zx_iret C hq d_Mod_layRow_34 (⟨_, rfl, by rw [ev], F, R, rfl, by rw [ev]; exact hm, fun z => absurd z (by decide)⟩)
  · have ev : lrow S k l i nn = (-10 - ag (aln S k) (asz S k) l i (nI (2 * nn)), ag (aln S k) (asz S k) l i (nI (2 * nn))) := if_pos h15
    refine zx_aload C d_Mod_layRow_18 rfl ?_
    refine zx_iload C d_Mod_layRow_19 rfl ?_
    refine zr_di (zr_V C l_Mod_107 d_Mod_layRow_21 (As := [_]) rfl rfl (Nat.le_of_ble_eq_true rfl) (c_Mod_fails G _ _ _ _ _ _) 0 rfl rfl ⟨Nat.le_of_ble_eq_true rfl, Nat.le_of_ble_eq_true rfl, Nat.le_of_ble_eq_true rfl, Nat.le_of_ble_eq_true rfl⟩) ?_
    exact zx_iret C hq d_Mod_layRow_24 (⟨_, rfl, by rw [ev], _, _, rfl, by rw [ev]; exact mrp_f hm _, fun z => absurd z (by rcases ag_ne9 (ln := aln S k) (sz := asz S k) (l := l) (i := i) (n := nI (2 * nn)) with e | e | e | e | e <;> rw [e] <;> first | decide | exact absurd e h15)⟩)
set_option maxHeartbeats 4000000 in
set_option maxRecDepth 20000 in
theorem c_Mod_ends (G : ZG) (o : Nat) (ad : Nat → Nat) (F : Nat → Int32) (R : Nat → Nat → Int32) (X : va_W) (T : ZT) (hr : mrep T F R) (P : ZP) (hp : prow T P F R) (oth : Option (Nat × Nat)) (ho1 : F 25 = bzv (oth.map (fun q => q.2))) (ho2 : ∀ q, oth = some q → F 26 = nI q.1 ∧ q.1 < 60 ∧ q.2 < T.2.1) (wo : Nat) (hw : wo < 64) : ZM G y_Mod_ends b_Mod_ends 2 (some .int) r_Mod_ends [.ref o, .int (nI wo)] (mw G o ad F R ++ X) (zdi (nI (run T P wo (oeF T P wo oth) T.2.2.1).1) (mw G o ad (upd F 27 (gbg T P wo oth T.2.2.1)) (ur R 24 (wrow P.1 (run T P wo (oeF T P wo oth) T.2.2.1).2.2.2 (R 24))) ++ X)) := by
  refine ZM.of "SameTuesdayModel" "ends" rfl rfl (by decide) (Nat.le_of_ble_eq_true rfl) (fun Y C hq => ?_)
  change ZV G Y 0 0 0 [(0, .ref o), (1, .int (nI wo))] [] (mw G o ad F R ++ X)
  have hmin : min T.2.2.1 (60 + 1) = T.2.2.1 := by have := hr.1.2.2.1; omega
  refine zx_aload C d_Mod_ends_0 rfl ?_
  refine zx_ic C d_Mod_ends_1 ?_
  refine zx_iload C d_Mod_ends_3 rfl ?_
  refine zr_di (zr_V C l_Mod_172 d_Mod_ends_4 (As := [_, _]) rfl rfl (Nat.le_of_ble_eq_true rfl) (c_Mod_goTo G _ _ _ _ _ T (by exact hr) P (by exact hp) oth (by exact ho1) (by exact ho2) 60 wo (by decide) hw) 0 rfl rfl ⟨Nat.le_of_ble_eq_true rfl, Nat.le_of_ble_eq_true rfl, Nat.le_of_ble_eq_true rfl, Nat.le_of_ble_eq_true rfl⟩) ?_
  rw [hmin]
  exact zx_iret C hq d_Mod_ends_7 (⟨rfl, rfl⟩)
