set_option maxHeartbeats 600000 in
set_option maxRecDepth 20000 in
theorem c_Mod_done (G : ZG) (o : Nat) (ad : Nat → Nat) (F : Nat → Int32) (R : Nat → Nat → Int32) (X : va_W) (T : ZT) (hr : mrep T F R) (f d : Nat) (hf : f < 64) (hd : d < T.2.1) : ZM G y_Mod_done b_Mod_done 4 (some .int) r_Mod_done [.ref o, .int (nI f), .int (nI d)] (mw G o ad F R ++ X) (zdi (nI (den T d f)) (mw G o ad F R ++ X)) := by
  refine ZM.of "SameTuesdayModel" "done" rfl rfl (by decide) (Nat.le_of_ble_eq_true rfl) (fun Y C hq => ?_)
  change ZV G Y 0 0 0 [(0, .ref o), (1, .int (nI f)), (2, .int (nI d))] [] (mw G o ad F R ++ X)
  have ht := hr.1
  obtain ⟨e12, e13, e14, e15⟩ := hr.2.2.2.2.2 d hd
  have hq6 : T.2.1 ≤ 5 := ht.2.1
  have b6 := (ht.2.2.2.2 d hd)
  refine zx_iload C d_Mod_done_0 rfl ?_
  refine zx_ic C d_Mod_done_1 ?_
  refine zx_aload C d_Mod_done_2 rfl ?_
  refine zm_g C f_Mod_34_12 d_Mod_done_3 rfl ?_
  refine zx_iload C d_Mod_done_6 rfl ?_
  refine zm_ld13 C d_Mod_done_7 d rfl (by omega) ?_
  refine zx_ishl C d_Mod_done_8 ?_
  refine zx_ior C d_Mod_done_9 ?_
  refine zx_istore C d_Mod_done_10 (by decide) (lv1 := [(3, _), (0, _), (1, _), (2, _)]) rfl ?_
  refine zx_aload C d_Mod_done_11 rfl ?_
  refine zm_g C f_Mod_37_12 d_Mod_done_12 rfl ?_
  refine zx_iload C d_Mod_done_15 rfl ?_
  refine zm_ld14 C d_Mod_done_16 d rfl (by omega) ?_
  refine zx_ic C d_Mod_done_17 ?_
  refine zx_ic_ne C d_Mod_done_19 (fun h19 => ?_) (fun h19 => ?_)
  · have ev := done_n ht hd hf (fun z => h19 (e14.trans ((nI_e6 (by omega)).mpr z)))
    rw [← e13, ← e14] at ev
    refine zx_iload C d_Mod_done_26 rfl ?_
    refine zx_ic C d_Mod_done_27 ?_
    refine zx_aload C d_Mod_done_28 rfl ?_
    refine zm_g C f_Mod_37_12 d_Mod_done_29 rfl ?_
    refine zx_iload C d_Mod_done_32 rfl ?_
    refine zm_ld14 C d_Mod_done_33 d rfl (by omega) ?_
    refine zx_ishl C d_Mod_done_34 ?_
    refine zx_ic C d_Mod_done_35 ?_
    refine zx_ixor C d_Mod_done_36 ?_
    refine zx_iand C d_Mod_done_37 ?_
    exact zx_iret C hq d_Mod_done_38 (⟨by rw [ev], rfl⟩)
  · have ev := done_6 ht hd hf ((nI_e6 (by omega)).mp (e14 ▸ h19))
    rw [← e13] at ev
    refine zx_iload C d_Mod_done_22 rfl ?_
    refine zx_goto C d_Mod_done_23 ?_
    exact zx_iret C hq d_Mod_done_38 (⟨by rw [ev], rfl⟩)
set_option maxHeartbeats 600000 in
set_option maxRecDepth 20000 in
theorem c_Mod_mayBegin (G : ZG) (o : Nat) (ad : Nat → Nat) (F : Nat → Int32) (R : Nat → Nat → Int32) (X : va_W) (T : ZT) (hr : mrep T F R) (f d m : Nat) (hf : f < 64) (hd : d < T.2.1) (hm : m < 60) : ZM G y_Mod_mayBegin b_Mod_mayBegin 4 (some .boolean) r_Mod_mayBegin [.ref o, .int (nI f), .int (nI d), .int (nI m)] (mw G o ad F R ++ X) (zdi (zB (may T d m f = true)) (mw G o ad F R ++ X)) := by
  refine ZM.of "SameTuesdayModel" "mayBegin" rfl rfl (by decide) (Nat.le_of_ble_eq_true rfl) (fun Y C hq => ?_)
  change ZV G Y 0 0 0 [(0, .ref o), (1, .int (nI f)), (2, .int (nI d)), (3, .int (nI m))] [] (mw G o ad F R ++ X)
  have ht := hr.1
  obtain ⟨e12, e13, e14, e15⟩ := hr.2.2.2.2.2 d hd
  have hq6 : T.2.1 ≤ 5 := ht.2.1
  have b6 := ht.2.2.2.2 d hd
  have hM : T.2.2.1 ≤ 60 := ht.2.2.1
  have e7 : F 7 = nI T.2.2.1 := hr.2.2.2.1
  have cm : (R 12 d = 6 ∨ (nI f >>> (R 12 d &&& 31)) &&& 1 = 1) ↔ fmet (tq T 4 d) f = true := by rw [e12]; exact q_metI b6.1 hf
  have cl : (F 7 ≤ nI m + R 15 d) ↔ ¬ (m + tq T 7 d < T.2.2.1) := by rw [e7, e15, nI_add, nI_leI (by omega) (by omega)]; omega
  refine zx_aload C d_Mod_mayBegin_0 rfl ?_
  refine zm_g C f_Mod_31_12 d_Mod_mayBegin_1 rfl ?_
  refine zx_iload C d_Mod_mayBegin_4 rfl ?_
  refine zm_ld12 C d_Mod_mayBegin_5 d rfl (by omega) ?_
  refine zx_iload C d_Mod_mayBegin_6 rfl ?_
  refine zr_di (zr_S C l_Mod_146 d_Mod_mayBegin_7 (As := [_, _]) rfl rfl (Nat.le_of_ble_eq_true rfl) (c_Mod_isMet G _ _ _) ⟨Nat.le_of_ble_eq_true rfl, Nat.le_of_ble_eq_true rfl, Nat.le_of_ble_eq_true rfl, Nat.le_of_ble_eq_true rfl⟩) ?_
  refine zx_ifB_eq C d_Mod_mayBegin_10 (fun h10 => ?_) (fun h10 => ?_)
  · have ev : zB (may T d m f = true) = 0 := zB_f (by rw [may, Bool.and_eq_true]; exact fun z => h10 (cm.mpr z.1))
    refine zx_ic C d_Mod_mayBegin_32 ?_
    exact zx_zret C hq (by decide) d_Mod_mayBegin_33 (⟨by rw [ev], rfl⟩)
  · refine zx_iload C d_Mod_mayBegin_13 rfl ?_
    refine zx_aload C d_Mod_mayBegin_14 rfl ?_
    refine zm_g C f_Mod_40_12 d_Mod_mayBegin_15 rfl ?_
    refine zx_iload C d_Mod_mayBegin_18 rfl ?_
    refine zm_ld15 C d_Mod_mayBegin_19 d rfl (by omega) ?_
    refine zx_iadd C d_Mod_mayBegin_20 ?_
    refine zx_aload C d_Mod_mayBegin_21 rfl ?_
    refine zm_g C f_Mod_120_12 d_Mod_mayBegin_22 rfl ?_
    refine zx_ic_ge C d_Mod_mayBegin_25 (fun h25 => ?_) (fun h25 => ?_)
    · have ev : zB (may T d m f = true) = 0 := zB_f (by rw [may, Bool.and_eq_true, decide_eq_true_iff]; exact fun z => (cl.mp h25) z.2)
      refine zx_ic C d_Mod_mayBegin_32 ?_
      exact zx_zret C hq (by decide) d_Mod_mayBegin_33 (⟨by rw [ev], rfl⟩)
    · have ev : zB (may T d m f = true) = 1 := zB_t (by rw [may, Bool.and_eq_true, decide_eq_true_iff]; exact ⟨cm.mp h10, Classical.byContradiction fun z => h25 (cl.mpr z)⟩)
      refine zx_ic C d_Mod_mayBegin_28 ?_
      refine zx_goto C d_Mod_mayBegin_29 ?_
      exact zx_zret C hq (by decide) d_Mod_mayBegin_33 (⟨by rw [ev], rfl⟩)
set_option maxHeartbeats 600000 in
set_option maxRecDepth 20000 in
theorem c_Mod_happen (G : ZG) (o : Nat) (ad : Nat → Nat) (F : Nat → Int32) (R : Nat → Nat → Int32) (X : va_W) (T : ZT) (hr : mrep T F R) (f m wo : Nat) (hf : f < 64) (hm : m < 60) (hw : wo < 64) : ZM G y_Mod_happen b_Mod_happen 7 (some .int) r_Mod_happen [.ref o, .int (nI f), .int (nI m), .int (nI wo)] (mw G o ad F R ++ X) (zdi (nI (hap T m wo T.1 f)) (mw G o ad F R ++ X)) := by
  refine ZM.of "SameTuesdayModel" "happen" rfl rfl (by decide) (Nat.le_of_ble_eq_true rfl) (fun Y C hq => ?_)
  change ZV G Y 0 0 0 [(0, .ref o), (1, .int (nI f)), (2, .int (nI m)), (3, .int (nI wo))] [] (mw G o ad F R ++ X)
  have ht := hr.1
  have e5 : F 5 = nI T.1 := hr.2.1
  have h6 : T.1 ≤ 6 := ht.1
  have loop : ∀ n h, h + n = T.1 → ZV G Y 0 0 6 [(0, .ref o), (1, .int (nI f)), (2, .int (nI m)), (3, .int (nI wo)), (4, .int (nI (hap T m wo h f))), (5, .int (nI h))] [] (mw G o ad F R ++ X) := by
    intro n
    induction n with
    | zero =>
      intro h hh
      refine zx_iload C d_Mod_happen_6 rfl ?_
      refine zx_aload C d_Mod_happen_8 rfl ?_
      refine zm_g C f_Mod_87_12 d_Mod_happen_9 rfl ?_
      refine zx_ic_ge C d_Mod_happen_12 (fun h12 => ?_) (fun h12 => ?_)
      · refine zx_iload C d_Mod_happen_113 rfl ?_
        exact zx_iret C hq d_Mod_happen_115 (⟨by rw [show h = T.1 by omega], rfl⟩)
      · exact absurd (by rw [e5]; exact nI_le (by omega) (by omega)) h12
    | succ n ih =>
      intro h hh
      have hlt : h < T.1 := by omega
      obtain ⟨e8, e9, e10, e11⟩ := hr.2.2.2.2.1 h hlt
      have b8 := ht.2.2.2.1 h hlt
      have hg : hap T m wo h f < 64 := hap_64 ht (by omega) hf
      have done107 : ∀ v : Int32, v = nI (hap T m wo (h + 1) f) → ZV G Y 0 0 107 [(0, .ref o), (1, .int (nI f)), (2, .int (nI m)), (3, .int (nI wo)), (4, .int (v)), (5, .int (nI h))] [] (mw G o ad F R ++ X) := by
        intro v hv
        refine zx_iinc C d_Mod_happen_107 (by decide) rfl (lv1 := [(5, _), (0, _), (1, _), (2, _), (3, _), (4, _)]) rfl ?_
        refine zx_goto C d_Mod_happen_110 ?_
        have k := ih (h + 1) (by omega)
        rw [← hv, nI_succ h] at k
        exact zx_lv [0, 1, 2, 3, 4, 5] rfl k
      have c23 : R 9 h = nI m ↔ tq T 1 h = m := by rw [e9]; exact nI_eq (by omega) (by omega)
      have c47 : (R 10 h = 6 ∨ (nI (hap T m wo h f) >>> (R 10 h &&& 31)) &&& 1 = 1) ↔ fmet (tq T 2 h) (hap T m wo h f) = true := by rw [e10]; exact q_metI b8.2.2.1 hg
      have c68 : R 8 h = 0 ↔ tq T 0 h = 0 := by rw [e8]; exact nI_e0 (by omega)
      have c87 : R 8 h = 1 ↔ tq T 0 h = 1 := by rw [e8]; exact nI_e1 (by omega)
      refine zx_iload C d_Mod_happen_6 rfl ?_
      refine zx_aload C d_Mod_happen_8 rfl ?_
      refine zm_g C f_Mod_87_12 d_Mod_happen_9 rfl ?_
      refine zx_ic_ge C d_Mod_happen_12 (fun h12 => ?_) (fun h12 => ?_)
      · exact absurd h12 (by rw [e5]; exact nI_ge (by omega) (by omega))
      · refine zx_aload C d_Mod_happen_15 rfl ?_
        refine zm_g C f_Mod_22_12 d_Mod_happen_16 rfl ?_
        refine zx_iload C d_Mod_happen_19 rfl ?_
        refine zm_ld9 C d_Mod_happen_21 h rfl (by omega) ?_
        refine zx_iload C d_Mod_happen_22 rfl ?_
        refine zx_ic_ne C d_Mod_happen_23 (fun h23 => ?_) (fun h23 => ?_)
        · have ev := happ_no (T := T) (m := m) (wo := wo) (h := h) (g := hap T m wo h f) (fun z => h23 (c23.mpr z.1))
          exact zx_lv [0, 1, 2, 3, 4, 5] rfl (done107 _ ev)
        · refine zx_iload C d_Mod_happen_26 rfl ?_
          refine zx_iload C d_Mod_happen_27 rfl ?_
          refine zx_ishr C d_Mod_happen_29 ?_
          refine zx_ic C d_Mod_happen_30 ?_
          refine zx_iand C d_Mod_happen_31 ?_
          refine zx_if_ne C d_Mod_happen_32 (fun h32 => ?_) (fun h32 => ?_)
          · have ev := happ_no (T := T) (m := m) (wo := wo) (h := h) (g := hap T m wo h f) (fun z => h32 ((q_bitI (by omega) hw).mpr z.2.1))
            exact zx_lv [0, 1, 2, 3, 4, 5] rfl (done107 _ ev)
          · refine zx_aload C d_Mod_happen_35 rfl ?_
            refine zm_g C f_Mod_25_12 d_Mod_happen_36 rfl ?_
            refine zx_iload C d_Mod_happen_39 rfl ?_
            refine zm_ld10 C d_Mod_happen_41 h rfl (by omega) ?_
            refine zx_iload C d_Mod_happen_42 rfl ?_
            refine zr_di (zr_S C l_Mod_146 d_Mod_happen_44 (As := [_, _]) rfl rfl (Nat.le_of_ble_eq_true rfl) (c_Mod_isMet G _ _ _) ⟨Nat.le_of_ble_eq_true rfl, Nat.le_of_ble_eq_true rfl, Nat.le_of_ble_eq_true rfl, Nat.le_of_ble_eq_true rfl⟩) ?_
            refine zx_ifB_eq C d_Mod_happen_47 (fun h47 => ?_) (fun h47 => ?_)
            · have ev := happ_no (T := T) (m := m) (wo := wo) (h := h) (g := hap T m wo h f) (fun z => h47 (c47.mpr z.2.2))
              exact zx_lv [0, 1, 2, 3, 4, 5] rfl (done107 _ ev)
            · refine zx_ic C d_Mod_happen_50 ?_
              refine zx_aload C d_Mod_happen_51 rfl ?_
              refine zm_g C f_Mod_28_12 d_Mod_happen_52 rfl ?_
              refine zx_iload C d_Mod_happen_55 rfl ?_
              refine zm_ld11 C d_Mod_happen_57 h rfl (by omega) ?_
              refine zx_ishl C d_Mod_happen_58 ?_
              refine zx_istore C d_Mod_happen_59 (by decide) (lv1 := [(6, _), (0, _), (1, _), (2, _), (3, _), (4, _), (5, _)]) rfl ?_
              refine zx_aload C d_Mod_happen_61 rfl ?_
              refine zm_g C f_Mod_19_12 d_Mod_happen_62 rfl ?_
              refine zx_iload C d_Mod_happen_65 rfl ?_
              refine zm_ld8 C d_Mod_happen_67 h rfl (by omega) ?_
              refine zx_if_ne C d_Mod_happen_68 (fun h68 => ?_) (fun h68 => ?_)
              · refine zx_aload C d_Mod_happen_79 rfl ?_
                refine zm_g C f_Mod_19_12 d_Mod_happen_80 rfl ?_
                refine zx_iload C d_Mod_happen_83 rfl ?_
                refine zm_ld8 C d_Mod_happen_85 h rfl (by omega) ?_
                refine zx_ic C d_Mod_happen_86 ?_
                refine zx_ic_ne C d_Mod_happen_87 (fun h87 => ?_) (fun h87 => ?_)
                · have ev := happ_xor ht hlt hg ⟨c23.mp h23, (q_bitI (by omega) hw).mp h32, c47.mp h47⟩ (fun z => h68 (c68.mpr z)) (fun z => h87 (c87.mpr z))
                  rw [← e11] at ev
                  refine zx_iload C d_Mod_happen_100 rfl ?_
                  refine zx_iload C d_Mod_happen_102 rfl ?_
                  refine zx_ixor C d_Mod_happen_104 ?_
                  refine zx_istore C d_Mod_happen_105 (by decide) (lv1 := [(4, _), (6, _), (0, _), (1, _), (2, _), (3, _), (5, _)]) rfl ?_
                  exact zx_lv [0, 1, 2, 3, 4, 5] rfl (done107 _ ev)
                · have ev := happ_clr ht hlt hg ⟨c23.mp h23, (q_bitI (by omega) hw).mp h32, c47.mp h47⟩ (c87.mp h87)
                  rw [← e11] at ev
                  refine zx_iload C d_Mod_happen_90 rfl ?_
                  refine zx_iload C d_Mod_happen_92 rfl ?_
                  refine zx_ic C d_Mod_happen_94 ?_
                  refine zx_ixor C d_Mod_happen_95 ?_
                  refine zx_iand C d_Mod_happen_96 ?_
                  refine zx_goto C d_Mod_happen_97 ?_
                  refine zx_istore C d_Mod_happen_105 (by decide) (lv1 := [(4, _), (6, _), (0, _), (1, _), (2, _), (3, _), (5, _)]) rfl ?_
                  exact zx_lv [0, 1, 2, 3, 4, 5] rfl (done107 _ ev)
              · have ev := happ_or ht hlt hg ⟨c23.mp h23, (q_bitI (by omega) hw).mp h32, c47.mp h47⟩ (c68.mp h68)
                rw [← e11] at ev
                refine zx_iload C d_Mod_happen_71 rfl ?_
                refine zx_iload C d_Mod_happen_73 rfl ?_
                refine zx_ior C d_Mod_happen_75 ?_
                refine zx_goto C d_Mod_happen_76 ?_
                refine zx_istore C d_Mod_happen_105 (by decide) (lv1 := [(4, _), (6, _), (0, _), (1, _), (2, _), (3, _), (5, _)]) rfl ?_
                exact zx_lv [0, 1, 2, 3, 4, 5] rfl (done107 _ ev)
  refine zx_iload C d_Mod_happen_0 rfl ?_
  refine zx_istore C d_Mod_happen_1 (by decide) (lv1 := [(4, _), (0, _), (1, _), (2, _), (3, _)]) rfl ?_
  refine zx_ic C d_Mod_happen_3 ?_
  refine zx_istore C d_Mod_happen_4 (by decide) (lv1 := [(5, _), (4, _), (0, _), (1, _), (2, _), (3, _)]) rfl ?_
  exact zx_lv [0, 1, 2, 3, 4, 5] rfl (loop T.1 0 (by omega))
