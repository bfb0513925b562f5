def jt0 (x : Int32) : Int32 := (x ^^^ (-1)) &&& (x - 1)
def jstp (c b : Int32) (p : Int32 × Int32) : Int32 × Int32 := if p.2 ≤ c then p else (p.1 + b, iush p.2 b)
def jfin (p : Int32 × Int32) : Int32 := p.1 + iush p.2 1
def jtz (x : Int32) : Int32 := if 0 < jt0 x then jfin (jstp 4 2 (jstp 16 4 (jstp 256 8 (jstp 65536 16 (1, jt0 x))))) else jt0 x &&& 32
theorem jtz_eq : ∀ s, s < 32 → jtz (one s).toInt32 = nI s := by decide +kernel
set_option maxHeartbeats 600000 in
set_option maxRecDepth 20000 in
theorem c_JInt_numberOfTrailingZeros (G : ZG) (w : va_W) (x : Int32) : ZM G y_JInt_numberOfTrailingZeros b_JInt_numberOfTrailingZeros 2 (some .int) r_JInt_numberOfTrailingZeros [.int x] w (zdi (jtz x) w) := by
  refine ZM.of "java/lang/Integer" "numberOfTrailingZeros" rfl rfl (by decide) (Nat.le_of_ble_eq_true rfl) (fun Y C hq => ?_)
  change ZV G Y 0 0 0 [(0, .int x)] [] w
  refine zx_iload C d_JInt_numberOfTrailingZeros_0 rfl ?_
  refine zx_ic C d_JInt_numberOfTrailingZeros_1 ?_
  refine zx_ixor C d_JInt_numberOfTrailingZeros_2 ?_
  refine zx_iload C d_JInt_numberOfTrailingZeros_3 rfl ?_
  refine zx_ic C d_JInt_numberOfTrailingZeros_4 ?_
  refine zx_isub C d_JInt_numberOfTrailingZeros_5 ?_
  refine zx_iand C d_JInt_numberOfTrailingZeros_6 ?_
  refine zx_istore C d_JInt_numberOfTrailingZeros_7 (by decide) (lv1 := [(0, _)]) rfl ?_
  refine zx_iload C d_JInt_numberOfTrailingZeros_8 rfl ?_
  refine zx_if_gt C d_JInt_numberOfTrailingZeros_9 (fun h9 => ?_) (fun h9 => ?_)
  · refine zx_ic C d_JInt_numberOfTrailingZeros_17 ?_
    refine zx_istore C d_JInt_numberOfTrailingZeros_18 (by decide) (lv1 := [(1, _), (0, _)]) rfl ?_
    refine zx_iload C d_JInt_numberOfTrailingZeros_19 rfl ?_
    refine zx_ic C d_JInt_numberOfTrailingZeros_20 ?_
    refine zx_ic_le C d_JInt_numberOfTrailingZeros_23 (fun h23 => ?_) (fun h23 => ?_)
    · have j1 : jstp 65536 16 (1, jt0 x) = _ := if_pos h23
      refine zx_iload C d_JInt_numberOfTrailingZeros_34 rfl ?_
      refine zx_ic C d_JInt_numberOfTrailingZeros_35 ?_
      refine zx_ic_le C d_JInt_numberOfTrailingZeros_38 (fun h38 => ?_) (fun h38 => ?_)
      · have j2 := (congrArg (jstp 256 8) j1).trans (if_pos h38)
        refine zx_iload C d_JInt_numberOfTrailingZeros_49 rfl ?_
        refine zx_ic C d_JInt_numberOfTrailingZeros_50 ?_
        refine zx_ic_le C d_JInt_numberOfTrailingZeros_52 (fun h52 => ?_) (fun h52 => ?_)
        · have j3 := (congrArg (jstp 16 4) j2).trans (if_pos h52)
          refine zx_iload C d_JInt_numberOfTrailingZeros_62 rfl ?_
          refine zx_ic C d_JInt_numberOfTrailingZeros_63 ?_
          refine zx_ic_le C d_JInt_numberOfTrailingZeros_64 (fun h64 => ?_) (fun h64 => ?_)
          · have j4 := (congrArg (jstp 4 2) j3).trans (if_pos h64)
            have ev : jtz x = _ := (if_pos h9).trans (congrArg jfin j4)
            refine zx_iload C d_JInt_numberOfTrailingZeros_74 rfl ?_
            refine zx_iload C d_JInt_numberOfTrailingZeros_75 rfl ?_
            refine zx_ic C d_JInt_numberOfTrailingZeros_76 ?_
            refine zx_iushr C d_JInt_numberOfTrailingZeros_77 ?_
            refine zx_iadd C d_JInt_numberOfTrailingZeros_78 ?_
            exact zx_iret C hq d_JInt_numberOfTrailingZeros_79 (⟨congrArg (fun v => some (Value.int v)) ev.symm, rfl⟩)
          · have j4 := (congrArg (jstp 4 2) j3).trans (if_neg h64)
            have ev : jtz x = _ := (if_pos h9).trans (congrArg jfin j4)
            refine zx_iinc C d_JInt_numberOfTrailingZeros_67 (by decide) rfl (lv1 := [(1, _), (0, _)]) rfl ?_
            refine zx_iload C d_JInt_numberOfTrailingZeros_70 rfl ?_
            refine zx_ic C d_JInt_numberOfTrailingZeros_71 ?_
            refine zx_iushr C d_JInt_numberOfTrailingZeros_72 ?_
            refine zx_istore C d_JInt_numberOfTrailingZeros_73 (by decide) (lv1 := [(0, _), (1, _)]) rfl ?_
            refine zx_iload C d_JInt_numberOfTrailingZeros_74 rfl ?_
            refine zx_iload C d_JInt_numberOfTrailingZeros_75 rfl ?_
            refine zx_ic C d_JInt_numberOfTrailingZeros_76 ?_
            refine zx_iushr C d_JInt_numberOfTrailingZeros_77 ?_
            refine zx_iadd C d_JInt_numberOfTrailingZeros_78 ?_
            exact zx_iret C hq d_JInt_numberOfTrailingZeros_79 (⟨congrArg (fun v => some (Value.int v)) ev.symm, rfl⟩)
        · have j3 := (congrArg (jstp 16 4) j2).trans (if_neg h52)
          refine zx_iinc C d_JInt_numberOfTrailingZeros_55 (by decide) rfl (lv1 := [(1, _), (0, _)]) rfl ?_
          refine zx_iload C d_JInt_numberOfTrailingZeros_58 rfl ?_
          refine zx_ic C d_JInt_numberOfTrailingZeros_59 ?_
          refine zx_iushr C d_JInt_numberOfTrailingZeros_60 ?_
          refine zx_istore C d_JInt_numberOfTrailingZeros_61 (by decide) (lv1 := [(0, _), (1, _)]) rfl ?_
          refine zx_iload C d_JInt_numberOfTrailingZeros_62 rfl ?_
          refine zx_ic C d_JInt_numberOfTrailingZeros_63 ?_
          refine zx_ic_le C d_JInt_numberOfTrailingZeros_64 (fun h64 => ?_) (fun h64 => ?_)
          · have j4 := (congrArg (jstp 4 2) j3).trans (if_pos h64)
            have ev : jtz x = _ := (if_pos h9).trans (congrArg jfin j4)
            refine zx_iload C d_JInt_numberOfTrailingZeros_74 rfl ?_
            refine zx_iload C d_JInt_numberOfTrailingZeros_75 rfl ?_
            refine zx_ic C d_JInt_numberOfTrailingZeros_76 ?_
            refine zx_iushr C d_JInt_numberOfTrailingZeros_77 ?_
            refine zx_iadd C d_JInt_numberOfTrailingZeros_78 ?_
            exact zx_iret C hq d_JInt_numberOfTrailingZeros_79 (⟨congrArg (fun v => some (Value.int v)) ev.symm, rfl⟩)
          · have j4 := (congrArg (jstp 4 2) j3).trans (if_neg h64)
            have ev : jtz x = _ := (if_pos h9).trans (congrArg jfin j4)
            refine zx_iinc C d_JInt_numberOfTrailingZeros_67 (by decide) rfl (lv1 := [(1, _), (0, _)]) rfl ?_
            refine zx_iload C d_JInt_numberOfTrailingZeros_70 rfl ?_
            refine zx_ic C d_JInt_numberOfTrailingZeros_71 ?_
            refine zx_iushr C d_JInt_numberOfTrailingZeros_72 ?_
            refine zx_istore C d_JInt_numberOfTrailingZeros_73 (by decide) (lv1 := [(0, _), (1, _)]) rfl ?_
            refine zx_iload C d_JInt_numberOfTrailingZeros_74 rfl ?_
            refine zx_iload C d_JInt_numberOfTrailingZeros_75 rfl ?_
            refine zx_ic C d_JInt_numberOfTrailingZeros_76 ?_
            refine zx_iushr C d_JInt_numberOfTrailingZeros_77 ?_
            refine zx_iadd C d_JInt_numberOfTrailingZeros_78 ?_
            exact zx_iret C hq d_JInt_numberOfTrailingZeros_79 (⟨congrArg (fun v => some (Value.int v)) ev.symm, rfl⟩)
      · have j2 := (congrArg (jstp 256 8) j1).trans (if_neg h38)
        refine zx_iinc C d_JInt_numberOfTrailingZeros_41 (by decide) rfl (lv1 := [(1, _), (0, _)]) rfl ?_
        refine zx_iload C d_JInt_numberOfTrailingZeros_44 rfl ?_
        refine zx_ic C d_JInt_numberOfTrailingZeros_45 ?_
        refine zx_iushr C d_JInt_numberOfTrailingZeros_47 ?_
        refine zx_istore C d_JInt_numberOfTrailingZeros_48 (by decide) (lv1 := [(0, _), (1, _)]) rfl ?_
        refine zx_iload C d_JInt_numberOfTrailingZeros_49 rfl ?_
        refine zx_ic C d_JInt_numberOfTrailingZeros_50 ?_
        refine zx_ic_le C d_JInt_numberOfTrailingZeros_52 (fun h52 => ?_) (fun h52 => ?_)
        · have j3 := (congrArg (jstp 16 4) j2).trans (if_pos h52)
          refine zx_iload C d_JInt_numberOfTrailingZeros_62 rfl ?_
          refine zx_ic C d_JInt_numberOfTrailingZeros_63 ?_
          refine zx_ic_le C d_JInt_numberOfTrailingZeros_64 (fun h64 => ?_) (fun h64 => ?_)
          · have j4 := (congrArg (jstp 4 2) j3).trans (if_pos h64)
            have ev : jtz x = _ := (if_pos h9).trans (congrArg jfin j4)
            refine zx_iload C d_JInt_numberOfTrailingZeros_74 rfl ?_
            refine zx_iload C d_JInt_numberOfTrailingZeros_75 rfl ?_
            refine zx_ic C d_JInt_numberOfTrailingZeros_76 ?_
            refine zx_iushr C d_JInt_numberOfTrailingZeros_77 ?_
            refine zx_iadd C d_JInt_numberOfTrailingZeros_78 ?_
            exact zx_iret C hq d_JInt_numberOfTrailingZeros_79 (⟨congrArg (fun v => some (Value.int v)) ev.symm, rfl⟩)
          · have j4 := (congrArg (jstp 4 2) j3).trans (if_neg h64)
            have ev : jtz x = _ := (if_pos h9).trans (congrArg jfin j4)
            refine zx_iinc C d_JInt_numberOfTrailingZeros_67 (by decide) rfl (lv1 := [(1, _), (0, _)]) rfl ?_
            refine zx_iload C d_JInt_numberOfTrailingZeros_70 rfl ?_
            refine zx_ic C d_JInt_numberOfTrailingZeros_71 ?_
            refine zx_iushr C d_JInt_numberOfTrailingZeros_72 ?_
            refine zx_istore C d_JInt_numberOfTrailingZeros_73 (by decide) (lv1 := [(0, _), (1, _)]) rfl ?_
            refine zx_iload C d_JInt_numberOfTrailingZeros_74 rfl ?_
            refine zx_iload C d_JInt_numberOfTrailingZeros_75 rfl ?_
            refine zx_ic C d_JInt_numberOfTrailingZeros_76 ?_
            refine zx_iushr C d_JInt_numberOfTrailingZeros_77 ?_
            refine zx_iadd C d_JInt_numberOfTrailingZeros_78 ?_
            exact zx_iret C hq d_JInt_numberOfTrailingZeros_79 (⟨congrArg (fun v => some (Value.int v)) ev.symm, rfl⟩)
        · have j3 := (congrArg (jstp 16 4) j2).trans (if_neg h52)
          refine zx_iinc C d_JInt_numberOfTrailingZeros_55 (by decide) rfl (lv1 := [(1, _), (0, _)]) rfl ?_
          refine zx_iload C d_JInt_numberOfTrailingZeros_58 rfl ?_
          refine zx_ic C d_JInt_numberOfTrailingZeros_59 ?_
          refine zx_iushr C d_JInt_numberOfTrailingZeros_60 ?_
          refine zx_istore C d_JInt_numberOfTrailingZeros_61 (by decide) (lv1 := [(0, _), (1, _)]) rfl ?_
          refine zx_iload C d_JInt_numberOfTrailingZeros_62 rfl ?_
          refine zx_ic C d_JInt_numberOfTrailingZeros_63 ?_
          refine zx_ic_le C d_JInt_numberOfTrailingZeros_64 (fun h64 => ?_) (fun h64 => ?_)
          · have j4 := (congrArg (jstp 4 2) j3).trans (if_pos h64)
            have ev : jtz x = _ := (if_pos h9).trans (congrArg jfin j4)
            refine zx_iload C d_JInt_numberOfTrailingZeros_74 rfl ?_
            refine zx_iload C d_JInt_numberOfTrailingZeros_75 rfl ?_
            refine zx_ic C d_JInt_numberOfTrailingZeros_76 ?_
            refine zx_iushr C d_JInt_numberOfTrailingZeros_77 ?_
            refine zx_iadd C d_JInt_numberOfTrailingZeros_78 ?_
            exact zx_iret C hq d_JInt_numberOfTrailingZeros_79 (⟨congrArg (fun v => some (Value.int v)) ev.symm, rfl⟩)
          · have j4 := (congrArg (jstp 4 2) j3).trans (if_neg h64)
            have ev : jtz x = _ := (if_pos h9).trans (congrArg jfin j4)
            refine zx_iinc C d_JInt_numberOfTrailingZeros_67 (by decide) rfl (lv1 := [(1, _), (0, _)]) rfl ?_
            refine zx_iload C d_JInt_numberOfTrailingZeros_70 rfl ?_
            refine zx_ic C d_JInt_numberOfTrailingZeros_71 ?_
            refine zx_iushr C d_JInt_numberOfTrailingZeros_72 ?_
            refine zx_istore C d_JInt_numberOfTrailingZeros_73 (by decide) (lv1 := [(0, _), (1, _)]) rfl ?_
            refine zx_iload C d_JInt_numberOfTrailingZeros_74 rfl ?_
            refine zx_iload C d_JInt_numberOfTrailingZeros_75 rfl ?_
            refine zx_ic C d_JInt_numberOfTrailingZeros_76 ?_
            refine zx_iushr C d_JInt_numberOfTrailingZeros_77 ?_
            refine zx_iadd C d_JInt_numberOfTrailingZeros_78 ?_
            exact zx_iret C hq d_JInt_numberOfTrailingZeros_79 (⟨congrArg (fun v => some (Value.int v)) ev.symm, rfl⟩)
    · have j1 : jstp 65536 16 (1, jt0 x) = _ := if_neg h23
      refine zx_iinc C d_JInt_numberOfTrailingZeros_26 (by decide) rfl (lv1 := [(1, _), (0, _)]) rfl ?_
      refine zx_iload C d_JInt_numberOfTrailingZeros_29 rfl ?_
      refine zx_ic C d_JInt_numberOfTrailingZeros_30 ?_
      refine zx_iushr C d_JInt_numberOfTrailingZeros_32 ?_
      refine zx_istore C d_JInt_numberOfTrailingZeros_33 (by decide) (lv1 := [(0, _), (1, _)]) rfl ?_
      refine zx_iload C d_JInt_numberOfTrailingZeros_34 rfl ?_
      refine zx_ic C d_JInt_numberOfTrailingZeros_35 ?_
      refine zx_ic_le C d_JInt_numberOfTrailingZeros_38 (fun h38 => ?_) (fun h38 => ?_)
      · have j2 := (congrArg (jstp 256 8) j1).trans (if_pos h38)
        refine zx_iload C d_JInt_numberOfTrailingZeros_49 rfl ?_
        refine zx_ic C d_JInt_numberOfTrailingZeros_50 ?_
        refine zx_ic_le C d_JInt_numberOfTrailingZeros_52 (fun h52 => ?_) (fun h52 => ?_)
        · have j3 := (congrArg (jstp 16 4) j2).trans (if_pos h52)
          refine zx_iload C d_JInt_numberOfTrailingZeros_62 rfl ?_
          refine zx_ic C d_JInt_numberOfTrailingZeros_63 ?_
          refine zx_ic_le C d_JInt_numberOfTrailingZeros_64 (fun h64 => ?_) (fun h64 => ?_)
          · have j4 := (congrArg (jstp 4 2) j3).trans (if_pos h64)
            have ev : jtz x = _ := (if_pos h9).trans (congrArg jfin j4)
            refine zx_iload C d_JInt_numberOfTrailingZeros_74 rfl ?_
            refine zx_iload C d_JInt_numberOfTrailingZeros_75 rfl ?_
            refine zx_ic C d_JInt_numberOfTrailingZeros_76 ?_
            refine zx_iushr C d_JInt_numberOfTrailingZeros_77 ?_
            refine zx_iadd C d_JInt_numberOfTrailingZeros_78 ?_
            exact zx_iret C hq d_JInt_numberOfTrailingZeros_79 (⟨congrArg (fun v => some (Value.int v)) ev.symm, rfl⟩)
          · have j4 := (congrArg (jstp 4 2) j3).trans (if_neg h64)
            have ev : jtz x = _ := (if_pos h9).trans (congrArg jfin j4)
            refine zx_iinc C d_JInt_numberOfTrailingZeros_67 (by decide) rfl (lv1 := [(1, _), (0, _)]) rfl ?_
            refine zx_iload C d_JInt_numberOfTrailingZeros_70 rfl ?_
            refine zx_ic C d_JInt_numberOfTrailingZeros_71 ?_
            refine zx_iushr C d_JInt_numberOfTrailingZeros_72 ?_
            refine zx_istore C d_JInt_numberOfTrailingZeros_73 (by decide) (lv1 := [(0, _), (1, _)]) rfl ?_
            refine zx_iload C d_JInt_numberOfTrailingZeros_74 rfl ?_
            refine zx_iload C d_JInt_numberOfTrailingZeros_75 rfl ?_
            refine zx_ic C d_JInt_numberOfTrailingZeros_76 ?_
            refine zx_iushr C d_JInt_numberOfTrailingZeros_77 ?_
            refine zx_iadd C d_JInt_numberOfTrailingZeros_78 ?_
            exact zx_iret C hq d_JInt_numberOfTrailingZeros_79 (⟨congrArg (fun v => some (Value.int v)) ev.symm, rfl⟩)
        · have j3 := (congrArg (jstp 16 4) j2).trans (if_neg h52)
          refine zx_iinc C d_JInt_numberOfTrailingZeros_55 (by decide) rfl (lv1 := [(1, _), (0, _)]) rfl ?_
          refine zx_iload C d_JInt_numberOfTrailingZeros_58 rfl ?_
          refine zx_ic C d_JInt_numberOfTrailingZeros_59 ?_
          refine zx_iushr C d_JInt_numberOfTrailingZeros_60 ?_
          refine zx_istore C d_JInt_numberOfTrailingZeros_61 (by decide) (lv1 := [(0, _), (1, _)]) rfl ?_
          refine zx_iload C d_JInt_numberOfTrailingZeros_62 rfl ?_
          refine zx_ic C d_JInt_numberOfTrailingZeros_63 ?_
          refine zx_ic_le C d_JInt_numberOfTrailingZeros_64 (fun h64 => ?_) (fun h64 => ?_)
          · have j4 := (congrArg (jstp 4 2) j3).trans (if_pos h64)
            have ev : jtz x = _ := (if_pos h9).trans (congrArg jfin j4)
            refine zx_iload C d_JInt_numberOfTrailingZeros_74 rfl ?_
            refine zx_iload C d_JInt_numberOfTrailingZeros_75 rfl ?_
            refine zx_ic C d_JInt_numberOfTrailingZeros_76 ?_
            refine zx_iushr C d_JInt_numberOfTrailingZeros_77 ?_
            refine zx_iadd C d_JInt_numberOfTrailingZeros_78 ?_
            exact zx_iret C hq d_JInt_numberOfTrailingZeros_79 (⟨congrArg (fun v => some (Value.int v)) ev.symm, rfl⟩)
          · have j4 := (congrArg (jstp 4 2) j3).trans (if_neg h64)
            have ev : jtz x = _ := (if_pos h9).trans (congrArg jfin j4)
            refine zx_iinc C d_JInt_numberOfTrailingZeros_67 (by decide) rfl (lv1 := [(1, _), (0, _)]) rfl ?_
            refine zx_iload C d_JInt_numberOfTrailingZeros_70 rfl ?_
            refine zx_ic C d_JInt_numberOfTrailingZeros_71 ?_
            refine zx_iushr C d_JInt_numberOfTrailingZeros_72 ?_
            refine zx_istore C d_JInt_numberOfTrailingZeros_73 (by decide) (lv1 := [(0, _), (1, _)]) rfl ?_
            refine zx_iload C d_JInt_numberOfTrailingZeros_74 rfl ?_
            refine zx_iload C d_JInt_numberOfTrailingZeros_75 rfl ?_
            refine zx_ic C d_JInt_numberOfTrailingZeros_76 ?_
            refine zx_iushr C d_JInt_numberOfTrailingZeros_77 ?_
            refine zx_iadd C d_JInt_numberOfTrailingZeros_78 ?_
            exact zx_iret C hq d_JInt_numberOfTrailingZeros_79 (⟨congrArg (fun v => some (Value.int v)) ev.symm, rfl⟩)
      · have j2 := (congrArg (jstp 256 8) j1).trans (if_neg h38)
        refine zx_iinc C d_JInt_numberOfTrailingZeros_41 (by decide) rfl (lv1 := [(1, _), (0, _)]) rfl ?_
        refine zx_iload C d_JInt_numberOfTrailingZeros_44 rfl ?_
        refine zx_ic C d_JInt_numberOfTrailingZeros_45 ?_
        refine zx_iushr C d_JInt_numberOfTrailingZeros_47 ?_
        refine zx_istore C d_JInt_numberOfTrailingZeros_48 (by decide) (lv1 := [(0, _), (1, _)]) rfl ?_
        refine zx_iload C d_JInt_numberOfTrailingZeros_49 rfl ?_
        refine zx_ic C d_JInt_numberOfTrailingZeros_50 ?_
        refine zx_ic_le C d_JInt_numberOfTrailingZeros_52 (fun h52 => ?_) (fun h52 => ?_)
        · have j3 := (congrArg (jstp 16 4) j2).trans (if_pos h52)
          refine zx_iload C d_JInt_numberOfTrailingZeros_62 rfl ?_
          refine zx_ic C d_JInt_numberOfTrailingZeros_63 ?_
          refine zx_ic_le C d_JInt_numberOfTrailingZeros_64 (fun h64 => ?_) (fun h64 => ?_)
          · have j4 := (congrArg (jstp 4 2) j3).trans (if_pos h64)
            have ev : jtz x = _ := (if_pos h9).trans (congrArg jfin j4)
            refine zx_iload C d_JInt_numberOfTrailingZeros_74 rfl ?_
            refine zx_iload C d_JInt_numberOfTrailingZeros_75 rfl ?_
            refine zx_ic C d_JInt_numberOfTrailingZeros_76 ?_
            refine zx_iushr C d_JInt_numberOfTrailingZeros_77 ?_
            refine zx_iadd C d_JInt_numberOfTrailingZeros_78 ?_
            exact zx_iret C hq d_JInt_numberOfTrailingZeros_79 (⟨congrArg (fun v => some (Value.int v)) ev.symm, rfl⟩)
          · have j4 := (congrArg (jstp 4 2) j3).trans (if_neg h64)
            have ev : jtz x = _ := (if_pos h9).trans (congrArg jfin j4)
            refine zx_iinc C d_JInt_numberOfTrailingZeros_67 (by decide) rfl (lv1 := [(1, _), (0, _)]) rfl ?_
            refine zx_iload C d_JInt_numberOfTrailingZeros_70 rfl ?_
            refine zx_ic C d_JInt_numberOfTrailingZeros_71 ?_
            refine zx_iushr C d_JInt_numberOfTrailingZeros_72 ?_
            refine zx_istore C d_JInt_numberOfTrailingZeros_73 (by decide) (lv1 := [(0, _), (1, _)]) rfl ?_
            refine zx_iload C d_JInt_numberOfTrailingZeros_74 rfl ?_
            refine zx_iload C d_JInt_numberOfTrailingZeros_75 rfl ?_
            refine zx_ic C d_JInt_numberOfTrailingZeros_76 ?_
            refine zx_iushr C d_JInt_numberOfTrailingZeros_77 ?_
            refine zx_iadd C d_JInt_numberOfTrailingZeros_78 ?_
            exact zx_iret C hq d_JInt_numberOfTrailingZeros_79 (⟨congrArg (fun v => some (Value.int v)) ev.symm, rfl⟩)
        · have j3 := (congrArg (jstp 16 4) j2).trans (if_neg h52)
          refine zx_iinc C d_JInt_numberOfTrailingZeros_55 (by decide) rfl (lv1 := [(1, _), (0, _)]) rfl ?_
          refine zx_iload C d_JInt_numberOfTrailingZeros_58 rfl ?_
          refine zx_ic C d_JInt_numberOfTrailingZeros_59 ?_
          refine zx_iushr C d_JInt_numberOfTrailingZeros_60 ?_
          refine zx_istore C d_JInt_numberOfTrailingZeros_61 (by decide) (lv1 := [(0, _), (1, _)]) rfl ?_
          refine zx_iload C d_JInt_numberOfTrailingZeros_62 rfl ?_
          refine zx_ic C d_JInt_numberOfTrailingZeros_63 ?_
          refine zx_ic_le C d_JInt_numberOfTrailingZeros_64 (fun h64 => ?_) (fun h64 => ?_)
          · have j4 := (congrArg (jstp 4 2) j3).trans (if_pos h64)
            have ev : jtz x = _ := (if_pos h9).trans (congrArg jfin j4)
            refine zx_iload C d_JInt_numberOfTrailingZeros_74 rfl ?_
            refine zx_iload C d_JInt_numberOfTrailingZeros_75 rfl ?_
            refine zx_ic C d_JInt_numberOfTrailingZeros_76 ?_
            refine zx_iushr C d_JInt_numberOfTrailingZeros_77 ?_
            refine zx_iadd C d_JInt_numberOfTrailingZeros_78 ?_
            exact zx_iret C hq d_JInt_numberOfTrailingZeros_79 (⟨congrArg (fun v => some (Value.int v)) ev.symm, rfl⟩)
          · have j4 := (congrArg (jstp 4 2) j3).trans (if_neg h64)
            have ev : jtz x = _ := (if_pos h9).trans (congrArg jfin j4)
            refine zx_iinc C d_JInt_numberOfTrailingZeros_67 (by decide) rfl (lv1 := [(1, _), (0, _)]) rfl ?_
            refine zx_iload C d_JInt_numberOfTrailingZeros_70 rfl ?_
            refine zx_ic C d_JInt_numberOfTrailingZeros_71 ?_
            refine zx_iushr C d_JInt_numberOfTrailingZeros_72 ?_
            refine zx_istore C d_JInt_numberOfTrailingZeros_73 (by decide) (lv1 := [(0, _), (1, _)]) rfl ?_
            refine zx_iload C d_JInt_numberOfTrailingZeros_74 rfl ?_
            refine zx_iload C d_JInt_numberOfTrailingZeros_75 rfl ?_
            refine zx_ic C d_JInt_numberOfTrailingZeros_76 ?_
            refine zx_iushr C d_JInt_numberOfTrailingZeros_77 ?_
            refine zx_iadd C d_JInt_numberOfTrailingZeros_78 ?_
            exact zx_iret C hq d_JInt_numberOfTrailingZeros_79 (⟨congrArg (fun v => some (Value.int v)) ev.symm, rfl⟩)
  · have ev : jtz x = jt0 x &&& 32 := if_neg h9
    refine zx_iload C d_JInt_numberOfTrailingZeros_12 rfl ?_
    refine zx_ic C d_JInt_numberOfTrailingZeros_13 ?_
    refine zx_iand C d_JInt_numberOfTrailingZeros_15 ?_
    exact zx_iret C hq d_JInt_numberOfTrailingZeros_16 (⟨congrArg (fun v => some (Value.int v)) ev.symm, rfl⟩)
theorem o_lo : ∀ s, s < 32 → ¬ (one s).toInt32 = 0 := by decide +kernel
theorem o_hi : ∀ s, s < 32 → (one (32 + s)).toInt32 = 0 ∧ ((one (32 + s)).toUInt64 >>> ((32 : Int32).toInt64.toUInt64 &&& Int64.toUInt64 63)).toInt64.toInt32 = (one s).toInt32 ∧ (32 : Int32) + nI s = nI (32 + s) := by decide +kernel
set_option maxHeartbeats 600000 in
set_option maxRecDepth 20000 in
theorem c_JLong_numberOfTrailingZeros (G : ZG) (w : va_W) (s : Nat) (hs : s < 64) : ZM G y_JLong_numberOfTrailingZeros b_JLong_numberOfTrailingZeros 3 (some .int) r_JLong_numberOfTrailingZeros [.long (one s)] w (zdi (nI s) w) := by
  refine ZM.of "java/lang/Long" "numberOfTrailingZeros" rfl rfl (by decide) (Nat.le_of_ble_eq_true rfl) (fun Y C hq => ?_)
  change ZV G Y 0 0 0 [(0, .long (one s))] [] w
  refine zx_lload C d_JLong_numberOfTrailingZeros_0 rfl ?_
  refine zx_l2i C d_JLong_numberOfTrailingZeros_1 ?_
  refine zx_istore C d_JLong_numberOfTrailingZeros_2 (by decide) (lv1 := [(2, _), (0, _)]) rfl ?_
  refine zx_iload C d_JLong_numberOfTrailingZeros_3 rfl ?_
  refine zx_if_ne C d_JLong_numberOfTrailingZeros_4 (fun h4 => ?_) (fun h4 => ?_)
  · have hl : s < 32 := Classical.byContradiction fun z => h4 (by have := (o_hi (s - 32) (by omega)).1; rw [show 32 + (s - 32) = s by omega] at this; exact this)
    refine zx_iload C d_JLong_numberOfTrailingZeros_21 rfl ?_
    refine zr_di (zr_S C l_JLong_311 d_JLong_numberOfTrailingZeros_22 (As := [_]) rfl rfl (Nat.le_of_ble_eq_true rfl) (c_JInt_numberOfTrailingZeros G _ _) ⟨Nat.le_of_ble_eq_true rfl, Nat.le_of_ble_eq_true rfl, Nat.le_of_ble_eq_true rfl, Nat.le_of_ble_eq_true rfl⟩) ?_
    exact zx_iret C hq d_JLong_numberOfTrailingZeros_25 (by first | exact ⟨congrArg (fun v => some (Value.int v)) (by rw [jtz_eq r hr]; exact (o_hi r hr).2.2), rfl⟩ | exact ⟨congrArg (fun v => some (Value.int v)) (jtz_eq s hl), rfl⟩)
  · obtain ⟨r, hr, rfl⟩ : ∃ r, r < 32 ∧ s = 32 + r := ⟨s - 32, by omega, by have : ¬ s < 32 := fun z => o_lo s z (by first | exact h4 | exact Classical.byContradiction h4); omega⟩
    refine zx_ic C d_JLong_numberOfTrailingZeros_7 ?_
    refine zx_lload C d_JLong_numberOfTrailingZeros_9 rfl ?_
    refine zx_ic C d_JLong_numberOfTrailingZeros_10 ?_
    refine zx_lushr C d_JLong_numberOfTrailingZeros_12 ?_
    refine zx_l2i C d_JLong_numberOfTrailingZeros_13 ?_
    rw [(o_hi r hr).2.1]
    refine zr_di (zr_S C l_JLong_311 d_JLong_numberOfTrailingZeros_14 (As := [_]) rfl rfl (Nat.le_of_ble_eq_true rfl) (c_JInt_numberOfTrailingZeros G _ _) ⟨Nat.le_of_ble_eq_true rfl, Nat.le_of_ble_eq_true rfl, Nat.le_of_ble_eq_true rfl, Nat.le_of_ble_eq_true rfl⟩) ?_
    refine zx_iadd C d_JLong_numberOfTrailingZeros_17 ?_
    refine zx_goto C d_JLong_numberOfTrailingZeros_18 ?_
    exact zx_iret C hq d_JLong_numberOfTrailingZeros_25 (by first | exact ⟨congrArg (fun v => some (Value.int v)) (by rw [jtz_eq r hr]; exact (o_hi r hr).2.2), rfl⟩ | exact ⟨congrArg (fun v => some (Value.int v)) (jtz_eq s hl), rfl⟩)
