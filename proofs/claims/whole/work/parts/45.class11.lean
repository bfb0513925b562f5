set_option maxHeartbeats 600000 in
set_option maxRecDepth 20000 in
theorem c_JLong_bitCount (G : ZG) (w : va_W) (x : Int64) : ZM G y_JLong_bitCount b_JLong_bitCount 2 (some .int) r_JLong_bitCount [.long x] w (zdi (nI (cntN (fun s => bt x s) 64)) w) := by
  refine ZM.of "java/lang/Long" "bitCount" rfl rfl (by decide) (Nat.le_of_ble_eq_true rfl) (fun Y C hq => ?_)
  change ZV G Y 0 0 0 [(0, .long x)] [] w
  refine zx_lload C d_JLong_bitCount_0 rfl ?_
  refine zx_lload C d_JLong_bitCount_1 rfl ?_
  refine zx_ic C d_JLong_bitCount_2 ?_
  refine zx_lushr C d_JLong_bitCount_3 ?_
  refine zx_lc C d_JLong_bitCount_4 ?_
  refine zx_land C d_JLong_bitCount_7 ?_
  refine zx_lsub C d_JLong_bitCount_8 ?_
  refine zx_lstore C d_JLong_bitCount_9 (by decide) (lv1 := [(0, _)]) rfl ?_
  refine zx_lload C d_JLong_bitCount_10 rfl ?_
  refine zx_lc C d_JLong_bitCount_11 ?_
  refine zx_land C d_JLong_bitCount_14 ?_
  refine zx_lload C d_JLong_bitCount_15 rfl ?_
  refine zx_ic C d_JLong_bitCount_16 ?_
  refine zx_lushr C d_JLong_bitCount_17 ?_
  refine zx_lc C d_JLong_bitCount_18 ?_
  refine zx_land C d_JLong_bitCount_21 ?_
  refine zx_ladd C d_JLong_bitCount_22 ?_
  refine zx_lstore C d_JLong_bitCount_23 (by decide) (lv1 := [(0, _)]) rfl ?_
  refine zx_lload C d_JLong_bitCount_24 rfl ?_
  refine zx_lload C d_JLong_bitCount_25 rfl ?_
  refine zx_ic C d_JLong_bitCount_26 ?_
  refine zx_lushr C d_JLong_bitCount_27 ?_
  refine zx_ladd C d_JLong_bitCount_28 ?_
  refine zx_lc C d_JLong_bitCount_29 ?_
  refine zx_land C d_JLong_bitCount_32 ?_
  refine zx_lstore C d_JLong_bitCount_33 (by decide) (lv1 := [(0, _)]) rfl ?_
  refine zx_lload C d_JLong_bitCount_34 rfl ?_
  refine zx_lload C d_JLong_bitCount_35 rfl ?_
  refine zx_ic C d_JLong_bitCount_36 ?_
  refine zx_lushr C d_JLong_bitCount_38 ?_
  refine zx_ladd C d_JLong_bitCount_39 ?_
  refine zx_lstore C d_JLong_bitCount_40 (by decide) (lv1 := [(0, _)]) rfl ?_
  refine zx_lload C d_JLong_bitCount_41 rfl ?_
  refine zx_lload C d_JLong_bitCount_42 rfl ?_
  refine zx_ic C d_JLong_bitCount_43 ?_
  refine zx_lushr C d_JLong_bitCount_45 ?_
  refine zx_ladd C d_JLong_bitCount_46 ?_
  refine zx_lstore C d_JLong_bitCount_47 (by decide) (lv1 := [(0, _)]) rfl ?_
  refine zx_lload C d_JLong_bitCount_48 rfl ?_
  refine zx_lload C d_JLong_bitCount_49 rfl ?_
  refine zx_ic C d_JLong_bitCount_50 ?_
  refine zx_lushr C d_JLong_bitCount_52 ?_
  refine zx_ladd C d_JLong_bitCount_53 ?_
  refine zx_lstore C d_JLong_bitCount_54 (by decide) (lv1 := [(0, _)]) rfl ?_
  refine zx_lload C d_JLong_bitCount_55 rfl ?_
  refine zx_l2i C d_JLong_bitCount_56 ?_
  refine zx_ic C d_JLong_bitCount_57 ?_
  refine zx_iand C d_JLong_bitCount_59 ?_
  exact zx_iret C hq d_JLong_bitCount_60 (⟨congrArg (fun v => some (Value.int v)) (lbc_eq x _ _ _ _ _ _ rfl rfl rfl rfl rfl rfl), rfl⟩)
def iush (x k : Int32) : Int32 := (x.toUInt32 >>> (k.toUInt32 &&& Int32.toUInt32 31)).toInt32
def ib1 (x : Int32) : Int32 := x - (iush x 1 &&& 1431655765)
def ib2 (x : Int32) : Int32 := (x &&& 858993459) + (iush x 2 &&& 858993459)
def ib3 (x : Int32) : Int32 := (x + iush x 4) &&& 252645135
def ib4 (x : Int32) : Int32 := x + iush x 8
def ib5 (x : Int32) : Int32 := x + iush x 16
theorem IBC : ∀ n, n < 64 → ib5 (ib4 (ib3 (ib2 (ib1 (nI n))))) &&& 63 = nI (popc 6 n) := by decide +kernel
set_option maxHeartbeats 600000 in
set_option maxRecDepth 20000 in
theorem c_JInt_bitCount (G : ZG) (w : va_W) (n : Nat) (hn : n < 64) : ZM G y_JInt_bitCount b_JInt_bitCount 1 (some .int) r_JInt_bitCount [.int (nI n)] w (zdi (nI (popc 6 n)) w) := by
  refine ZM.of "java/lang/Integer" "bitCount" rfl rfl (by decide) (Nat.le_of_ble_eq_true rfl) (fun Y C hq => ?_)
  change ZV G Y 0 0 0 [(0, .int (nI n))] [] w
  refine zx_iload C d_JInt_bitCount_0 rfl ?_
  refine zx_iload C d_JInt_bitCount_1 rfl ?_
  refine zx_ic C d_JInt_bitCount_2 ?_
  refine zx_iushr C d_JInt_bitCount_3 ?_
  refine zx_ic C d_JInt_bitCount_4 ?_
  refine zx_iand C d_JInt_bitCount_7 ?_
  refine zx_isub C d_JInt_bitCount_8 ?_
  refine zx_istore C d_JInt_bitCount_9 (by decide) (lv1 := [(0, _)]) rfl ?_
  refine zx_iload C d_JInt_bitCount_10 rfl ?_
  refine zx_ic C d_JInt_bitCount_11 ?_
  refine zx_iand C d_JInt_bitCount_14 ?_
  refine zx_iload C d_JInt_bitCount_15 rfl ?_
  refine zx_ic C d_JInt_bitCount_16 ?_
  refine zx_iushr C d_JInt_bitCount_17 ?_
  refine zx_ic C d_JInt_bitCount_18 ?_
  refine zx_iand C d_JInt_bitCount_21 ?_
  refine zx_iadd C d_JInt_bitCount_22 ?_
  refine zx_istore C d_JInt_bitCount_23 (by decide) (lv1 := [(0, _)]) rfl ?_
  refine zx_iload C d_JInt_bitCount_24 rfl ?_
  refine zx_iload C d_JInt_bitCount_25 rfl ?_
  refine zx_ic C d_JInt_bitCount_26 ?_
  refine zx_iushr C d_JInt_bitCount_27 ?_
  refine zx_iadd C d_JInt_bitCount_28 ?_
  refine zx_ic C d_JInt_bitCount_29 ?_
  refine zx_iand C d_JInt_bitCount_32 ?_
  refine zx_istore C d_JInt_bitCount_33 (by decide) (lv1 := [(0, _)]) rfl ?_
  refine zx_iload C d_JInt_bitCount_34 rfl ?_
  refine zx_iload C d_JInt_bitCount_35 rfl ?_
  refine zx_ic C d_JInt_bitCount_36 ?_
  refine zx_iushr C d_JInt_bitCount_38 ?_
  refine zx_iadd C d_JInt_bitCount_39 ?_
  refine zx_istore C d_JInt_bitCount_40 (by decide) (lv1 := [(0, _)]) rfl ?_
  refine zx_iload C d_JInt_bitCount_41 rfl ?_
  refine zx_iload C d_JInt_bitCount_42 rfl ?_
  refine zx_ic C d_JInt_bitCount_43 ?_
  refine zx_iushr C d_JInt_bitCount_45 ?_
  refine zx_iadd C d_JInt_bitCount_46 ?_
  refine zx_istore C d_JInt_bitCount_47 (by decide) (lv1 := [(0, _)]) rfl ?_
  refine zx_iload C d_JInt_bitCount_48 rfl ?_
  refine zx_ic C d_JInt_bitCount_49 ?_
  refine zx_iand C d_JInt_bitCount_51 ?_
  exact zx_iret C hq d_JInt_bitCount_52 (⟨congrArg (fun v => some (Value.int v)) (IBC n hn), rfl⟩)
