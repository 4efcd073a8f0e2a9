/-! HeapGames: the little functions over rows of four bits -/
section B1
variable (E : GE) (l : Launch) (w : GW)
def s_bits (row heap : Int32) : Int32 := row >>> ((4 * heap) &&& 31) &&& 15
def s_with (row heap bits : Int32) : Int32 := row &&& ((15 <<< ((4 * heap) &&& 31)) ^^^ -1) ||| bits <<< ((4 * heap) &&& 31)
def s_without (row heap : Int32) : Int32 := ((row &&& (-65536 : Int32)) ||| (((row &&& (65535 : Int32)) >>> (((4 : Int32) * (heap + 1)) &&& 31)) <<< (((4 : Int32) * heap) &&& 31))) ||| (row &&& (((1 : Int32) <<< (((4 : Int32) * heap) &&& 31)) - 1))
def s_passes (p : Int32) : Int32 := p >>> ((16 : Int32) &&& 31)
set_option maxRecDepth 100000 in
theorem c_bitsOf (row heap : Int32) : g_Ct E l mX6_bitsOf 0 0 0 0 [.int row, .int heap] w (g_is (some (.int (s_bits row heap))) w) := by
  refine g_Ct.of (by decide +kernel) (lb rfl) ?_
  refine w_iload_n dX6_bitsOf_0 rfl ?_
  refine w_iconst (v := 4) dX6_bitsOf_1 (by decide) ?_
  refine w_iload_n dX6_bitsOf_2 rfl ?_
  refine w_imul dX6_bitsOf_3 ?_
  refine w_ishr dX6_bitsOf_4 ?_
  refine w_bipush (v := 15) dX6_bitsOf_5 (by decide) ?_
  refine w_iand dX6_bitsOf_7 ?_
  refine w_iret dX6_bitsOf_8 rfl rfl ⟨rfl, rfl⟩ (by decide) (by decide)
set_option maxRecDepth 100000 in
theorem c_withBits (row heap bits : Int32) : g_Ct E l mX6_withBits 0 0 0 0 [.int row, .int heap, .int bits] w (g_is (some (.int (s_with row heap bits))) w) := by
  refine g_Ct.of (by decide +kernel) (lb rfl) ?_
  refine w_iload_n dX6_withBits_0 rfl ?_
  refine w_bipush (v := 15) dX6_withBits_1 (by decide) ?_
  refine w_iconst (v := 4) dX6_withBits_3 (by decide) ?_
  refine w_iload_n dX6_withBits_4 rfl ?_
  refine w_imul dX6_withBits_5 ?_
  refine w_ishl dX6_withBits_6 ?_
  refine w_iconst (v := (-1)) dX6_withBits_7 (by decide) ?_
  refine w_ixor dX6_withBits_8 ?_
  refine w_iand dX6_withBits_9 ?_
  refine w_iload_n dX6_withBits_10 rfl ?_
  refine w_iconst (v := 4) dX6_withBits_11 (by decide) ?_
  refine w_iload_n dX6_withBits_12 rfl ?_
  refine w_imul dX6_withBits_13 ?_
  refine w_ishl dX6_withBits_14 ?_
  refine w_ior dX6_withBits_15 ?_
  refine w_iret dX6_withBits_16 rfl rfl ⟨rfl, rfl⟩ (by decide) (by decide)
set_option maxRecDepth 100000 in
theorem c_passesOf (p : Int32) : g_Ct E l mX6_passesOf 0 0 0 0 [.int p] w (g_is (some (.int (s_passes p))) w) := by
  refine g_Ct.of (by decide +kernel) (lb rfl) ?_
  refine w_iload_n dX6_passesOf_0 rfl ?_
  refine w_bipush (v := 16) dX6_passesOf_1 (by decide) ?_
  refine w_ishr dX6_passesOf_3 ?_
  refine w_iret dX6_passesOf_4 rfl rfl ⟨rfl, rfl⟩ (by decide) (by decide)
end B1
