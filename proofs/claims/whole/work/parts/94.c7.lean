/-! HeapGamesModel: its constructor -/
section C7
variable (E : GE) (l : Launch)
variable {I : Nat → Nat → Int32} {J : Nat → Nat → Int64} {R : Nat → Nat → Option Nat} {D : Nat → Nat → UInt64} {g : Nat}
def r7f : List Nat := [0, 1, 2, 3, 4, 6, 7, 8, 9, 10, 11, 12, 13, 14, 18, 20, 21, 34, 36, 37]
def r7 (R : Nat → Nat → Option Nat) : Nat → Nat → Nat → Option Nat
  | 0 => R
  | k + 1 => up2 (r7 R k) 79 (r7f.getD k 0) (some (80 + k))
theorem r7_z (h : g_zf I J R D 80) : ∀ k, g_zf I J (r7 R k) D (80 + k)
  | 0 => h
  | k + 1 => ((r7_z h k).mono (by omega)).r (by omega)
set_option maxRecDepth 100000 in
theorem c_X7_init (hz : g_zf I J R D 80) : g_Ct E l mX7_init 1 20 20 267512 [.ref 79] (I, J, R, D, 80, true) (g_is none (I, J, r7 R 20, D, 100, true)) := by
  refine g_Ct.of (by decide +kernel) (lb rfl) ?_
  refine w_aload_n dX7_init_0 rfl ?_
  refine w_objInit dX7_init_1 lx_X7_1 (by decide) (lb rfl) ?_
  refine w_aload_n dX7_init_4 rfl ?_
  refine w_sipush (v := 172) dX7_init_5 (by decide) ?_
  refine x_newarr (c := 8) (L := 172) dX7_init_8 (by decide) rfl (by decide) (by decide) rfl arrc_8 rfl (r7_z hz 0) (by decide) (by decide) ?_
  refine x_putr (ci := 7) (k := 0) dX7_init_10 rfl (by decide) (by decide) (by decide) fl_X7_7 (Or.inr ⟨_, rfl⟩) (Or.inr ⟨rfl, rfl⟩) ?_
  refine w_aload_n dX7_init_13 rfl ?_
  refine w_sipush (v := 172) dX7_init_14 (by decide) ?_
  refine x_newarr (c := 8) (L := 172) dX7_init_17 (by decide) rfl (by decide) (by decide) rfl arrc_8 rfl (r7_z hz 1) (by decide) (by decide) ?_
  refine x_putr (ci := 7) (k := 1) dX7_init_19 rfl (by decide) (by decide) (by decide) fl_X7_13 (Or.inr ⟨_, rfl⟩) (Or.inr ⟨rfl, rfl⟩) ?_
  refine w_aload_n dX7_init_22 rfl ?_
  refine w_sipush (v := 1720) dX7_init_23 (by decide) ?_
  refine x_newarr (c := 8) (L := 1720) dX7_init_26 (by decide) rfl (by decide) (by decide) rfl arrc_8 rfl (r7_z hz 2) (by decide) (by decide) ?_
  refine x_putr (ci := 7) (k := 2) dX7_init_28 rfl (by decide) (by decide) (by decide) fl_X7_16 (Or.inr ⟨_, rfl⟩) (Or.inr ⟨rfl, rfl⟩) ?_
  refine w_aload_n dX7_init_31 rfl ?_
  refine w_sipush (v := 344) dX7_init_32 (by decide) ?_
  refine x_newarr (c := 8) (L := 344) dX7_init_35 (by decide) rfl (by decide) (by decide) rfl arrc_8 rfl (r7_z hz 3) (by decide) (by decide) ?_
  refine x_putr (ci := 7) (k := 3) dX7_init_37 rfl (by decide) (by decide) (by decide) fl_X7_19 (Or.inr ⟨_, rfl⟩) (Or.inr ⟨rfl, rfl⟩) ?_
  refine w_aload_n dX7_init_40 rfl ?_
  refine w_iconst (v := 2) dX7_init_41 (by decide) ?_
  refine x_newarr (c := 10) (L := 2) dX7_init_42 (by decide) rfl (by decide) (by decide) rfl arrc_10 rfl (r7_z hz 4) (by decide) (by decide) ?_
  refine x_putr (ci := 7) (k := 4) dX7_init_44 rfl (by decide) (by decide) (by decide) fl_X7_22 (Or.inr ⟨_, rfl⟩) (Or.inr ⟨rfl, rfl⟩) ?_
  refine w_aload_n dX7_init_47 rfl ?_
  refine w_bipush (v := 6) dX7_init_48 (by decide) ?_
  refine x_newarr (c := 8) (L := 6) dX7_init_50 (by decide) rfl (by decide) (by decide) rfl arrc_8 rfl (r7_z hz 5) (by decide) (by decide) ?_
  refine x_putr (ci := 7) (k := 6) dX7_init_52 rfl (by decide) (by decide) (by decide) fl_X7_26 (Or.inr ⟨_, rfl⟩) (Or.inr ⟨rfl, rfl⟩) ?_
  refine w_aload_n dX7_init_55 rfl ?_
  refine w_bipush (v := 6) dX7_init_56 (by decide) ?_
  refine x_newarr (c := 8) (L := 6) dX7_init_58 (by decide) rfl (by decide) (by decide) rfl arrc_8 rfl (r7_z hz 6) (by decide) (by decide) ?_
  refine x_putr (ci := 7) (k := 7) dX7_init_60 rfl (by decide) (by decide) (by decide) fl_X7_29 (Or.inr ⟨_, rfl⟩) (Or.inr ⟨rfl, rfl⟩) ?_
  refine w_aload_n dX7_init_63 rfl ?_
  refine w_bipush (v := 48) dX7_init_64 (by decide) ?_
  refine x_newarr (c := 8) (L := 48) dX7_init_66 (by decide) rfl (by decide) (by decide) rfl arrc_8 rfl (r7_z hz 7) (by decide) (by decide) ?_
  refine x_putr (ci := 7) (k := 8) dX7_init_68 rfl (by decide) (by decide) (by decide) fl_X7_32 (Or.inr ⟨_, rfl⟩) (Or.inr ⟨rfl, rfl⟩) ?_
  refine w_aload_n dX7_init_71 rfl ?_
  refine w_bipush (v := 6) dX7_init_72 (by decide) ?_
  refine x_newarr (c := 8) (L := 6) dX7_init_74 (by decide) rfl (by decide) (by decide) rfl arrc_8 rfl (r7_z hz 8) (by decide) (by decide) ?_
  refine x_putr (ci := 7) (k := 9) dX7_init_76 rfl (by decide) (by decide) (by decide) fl_X7_35 (Or.inr ⟨_, rfl⟩) (Or.inr ⟨rfl, rfl⟩) ?_
  refine w_aload_n dX7_init_79 rfl ?_
  refine w_bipush (v := 6) dX7_init_80 (by decide) ?_
  refine x_newarr (c := 8) (L := 6) dX7_init_82 (by decide) rfl (by decide) (by decide) rfl arrc_8 rfl (r7_z hz 9) (by decide) (by decide) ?_
  refine x_putr (ci := 7) (k := 10) dX7_init_84 rfl (by decide) (by decide) (by decide) fl_X7_38 (Or.inr ⟨_, rfl⟩) (Or.inr ⟨rfl, rfl⟩) ?_
  refine w_aload_n dX7_init_87 rfl ?_
  refine w_bipush (v := 48) dX7_init_88 (by decide) ?_
  refine x_newarr (c := 8) (L := 48) dX7_init_90 (by decide) rfl (by decide) (by decide) rfl arrc_8 rfl (r7_z hz 10) (by decide) (by decide) ?_
  refine x_putr (ci := 7) (k := 11) dX7_init_92 rfl (by decide) (by decide) (by decide) fl_X7_41 (Or.inr ⟨_, rfl⟩) (Or.inr ⟨rfl, rfl⟩) ?_
  refine w_aload_n dX7_init_95 rfl ?_
  refine w_sipush (v := 1806) dX7_init_96 (by decide) ?_
  refine x_newarr (c := 8) (L := 1806) dX7_init_99 (by decide) rfl (by decide) (by decide) rfl arrc_8 rfl (r7_z hz 11) (by decide) (by decide) ?_
  refine x_putr (ci := 7) (k := 12) dX7_init_101 rfl (by decide) (by decide) (by decide) fl_X7_44 (Or.inr ⟨_, rfl⟩) (Or.inr ⟨rfl, rfl⟩) ?_
  refine w_aload_n dX7_init_104 rfl ?_
  refine w_bipush (v := 6) dX7_init_105 (by decide) ?_
  refine x_newarr (c := 9) (L := 6) dX7_init_107 (by decide) rfl (by decide) (by decide) rfl arrc_9 rfl (r7_z hz 12) (by decide) (by decide) ?_
  refine x_putr (ci := 7) (k := 13) dX7_init_109 rfl (by decide) (by decide) (by decide) fl_X7_47 (Or.inr ⟨_, rfl⟩) (Or.inr ⟨rfl, rfl⟩) ?_
  refine w_aload_n dX7_init_112 rfl ?_
  refine w_bipush (v := 6) dX7_init_113 (by decide) ?_
  refine x_newarr (c := 9) (L := 6) dX7_init_115 (by decide) rfl (by decide) (by decide) rfl arrc_9 rfl (r7_z hz 13) (by decide) (by decide) ?_
  refine x_putr (ci := 7) (k := 14) dX7_init_117 rfl (by decide) (by decide) (by decide) fl_X7_51 (Or.inr ⟨_, rfl⟩) (Or.inr ⟨rfl, rfl⟩) ?_
  refine w_aload_n dX7_init_120 rfl ?_
  refine w_sipush (v := 512) dX7_init_121 (by decide) ?_
  refine x_newarr (c := 8) (L := 512) dX7_init_124 (by decide) rfl (by decide) (by decide) rfl arrc_8 rfl (r7_z hz 14) (by decide) (by decide) ?_
  refine x_putr (ci := 7) (k := 18) dX7_init_126 rfl (by decide) (by decide) (by decide) fl_X7_54 (Or.inr ⟨_, rfl⟩) (Or.inr ⟨rfl, rfl⟩) ?_
  refine w_aload_n dX7_init_129 rfl ?_
  refine w_bipush (v := 96) dX7_init_130 (by decide) ?_
  refine x_newarr (c := 8) (L := 96) dX7_init_132 (by decide) rfl (by decide) (by decide) rfl arrc_8 rfl (r7_z hz 15) (by decide) (by decide) ?_
  refine x_putr (ci := 7) (k := 20) dX7_init_134 rfl (by decide) (by decide) (by decide) fl_X7_57 (Or.inr ⟨_, rfl⟩) (Or.inr ⟨rfl, rfl⟩) ?_
  refine w_aload_n dX7_init_137 rfl ?_
  refine w_sipush (v := 400) dX7_init_138 (by decide) ?_
  refine x_newarr (c := 8) (L := 400) dX7_init_141 (by decide) rfl (by decide) (by decide) rfl arrc_8 rfl (r7_z hz 16) (by decide) (by decide) ?_
  refine x_putr (ci := 7) (k := 21) dX7_init_143 rfl (by decide) (by decide) (by decide) fl_X7_60 (Or.inr ⟨_, rfl⟩) (Or.inr ⟨rfl, rfl⟩) ?_
  refine w_aload_n dX7_init_146 rfl ?_
  refine w_bipush (v := 8) dX7_init_147 (by decide) ?_
  refine x_newarr (c := 8) (L := 8) dX7_init_149 (by decide) rfl (by decide) (by decide) rfl arrc_8 rfl (r7_z hz 17) (by decide) (by decide) ?_
  refine x_putr (ci := 7) (k := 34) dX7_init_151 rfl (by decide) (by decide) (by decide) fl_X7_63 (Or.inr ⟨_, rfl⟩) (Or.inr ⟨rfl, rfl⟩) ?_
  refine w_aload_n dX7_init_154 rfl ?_
  refine w_ldc dX7_init_155 kc_X7_66 ?_
  refine x_newarr (c := 8) (L := 262144) dX7_init_157 (by decide) rfl (by decide) (by decide) rfl arrc_8 rfl (r7_z hz 18) (by decide) (by decide) ?_
  refine x_putr (ci := 7) (k := 36) dX7_init_159 rfl (by decide) (by decide) (by decide) fl_X7_67 (Or.inr ⟨_, rfl⟩) (Or.inr ⟨rfl, rfl⟩) ?_
  refine w_aload_n dX7_init_162 rfl ?_
  refine w_iconst (v := 4) dX7_init_163 (by decide) ?_
  refine x_newarr (c := 8) (L := 4) dX7_init_164 (by decide) rfl (by decide) (by decide) rfl arrc_8 rfl (r7_z hz 19) (by decide) (by decide) ?_
  refine x_putr (ci := 7) (k := 37) dX7_init_166 rfl (by decide) (by decide) (by decide) fl_X7_70 (Or.inr ⟨_, rfl⟩) (Or.inr ⟨rfl, rfl⟩) ?_
  refine w_vret dX7_init_169 rfl ⟨rfl, rfl⟩ (by decide) (by decide)
end C7
