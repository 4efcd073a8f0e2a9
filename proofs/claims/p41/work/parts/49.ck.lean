/-! HeapGames.checksum -/
def lx (x : Int32) : Int64 := x.toInt64
def ck1 (A : AS) : Nat → Int64
  | 0 => (nI A.nr).toInt64
  | k + 1 => 31 * ck1 A k + (nI (A.ru.1 k)).toInt64
def ck2 (A : AS) : Nat → Int64
  | 0 => 31 * ck1 A A.nr + (nI A.st.hs.length).toInt64
  | k + 1 => 31 * (31 * ck2 A k + (nI (A.st.rl k)).toInt64) + (nI (A.st.sz k)).toInt64
def ck3 (A : AS) : Int64 := 31 * (31 * (31 * (31 * ck2 A A.st.hs.length + (nI A.st.ps).toInt64) + (nI A.ru.2.2).toInt64) + (b2i A.st.mi).toInt64) + (nI A.st.pl.length).toInt64
def ck5 (A : AS) (i : Nat) (s : Int64) : Nat → Int64
  | 0 => s
  | w + 1 => 31 * ck5 A i s w + (plA A i w).toInt64
def ck4 (A : AS) : Nat → Int64
  | 0 => ck3 A
  | i + 1 => ck5 A i (ck4 A i) 4
section FP9
variable (E : GE) (l : Launch)
variable {I : Nat → Nat → Int32} {J : Nat → Nat → Int64} {R : Nat → Nat → Option Nat} {D : Nat → Nat → UInt64} {N : Nat} {ex : Bool} {sw : Bool} {A : AS} {n s : Nat}
set_option maxRecDepth 100000 in
theorem c_checksum (hl : lk R N sw) (h : rC I J sw A n) : g_Ct E l mX6_checksum 3 66 0 0 [.ref 0] (I, J, R, D, N, ex) (g_is (some (.long (ck4 A A.st.pl.length))) (I, J, R, D, N, ex)) := by
  refine g_Ct.of (by decide +kernel) (lb rfl) ?_
  have hN := hl.2.2.2.2.2.2.2.2.2.2.2.2.2.2.2.2
  have hg := hl.1
  have hgm := gm_b sw
  have hst := h.2.2.2.2.2.1
  have hok := h.2.2.2.2.1
  have hnr := h.1.2
  have h4 := hok.1
  have h40 := hok.2.2.2.1
  have loop3 : ∀ f i : Nat, i + f = A.st.pl.length → g_Wp E l mX6_checksum { frames := 3, cells := 0, slots := 0, locals := 66 } (g_Fin E (g_is (some (.long (ck4 A A.st.pl.length))) (I, J, R, D, N, ex)) 0 0) 0 0 184 [(4, .int (nI i)), (2, .long (ck4 A i)), (0, .ref 0), (1, .ref (gm sw + 2))] [] (I, J, R, D, N, ex) := by
    intro f
    induction f with
    | zero =>
      intro i hi
      obtain rfl : i = A.st.pl.length := by omega
      refine w_iload dX6_checksum_184 rfl ?_
      refine w_aload_n dX6_checksum_186 rfl ?_
      refine x_geti (ci := 4) (k := 4) dX6_checksum_187 hg.2.2.2.2.2.1.1 (by decide) (by decide) (by omega) fl_X6_106 rfl ?_
      rw [hst.2.2.2.2.1]
      refine w_icmp_ge (tgt := 233) dX6_checksum_190 (by decide) (fun c_190 => ?_) (fun c_190 => absurd ((nI_le (by omega) (by omega))) c_190)
      refine w_lload_n dX6_checksum_233 rfl ?_
      refine w_lret dX6_checksum_234 rfl ⟨rfl, rfl⟩ (by decide) (by decide)
    | succ f ih =>
      intro i hi
      have hil : i < A.st.pl.length := by omega
      have hpl : ∀ w, plA A i w = deS (A.st.pl[i]) w := fun w => by unfold plA; rw [List.getD_eq_getElem?_getD, List.getElem?_eq_getElem hil]; rfl
      have inner : ∀ g w : Nat, w + g = 4 → g_Wp E l mX6_checksum { frames := 3, cells := 0, slots := 0, locals := 66 } (g_Fin E (g_is (some (.long (ck4 A A.st.pl.length))) (I, J, R, D, N, ex)) 0 0) 0 0 196 [(5, .int (nI w)), (4, .int (nI i)), (2, .long (ck5 A i (ck4 A i) w)), (0, .ref 0), (1, .ref (gm sw + 2))] [] (I, J, R, D, N, ex) := by
        intro g
        induction g with
        | zero =>
          intro w hw
          obtain rfl : w = 4 := by omega
          refine w_iload dX6_checksum_196 rfl ?_
          refine w_iconst (v := 3) dX6_checksum_198 (by decide) ?_
          refine w_icmp_gt (tgt := 227) dX6_checksum_199 (by decide) (fun c_199 => ?_) (fun c_199 => absurd ((by decide)) c_199)
          refine w_iinc (v := nI (i + 1)) dX6_checksum_227 rfl (nI_inc _) (by decide) rfl ?_
          refine w_goto (tgt := 184) dX6_checksum_230 (by decide) ?_
          exact w_lv [4, 2, 0, 1] (ih (i + 1) (by omega))
        | succ g ihg =>
          intro w hw
          refine w_iload dX6_checksum_196 rfl ?_
          refine w_iconst (v := 3) dX6_checksum_198 (by decide) ?_
          refine w_icmp_gt (tgt := 227) dX6_checksum_199 (by decide) (fun c_199 => absurd c_199 ((nI_nlt (a := 3) (b := w) (by omega) (by omega)))) (fun c_199 => ?_)
          refine w_ldc2 dX6_checksum_202 kl_X6_297 ?_
          refine w_lload_n dX6_checksum_205 rfl ?_
          refine w_lmul dX6_checksum_206 ?_
          refine w_aload_n dX6_checksum_207 rfl ?_
          refine w_iload dX6_checksum_208 rfl ?_
          refine y_callV dX6_checksum_210 lk_X6_228 [.int (nI i)] rfl (c_playedAt E l hg.2.2.2.2.2.1 (by omega)) (g_recv.obj (ci := 4) hg.2.2.2.2.2.1.1 (by decide) (show gm sw + 2 < N by omega)) rfl ⟨⟨by decide, by decide⟩, by decide, by decide⟩ (lb rfl) ?_
          rw [hst.2.2.2.2.2 i hil]
          refine w_iload dX6_checksum_213 rfl ?_
          refine y_callS dX6_checksum_215 lk_X6_203 [.int (nI (A.st.pl[i]).code), .int (nI w)] rfl (c_describe E l _ (hok.2.2.2.2 _ (List.getElem_mem hil)) (by omega)) rfl ⟨⟨by decide, by decide⟩, by decide, by decide⟩ (lb rfl) ?_
          rw [← hpl w]
          refine w_i2l dX6_checksum_218 ?_
          refine w_ladd dX6_checksum_219 ?_
          refine w_lstore_n dX6_checksum_220 (by decide) rfl ?_
          refine w_iinc (v := nI (w + 1)) dX6_checksum_221 rfl (nI_inc _) (by decide) rfl ?_
          refine w_goto (tgt := 196) dX6_checksum_224 (by decide) ?_
          exact w_lv [5, 4, 2, 0, 1] (ihg (w + 1) (by omega))
      refine w_iload dX6_checksum_184 rfl ?_
      refine w_aload_n dX6_checksum_186 rfl ?_
      refine x_geti (ci := 4) (k := 4) dX6_checksum_187 hg.2.2.2.2.2.1.1 (by decide) (by decide) (by omega) fl_X6_106 rfl ?_
      rw [hst.2.2.2.2.1]
      refine w_icmp_ge (tgt := 233) dX6_checksum_190 (by decide) (fun c_190 => absurd c_190 ((nI_ge (by omega) (by omega)))) (fun c_190 => ?_)
      refine w_iconst (v := 0) dX6_checksum_193 (by decide) ?_
      refine w_istore dX6_checksum_194 (by decide) rfl ?_
      exact w_lv [5, 4, 2, 0, 1] (inner 4 0 (by omega))
  have loop2 : ∀ f k : Nat, k + f = A.st.hs.length → g_Wp E l mX6_checksum { frames := 3, cells := 0, slots := 0, locals := 66 } (g_Fin E (g_is (some (.long (ck4 A A.st.pl.length))) (I, J, R, D, N, ex)) 0 0) 0 0 73 [(4, .int (nI k)), (2, .long (ck2 A k)), (0, .ref 0), (1, .ref (gm sw + 2))] [] (I, J, R, D, N, ex) := by
    intro f
    induction f with
    | zero =>
      intro k hk
      obtain rfl : k = A.st.hs.length := by omega
      refine w_iload dX6_checksum_73 rfl ?_
      refine w_aload_n dX6_checksum_75 rfl ?_
      refine x_geti (ci := 4) (k := 0) dX6_checksum_76 hg.2.2.2.2.2.1.1 (by decide) (by decide) (by omega) fl_X6_89 rfl ?_
      rw [hst.1]
      refine w_icmp_ge (tgt := 119) dX6_checksum_79 (by decide) (fun c_79 => ?_) (fun c_79 => absurd ((nI_le (by omega) (by omega))) c_79)
      refine w_ldc2 dX6_checksum_119 kl_X6_297 ?_
      refine w_lload_n dX6_checksum_122 rfl ?_
      refine w_lmul dX6_checksum_123 ?_
      refine w_aload_n dX6_checksum_124 rfl ?_
      refine x_geti (ci := 4) (k := 2) dX6_checksum_125 hg.2.2.2.2.2.1.1 (by decide) (by decide) (by omega) fl_X6_92 rfl ?_
      rw [hst.2.2.1]
      refine y_callS dX6_checksum_128 lk_X6_95 [.int (nI A.st.pos)] rfl (c_passesOf E l _ _) rfl ⟨⟨by decide, by decide⟩, by decide, by decide⟩ (lb rfl) ?_
      rw [passes_nI (by have := hok.pos; omega), hok.ps]
      refine w_i2l dX6_checksum_131 ?_
      refine w_ladd dX6_checksum_132 ?_
      refine w_lstore_n dX6_checksum_133 (by decide) rfl ?_
      refine w_ldc2 dX6_checksum_134 kl_X6_297 ?_
      refine w_lload_n dX6_checksum_137 rfl ?_
      refine w_lmul dX6_checksum_138 ?_
      refine w_aload_n dX6_checksum_139 rfl ?_
      refine x_getr (ci := 6) (k := 0) (a := gm sw) dX6_checksum_140 rfl (by decide) (by decide) (by omega) fl_X6_12 (Or.inl ⟨_, rfl⟩) hl.2.2.2.2.1 ?_
      refine x_geti (ci := 0) (k := 2) dX6_checksum_143 hg.1 (by decide) (by decide) (by omega) fl_X6_99 rfl ?_
      rw [h.2.2.1.1]
      refine w_i2l dX6_checksum_146 ?_
      refine w_ladd dX6_checksum_147 ?_
      refine w_lstore_n dX6_checksum_148 (by decide) rfl ?_
      refine w_ldc2 dX6_checksum_149 kl_X6_297 ?_
      refine w_lload_n dX6_checksum_152 rfl ?_
      refine w_lmul dX6_checksum_153 ?_
      refine w_aload_n dX6_checksum_154 rfl ?_
      refine x_getz (ci := 4) (k := 3) dX6_checksum_155 hg.2.2.2.2.2.1.1 (by decide) (by decide) (by omega) fl_X6_102 rfl ?_
      rw [hst.2.2.2.1]
      refine w_if_eq (tgt := 165) dX6_checksum_158 (by decide) (fun c_158 => ?_) (fun c_158 => ?_)
      · refine w_iconst (v := 0) dX6_checksum_165 (by decide) ?_
        refine w_i2l dX6_checksum_166 ?_
        refine w_ladd dX6_checksum_167 ?_
        refine w_lstore_n dX6_checksum_168 (by decide) rfl ?_
        refine w_ldc2 dX6_checksum_169 kl_X6_297 ?_
        refine w_lload_n dX6_checksum_172 rfl ?_
        refine w_lmul dX6_checksum_173 ?_
        refine w_aload_n dX6_checksum_174 rfl ?_
        refine x_geti (ci := 4) (k := 4) dX6_checksum_175 hg.2.2.2.2.2.1.1 (by decide) (by decide) (by omega) fl_X6_106 rfl ?_
        rw [hst.2.2.2.2.1]
        refine w_i2l dX6_checksum_178 ?_
        refine w_ladd dX6_checksum_179 ?_
        refine w_lstore_n dX6_checksum_180 (by decide) rfl ?_
        refine w_iconst (v := 0) dX6_checksum_181 (by decide) ?_
        refine w_istore dX6_checksum_182 (by decide) rfl ?_
        first | (have t := loop3 A.st.pl.length 0 (by omega); rw [show ck4 A 0 = ck3 A from rfl] at t; unfold ck3 at t; rw [b2i_0.mp c_158] at t; exact w_lv [4, 2, 0, 1] t) | (have t := loop3 A.st.pl.length 0 (by omega); rw [show ck4 A 0 = ck3 A from rfl] at t; unfold ck3 at t; rw [b2i_ne.mp c_158] at t; exact w_lv [4, 2, 0, 1] t)
      · refine w_iconst (v := 1) dX6_checksum_161 (by decide) ?_
        refine w_goto (tgt := 166) dX6_checksum_162 (by decide) ?_
        refine w_i2l dX6_checksum_166 ?_
        refine w_ladd dX6_checksum_167 ?_
        refine w_lstore_n dX6_checksum_168 (by decide) rfl ?_
        refine w_ldc2 dX6_checksum_169 kl_X6_297 ?_
        refine w_lload_n dX6_checksum_172 rfl ?_
        refine w_lmul dX6_checksum_173 ?_
        refine w_aload_n dX6_checksum_174 rfl ?_
        refine x_geti (ci := 4) (k := 4) dX6_checksum_175 hg.2.2.2.2.2.1.1 (by decide) (by decide) (by omega) fl_X6_106 rfl ?_
        rw [hst.2.2.2.2.1]
        refine w_i2l dX6_checksum_178 ?_
        refine w_ladd dX6_checksum_179 ?_
        refine w_lstore_n dX6_checksum_180 (by decide) rfl ?_
        refine w_iconst (v := 0) dX6_checksum_181 (by decide) ?_
        refine w_istore dX6_checksum_182 (by decide) rfl ?_
        first | (have t := loop3 A.st.pl.length 0 (by omega); rw [show ck4 A 0 = ck3 A from rfl] at t; unfold ck3 at t; rw [b2i_0.mp c_158] at t; exact w_lv [4, 2, 0, 1] t) | (have t := loop3 A.st.pl.length 0 (by omega); rw [show ck4 A 0 = ck3 A from rfl] at t; unfold ck3 at t; rw [b2i_ne.mp c_158] at t; exact w_lv [4, 2, 0, 1] t)
    | succ f ih =>
      intro k hk
      have hb' : s_bits (I (gm sw + 2) 1) (nI k) = nI (A.st.rl k) := by rw [hst.2.1]; exact hok.rbits hnr (show k < 4 by omega)
      refine w_iload dX6_checksum_73 rfl ?_
      refine w_aload_n dX6_checksum_75 rfl ?_
      refine x_geti (ci := 4) (k := 0) dX6_checksum_76 hg.2.2.2.2.2.1.1 (by decide) (by decide) (by omega) fl_X6_89 rfl ?_
      rw [hst.1]
      refine w_icmp_ge (tgt := 119) dX6_checksum_79 (by decide) (fun c_79 => absurd c_79 ((nI_ge (by omega) (by omega)))) (fun c_79 => ?_)
      refine w_ldc2 dX6_checksum_82 kl_X6_297 ?_
      refine w_lload_n dX6_checksum_85 rfl ?_
      refine w_lmul dX6_checksum_86 ?_
      refine w_aload_n dX6_checksum_87 rfl ?_
      refine x_geti (ci := 4) (k := 1) dX6_checksum_88 hg.2.2.2.2.2.1.1 (by decide) (by decide) (by omega) fl_X6_177 rfl ?_
      refine w_iload dX6_checksum_91 rfl ?_
      refine y_callS dX6_checksum_93 lk_X6_180 [.int (I (gm sw + 2) 1), .int (nI k)] rfl (c_bitsOf E l _ _ _) rfl ⟨⟨by decide, by decide⟩, by decide, by decide⟩ (lb rfl) ?_
      rw [hb']
      refine w_i2l dX6_checksum_96 ?_
      refine w_ladd dX6_checksum_97 ?_
      refine w_lstore_n dX6_checksum_98 (by decide) rfl ?_
      refine w_ldc2 dX6_checksum_99 kl_X6_297 ?_
      refine w_lload_n dX6_checksum_102 rfl ?_
      refine w_lmul dX6_checksum_103 ?_
      refine w_aload_n dX6_checksum_104 rfl ?_
      refine w_iload dX6_checksum_105 rfl ?_
      refine y_callV dX6_checksum_107 lk_X6_174 [.int (nI k)] rfl (c_countersOf E l hl h (show k < 4 by omega)) (g_recv.obj (ci := 6) rfl (by decide) (show 0 < N by omega)) rfl ⟨⟨by decide, by decide⟩, by decide, by decide⟩ (lb rfl) ?_
      refine w_i2l dX6_checksum_110 ?_
      refine w_ladd dX6_checksum_111 ?_
      refine w_lstore_n dX6_checksum_112 (by decide) rfl ?_
      refine w_iinc (v := nI (k + 1)) dX6_checksum_113 rfl (nI_inc _) (by decide) rfl ?_
      refine w_goto (tgt := 73) dX6_checksum_116 (by decide) ?_
      exact w_lv [4, 2, 0, 1] (ih (k + 1) (by omega))
  have loop1 : ∀ f k : Nat, k + f = A.nr → g_Wp E l mX6_checksum { frames := 3, cells := 0, slots := 0, locals := 66 } (g_Fin E (g_is (some (.long (ck4 A A.st.pl.length))) (I, J, R, D, N, ex)) 0 0) 0 0 20 [(4, .int (nI k)), (2, .long (ck1 A k)), (0, .ref 0), (1, .ref (gm sw + 2))] [] (I, J, R, D, N, ex) := by
    intro f
    induction f with
    | zero =>
      intro k hk
      obtain rfl : k = A.nr := by omega
      refine w_iload dX6_checksum_20 rfl ?_
      refine w_aload_n dX6_checksum_22 rfl ?_
      refine x_getr (ci := 6) (k := 0) (a := gm sw) dX6_checksum_23 rfl (by decide) (by decide) (by omega) fl_X6_12 (Or.inl ⟨_, rfl⟩) hl.2.2.2.2.1 ?_
      refine x_geti (ci := 0) (k := 1) dX6_checksum_26 hg.1 (by decide) (by decide) (by omega) fl_X6_82 rfl ?_
      rw [h.1.1]
      refine w_icmp_ge (tgt := 58) dX6_checksum_29 (by decide) (fun c_29 => ?_) (fun c_29 => absurd ((nI_le (by omega) (by omega))) c_29)
      refine w_ldc2 dX6_checksum_58 kl_X6_297 ?_
      refine w_lload_n dX6_checksum_61 rfl ?_
      refine w_lmul dX6_checksum_62 ?_
      refine w_aload_n dX6_checksum_63 rfl ?_
      refine x_geti (ci := 4) (k := 0) dX6_checksum_64 hg.2.2.2.2.2.1.1 (by decide) (by decide) (by omega) fl_X6_89 rfl ?_
      rw [hst.1]
      refine w_i2l dX6_checksum_67 ?_
      refine w_ladd dX6_checksum_68 ?_
      refine w_lstore_n dX6_checksum_69 (by decide) rfl ?_
      refine w_iconst (v := 0) dX6_checksum_70 (by decide) ?_
      refine w_istore dX6_checksum_71 (by decide) rfl ?_
      exact w_lv [4, 2, 0, 1] (loop2 A.st.hs.length 0 (by omega))
    | succ f ih =>
      intro k hk
      have hr := (hg.2.2.2.2.2.2 k (by omega)).2
      refine w_iload dX6_checksum_20 rfl ?_
      refine w_aload_n dX6_checksum_22 rfl ?_
      refine x_getr (ci := 6) (k := 0) (a := gm sw) dX6_checksum_23 rfl (by decide) (by decide) (by omega) fl_X6_12 (Or.inl ⟨_, rfl⟩) hl.2.2.2.2.1 ?_
      refine x_geti (ci := 0) (k := 1) dX6_checksum_26 hg.1 (by decide) (by decide) (by omega) fl_X6_82 rfl ?_
      rw [h.1.1]
      refine w_icmp_ge (tgt := 58) dX6_checksum_29 (by decide) (fun c_29 => absurd c_29 ((nI_ge (by omega) (by omega)))) (fun c_29 => ?_)
      refine w_ldc2 dX6_checksum_32 kl_X6_297 ?_
      refine w_lload_n dX6_checksum_35 rfl ?_
      refine w_lmul dX6_checksum_36 ?_
      refine w_aload_n dX6_checksum_37 rfl ?_
      refine x_getr (ci := 6) (k := 0) (a := gm sw) dX6_checksum_38 rfl (by decide) (by decide) (by omega) fl_X6_12 (Or.inl ⟨_, rfl⟩) hl.2.2.2.2.1 ?_
      refine w_iload dX6_checksum_41 rfl ?_
      refine y_callV dX6_checksum_43 lk_X6_166 [.int (nI k)] rfl (c_ruleAt E l hg (by omega)) (g_recv.obj (ci := 0) hg.1 (by decide) (show gm sw < N by omega)) rfl ⟨⟨by decide, by decide⟩, by decide, by decide⟩ (lb rfl) ?_
      refine x_geti (ci := 2) (k := 1) dX6_checksum_46 hr.1 (by decide) (by decide) (by have := hr.2.1; omega) fl_X6_128 rfl ?_
      rw [(h.2.2.1.2 k (by omega)).1]
      refine w_i2l dX6_checksum_49 ?_
      refine w_ladd dX6_checksum_50 ?_
      refine w_lstore_n dX6_checksum_51 (by decide) rfl ?_
      refine w_iinc (v := nI (k + 1)) dX6_checksum_52 rfl (nI_inc _) (by decide) rfl ?_
      refine w_goto (tgt := 20) dX6_checksum_55 (by decide) ?_
      exact w_lv [4, 2, 0, 1] (ih (k + 1) (by omega))
  refine w_aload_n dX6_checksum_0 rfl ?_
  refine x_getr (ci := 6) (k := 0) (a := gm sw) dX6_checksum_1 rfl (by decide) (by decide) (by omega) fl_X6_12 (Or.inl ⟨_, rfl⟩) hl.2.2.2.2.1 ?_
  refine x_getr (ci := 0) (k := 3) (a := gm sw + 2) dX6_checksum_4 hg.1 (by decide) (by decide) (by omega) fl_X6_85 (Or.inl ⟨_, rfl⟩) hg.2.2.2.2.1 ?_
  refine w_astore_n dX6_checksum_7 (by decide) rfl ?_
  refine w_aload_n dX6_checksum_8 rfl ?_
  refine x_getr (ci := 6) (k := 0) (a := gm sw) dX6_checksum_9 rfl (by decide) (by decide) (by omega) fl_X6_12 (Or.inl ⟨_, rfl⟩) hl.2.2.2.2.1 ?_
  refine x_geti (ci := 0) (k := 1) dX6_checksum_12 hg.1 (by decide) (by decide) (by omega) fl_X6_82 rfl ?_
  rw [h.1.1]
  refine w_i2l dX6_checksum_15 ?_
  refine w_lstore_n dX6_checksum_16 (by decide) rfl ?_
  refine w_iconst (v := 0) dX6_checksum_17 (by decide) ?_
  refine w_istore dX6_checksum_18 (by decide) rfl ?_
  exact w_lv [4, 2, 0, 1] (loop1 A.nr 0 (by omega))
end FP9
