/-! HeapGames: removeHeap, undo, snapshots -/
def St.nil : St := ([], 0, false, [])
section FN
variable (E : GE) (l : Launch)
variable {I : Nat → Nat → Int32} {J : Nat → Nat → Int64} {R : Nat → Nat → Option Nat} {D : Nat → Nat → UInt64} {N : Nat} {ex : Bool} {sw : Bool} {A : AS} {n s : Nat}
set_option maxRecDepth 100000 in
theorem c_addHeap_x1 (hl : lk R N sw) (h : rC I J sw A n) {x : Int32} (hx : x < 0 ∨ ¬ x < nI A.nr) (z : Int32) : g_Ct E l mX6_addHeap 7 111 1 6 [.ref 0, .int x, .int z] (I, J, R, D, N, ex) (g_ths "java/lang/IndexOutOfBoundsException" (I, J, R, D, N, false)) := by
  refine g_Ct.of (by decide +kernel) (lb rfl) ?_
  have hN := hl.2.2.2.2.2.2.2.2.2.2.2.2.2.2.2.2
  refine w_aload_n dX6_addHeap_0 rfl ?_
  refine w_iload_n dX6_addHeap_1 rfl ?_
  refine t_callV dX6_addHeap_2 lk_X6_124 [.int x] rfl (c_requireRule_x E l hl h hx) (g_recv.obj (ci := 6) rfl (by decide) (show 0 < N by omega)) rfl ⟨⟨by decide, by decide⟩, by decide, by decide⟩ (lb rfl) (w_out rfl ⟨rfl, rfl⟩ (by decide) (by decide))
set_option maxRecDepth 100000 in
theorem c_addHeap_x2 (hl : lk R N sw) (h : rC I J sw A n) {r : Nat} (hr : r < A.nr) {z : Int32} (hz : z < 0 ∨ ¬ z < nI 16) : g_Ct E l mX6_addHeap 7 111 1 6 [.ref 0, .int (nI r), .int z] (I, J, R, D, N, ex) (g_ths "java/lang/IllegalArgumentException" (I, J, R, D, N, false)) := by
  refine g_Ct.of (by decide +kernel) (lb rfl) ?_
  have hN := hl.2.2.2.2.2.2.2.2.2.2.2.2.2.2.2.2
  refine w_aload_n dX6_addHeap_0 rfl ?_
  refine w_iload_n dX6_addHeap_1 rfl ?_
  refine y_callV dX6_addHeap_2 lk_X6_124 [.int (nI r)] rfl (c_requireRule E l hl h hr) (g_recv.obj (ci := 6) rfl (by decide) (show 0 < N by omega)) rfl ⟨⟨by decide, by decide⟩, by decide, by decide⟩ (lb rfl) ?_
  refine w_pop dX6_addHeap_5 rfl ?_
  refine w_iload_n dX6_addHeap_6 rfl ?_
  refine t_callS dX6_addHeap_7 lk_X6_262 [.int z] rfl (c_requireSize_x E l hz) rfl ⟨⟨by decide, by decide⟩, by decide, by decide⟩ (lb rfl) (w_out rfl ⟨rfl, rfl⟩ (by decide) (by decide))
set_option maxRecDepth 100000 in
theorem c_addHeap_x3 (hl : lk R N sw) (h : rC I J sw A n) {r z : Nat} (hr : r < A.nr) (hz : z < 16) (hs : A.st.hs.length = 4) : g_Ct E l mX6_addHeap 7 111 1 6 [.ref 0, .int (nI r), .int (nI z)] (I, J, R, D, N, ex) (g_ths "java/lang/IllegalStateException" (I, J, R, D, N, false)) := by
  refine g_Ct.of (by decide +kernel) (lb rfl) ?_
  have hN := hl.2.2.2.2.2.2.2.2.2.2.2.2.2.2.2.2
  have hg := hl.1
  have hgm := gm_b sw
  refine w_aload_n dX6_addHeap_0 rfl ?_
  refine w_iload_n dX6_addHeap_1 rfl ?_
  refine y_callV dX6_addHeap_2 lk_X6_124 [.int (nI r)] rfl (c_requireRule E l hl h hr) (g_recv.obj (ci := 6) rfl (by decide) (show 0 < N by omega)) rfl ⟨⟨by decide, by decide⟩, by decide, by decide⟩ (lb rfl) ?_
  refine w_pop dX6_addHeap_5 rfl ?_
  refine w_iload_n dX6_addHeap_6 rfl ?_
  refine z_callS dX6_addHeap_7 lk_X6_262 [.int (nI z)] rfl (c_requireSize E l _ hz) rfl ⟨⟨by decide, by decide⟩, by decide, by decide⟩ (lb rfl) ?_
  refine w_aload_n dX6_addHeap_10 rfl ?_
  refine x_getr (ci := 6) (k := 0) (a := gm sw) dX6_addHeap_11 rfl (by decide) (by decide) (by omega) fl_X6_12 (Or.inl ⟨_, rfl⟩) hl.2.2.2.2.1 ?_
  refine x_getr (ci := 0) (k := 3) (a := gm sw + 2) dX6_addHeap_14 hg.1 (by decide) (by decide) (by omega) fl_X6_85 (Or.inl ⟨_, rfl⟩) hg.2.2.2.2.1 ?_
  refine x_geti (ci := 4) (k := 0) dX6_addHeap_17 hg.2.2.2.2.2.1.1 (by decide) (by decide) (by omega) fl_X6_89 rfl ?_
  rw [h.2.2.2.2.2.1.1, hs]
  refine w_iconst (v := 4) dX6_addHeap_20 (by decide) ?_
  refine w_icmp_lt (tgt := 35) dX6_addHeap_21 (by decide) (fun c_21 => absurd c_21 ((by decide))) (fun c_21 => ?_)
  refine w_throwW (X := "java/lang/IllegalStateException") (tx := "there are 4 heaps") rfl rfl (by decide +kernel) (by decide +kernel) dX6_addHeap_24 dX6_addHeap_27 dX6_addHeap_28 dX6_addHeap_31 dX6_addHeap_34 (by decide) (lb rfl) (by decide) (by decide) (by decide) (by decide) ⟨rfl, rfl⟩
end FN
