/-! the start: what the words say -/
section ST
variable {s : State} {args : Array Value}
theorem st_cl (h : ∀ w ∈ gw, w.before args s = true) : ∃ D : va_G, ∀ (c : Nat) (q : vw_C), vwCl[c]? = some q → u_Kn s q.1 q.2.1 q.2.2 (D.1 c) (D.2 c) := by
  have inst : ∀ c, c < 8 → Cond.instantiable (g_R c) (g_N c) ∈ gw := by
    intro c hc
    rcases (show c = 0 ∨ c = 1 ∨ c = 2 ∨ c = 3 ∨ c = 4 ∨ c = 5 ∨ c = 6 ∨ c = 7 by omega) with rfl | rfl | rfl | rfl | rfl | rfl | rfl | rfl
    · exact inst_0
    · exact inst_1
    · exact inst_2
    · exact inst_3
    · exact inst_4
    · exact inst_5
    · exact inst_6
    · exact inst_7
  have k : ∀ c, c < 8 → ∃ (cC : ClassId) (iS : Nat → Nat), u_Kn s (g_R c) (g_T c) (g_N c) cC iS := fun c hc => u_known (ws := gw) h (fun w hw => g_uin c hc w hw) (h _ (inst c hc))
  have k2 : ∀ c, ∃ q : ClassId × (Nat → Nat), c < 8 → u_Kn s (g_R c) (g_T c) (g_N c) q.1 q.2 := by
    intro c
    by_cases hc : c < 8
    · obtain ⟨a, b, z⟩ := k c hc
      exact ⟨(a, b), fun _ => z⟩
    · obtain ⟨a, b, z⟩ := k 0 (by decide)
      exact ⟨(a, b), fun q => absurd q hc⟩
  obtain ⟨f, hf⟩ := Classical.axiomOfChoice k2
  refine ⟨(fun c => (f c).1, fun c => (f c).2), fun c q hq => ?_⟩
  have hc : c < 8 := (List.getElem?_eq_some_iff.mp hq).1
  rw [g_clat hc] at hq
  cases hq
  exact hf c hc
theorem st_nest (h : ∀ w ∈ lw_tbl, w.before args s = true) : ∀ q ∈ g_nest, va_Nw (.methodLinkNest q.1 q.2.1 q.2.2.1 q.2.2.2) s := by
  have hm : ∀ q ∈ g_nest, Cond.methodLinkNest q.1 q.2.1 q.2.2.1 q.2.2.2 ∈ tables_1 := by decide +kernel
  exact fun q hq => va_Nw.of rfl (h _ (List.mem_append_right _ (hm q hq)))
theorem st_ao (h : ∀ w ∈ lw_tbl, w.before args s = true) : va_AO "HeapGames$Rule" s ∧ va_AO "HeapGames$State" s := by
  have h1 : Cond.arrayOver (.object "HeapGames$Rule") ∈ tables_1 := by decide +kernel
  have h2 : Cond.arrayOver (.object "HeapGames$State") ∈ tables_1 := by decide +kernel
  exact ⟨va_AO.of (h _ (List.mem_append_right _ h1)), va_AO.of (h _ (List.mem_append_right _ h2))⟩
theorem st_zq (h : ∀ w ∈ lw_tbl, w.before args s = true) (hg : ∀ w ∈ flatC (Jvm.Cond.and given_1 narrow_1), w.before args s = true) {A : Nat → Prop} (hA : ∀ a : Nat, a < s.heap.size → ¬ A a) : vx_Zq Bundle.tN "UNASSIGNED_STACK" Bundle.steD A s s.heap ∧ vx_Zq Bundle.tN "SUPPRESSED_SENTINEL" Bundle.listD A s s.heap := by
  have h1 : Cond.laysStatic Bundle.tN "UNASSIGNED_STACK" Bundle.steD ∈ tables_1 := by decide +kernel
  have h2 : Cond.laysStatic Bundle.tN "SUPPRESSED_SENTINEL" Bundle.listD ∈ tables_1 := by decide +kernel
  have h3 : Cond.initialized Bundle.tN ∈ tables_1 := by decide +kernel
  have h4 : Cond.isRef (.static Bundle.tN "UNASSIGNED_STACK" Bundle.steD) ∈ flatC (Jvm.Cond.and given_1 narrow_1) := by decide +kernel
  have h5 : Cond.isRef (.static Bundle.tN "SUPPRESSED_SENTINEL" Bundle.listD) ∈ flatC (Jvm.Cond.and given_1 narrow_1) := by decide +kernel
  exact ⟨vx_Zqof (h _ (List.mem_append_right _ h1)) (h _ (List.mem_append_right _ h3)) (hg _ h4) hA, vx_Zqof (h _ (List.mem_append_right _ h2)) (h _ (List.mem_append_right _ h3)) (hg _ h5) hA⟩
theorem st_nw (h : ∀ w ∈ lw_tbl, w.before args s = true) : va_Nw (.castable "java/lang/IllegalArgumentException" "java/lang/IllegalArgumentException") s ∧ va_Nw (.castable "java/lang/IndexOutOfBoundsException" "java/lang/IndexOutOfBoundsException") s ∧ va_Nw (.castable "java/lang/IllegalStateException" "java/lang/IllegalStateException") s := by
  have h1 : Cond.castable "java/lang/IllegalArgumentException" "java/lang/IllegalArgumentException" ∈ tables_1 := by decide +kernel
  have h2 : Cond.castable "java/lang/IndexOutOfBoundsException" "java/lang/IndexOutOfBoundsException" ∈ tables_1 := by decide +kernel
  have h3 : Cond.castable "java/lang/IllegalStateException" "java/lang/IllegalStateException" ∈ tables_1 := by decide +kernel
  exact ⟨va_Nw.of rfl (h _ (List.mem_append_right _ h1)), va_Nw.of rfl (h _ (List.mem_append_right _ h2)), va_Nw.of rfl (h _ (List.mem_append_right _ h3))⟩
theorem st_nc (hg : ∀ w ∈ flatC (Jvm.Cond.and given_1 narrow_1), w.before args s = true) : va_Nc "java/lang/IllegalArgumentException" "java/lang/IllegalStateException" s ∧ va_Nc "java/lang/IndexOutOfBoundsException" "java/lang/IllegalStateException" s ∧ va_Nc "java/lang/IllegalArgumentException" "HeapGames$Rule" s := by
  have h1 : Cond.not (.castable "java/lang/IllegalArgumentException" "java/lang/IllegalStateException") ∈ flatC (Jvm.Cond.and given_1 narrow_1) := by decide +kernel
  have h2 : Cond.not (.castable "java/lang/IndexOutOfBoundsException" "java/lang/IllegalStateException") ∈ flatC (Jvm.Cond.and given_1 narrow_1) := by decide +kernel
  have h3 : Cond.not (.castable "java/lang/IllegalArgumentException" "HeapGames$Rule") ∈ flatC (Jvm.Cond.and given_1 narrow_1) := by decide +kernel
  exact ⟨va_Nc.of (hg _ h1), va_Nc.of (hg _ h2), va_Nc.of (hg _ h3)⟩
theorem st_z (h : ∀ w ∈ lw_tbl, w.before args s = true) (hg : ∀ w ∈ flatC (Jvm.Cond.and given_1 narrow_1), w.before args s = true) {A : Nat → Prop} (hA : ∀ a : Nat, a < s.heap.size → ¬ A a) : va_Z "java/lang/String" "COMPACT_STRINGS" "Z" (.int 1) A s s.heap ∧ va_Zq "jdk/internal/util/Preconditions" "SIOOBE_FORMATTER" "Ljava/util/function/BiFunction;" A s s.heap := by
  have h1 : Cond.laysStatic "java/lang/String" "COMPACT_STRINGS" "Z" ∈ tables_1 := by decide +kernel
  have h2 : Cond.laysStatic "jdk/internal/util/Preconditions" "SIOOBE_FORMATTER" "Ljava/util/function/BiFunction;" ∈ tables_1 := by decide +kernel
  have h3 : Cond.initialized "java/lang/String" ∈ tables_1 := by decide +kernel
  have h4 : Cond.initialized "jdk/internal/util/Preconditions" ∈ tables_1 := by decide +kernel
  have h5 : Cond.eq (.static "java/lang/String" "COMPACT_STRINGS" "Z") (.int 1) ∈ flatC (Jvm.Cond.and given_1 narrow_1) := by decide +kernel
  have h6 : Cond.isRef (.static "jdk/internal/util/Preconditions" "SIOOBE_FORMATTER" "Ljava/util/function/BiFunction;") ∈ flatC (Jvm.Cond.and given_1 narrow_1) := by decide +kernel
  exact ⟨va_Zof (h _ (List.mem_append_right _ h1)) (h _ (List.mem_append_right _ h3)) (va_eqt (hg _ h5)) hA, va_Zqof (h _ (List.mem_append_right _ h2)) (h _ (List.mem_append_right _ h4)) (hg _ h6) hA⟩
theorem st_decl (h : ∀ w ∈ lw_tbl, w.before args s = true) : ∀ x ∈ g_decl, va_Nw (.declares x) s := by
  have hm : ∀ x ∈ g_decl, Cond.declares x ∈ tables_1 := by decide +kernel
  exact fun x hx => va_Nw.of rfl (h _ (List.mem_append_right _ (hm x hx)))
theorem st_dg (h : ∀ w ∈ lw_tbl, w.before args s = true) (hg : ∀ w ∈ flatC (Jvm.Cond.and given_1 narrow_1), w.before args s = true) {A : Nat → Prop} (hA : ∀ a : Nat, a < s.heap.size → ¬ A a) : ∃ dO dT : Nat, (va_Z "java/lang/Integer" "DigitOnes" "[B" (.ref dO) A s s.heap ∧ va_T .byte dO 100 (fun j => .int (g_dgO j)) A s s.heap) ∧ va_Z "java/lang/Integer" "DigitTens" "[B" (.ref dT) A s s.heap ∧ va_T .byte dT 100 (fun j => .int (g_dgT j)) A s s.heap := by
  have h0 : Cond.initialized "java/lang/Integer" ∈ tables_1 := by decide +kernel
  have a1 : Cond.laysStatic "java/lang/Integer" "DigitOnes" "[B" ∈ tables_1 := by decide +kernel
  have a2 : Cond.arrayOf (.static "java/lang/Integer" "DigitOnes" "[B") .byte ∈ flatC (Jvm.Cond.and given_1 narrow_1) := by decide +kernel
  have a3 : Cond.eq (.length (.static "java/lang/Integer" "DigitOnes" "[B")) (.int (Int32.ofNat 100)) ∈ flatC (Jvm.Cond.and given_1 narrow_1) := by decide +kernel
  have a7 : ((flatC (Jvm.Cond.and given_1 narrow_1)).drop 14).take 100 = (List.range 100).map (fun j => Cond.eq (.elem (.static "java/lang/Integer" "DigitOnes" "[B") (.int (Int32.ofNat j))) (.int (g_dgO j))) := by decide +kernel
  have a4 : ∀ j, j < 100 → Cond.eq (.elem (.static "java/lang/Integer" "DigitOnes" "[B") (.int (Int32.ofNat j))) (.int (g_dgO j)) ∈ flatC (Jvm.Cond.and given_1 narrow_1) := fun j hj => List.mem_of_mem_drop (List.mem_of_mem_take (by rw [a7]; exact List.mem_map.mpr ⟨j, List.mem_range.mpr hj, rfl⟩))
  obtain ⟨at', a5, a6⟩ := va_Tof (tm := .static "java/lang/Integer" "DigitOnes" "[B") (f := fun j => .int (g_dgO j)) (A := A) (by decide) (hg _ a2) (va_eqt (hg _ a3)) (fun j hj => va_eqt (hg _ (a4 j hj))) hA
  have b1 : Cond.laysStatic "java/lang/Integer" "DigitTens" "[B" ∈ tables_1 := by decide +kernel
  have b2 : Cond.arrayOf (.static "java/lang/Integer" "DigitTens" "[B") .byte ∈ flatC (Jvm.Cond.and given_1 narrow_1) := by decide +kernel
  have b3 : Cond.eq (.length (.static "java/lang/Integer" "DigitTens" "[B")) (.int (Int32.ofNat 100)) ∈ flatC (Jvm.Cond.and given_1 narrow_1) := by decide +kernel
  have b7 : ((flatC (Jvm.Cond.and given_1 narrow_1)).drop 117).take 100 = (List.range 100).map (fun j => Cond.eq (.elem (.static "java/lang/Integer" "DigitTens" "[B") (.int (Int32.ofNat j))) (.int (g_dgT j))) := by decide +kernel
  have b4 : ∀ j, j < 100 → Cond.eq (.elem (.static "java/lang/Integer" "DigitTens" "[B") (.int (Int32.ofNat j))) (.int (g_dgT j)) ∈ flatC (Jvm.Cond.and given_1 narrow_1) := fun j hj => List.mem_of_mem_drop (List.mem_of_mem_take (by rw [b7]; exact List.mem_map.mpr ⟨j, List.mem_range.mpr hj, rfl⟩))
  obtain ⟨bt, b5, b6⟩ := va_Tof (tm := .static "java/lang/Integer" "DigitTens" "[B") (f := fun j => .int (g_dgT j)) (A := A) (by decide) (hg _ b2) (va_eqt (hg _ b3)) (fun j hj => va_eqt (hg _ (b4 j hj))) hA
  exact ⟨at', bt, ⟨va_Zof (h _ (List.mem_append_right _ a1)) (h _ (List.mem_append_right _ h0)) a5 hA, a6⟩, va_Zof (h _ (List.mem_append_right _ b1)) (h _ (List.mem_append_right _ h0)) b5 hA, b6⟩
end ST
