/-! the start: arrays, Strings -/
section SV
variable {s : State} {args : Array Value}
theorem st_arr (h : ∀ w ∈ gw, w.before args s = true) (h2 : ∀ w ∈ lw_tbl, w.before args s = true) : ∃ f : Nat → ClassId, ∀ c, 8 ≤ c → c ≤ 17 → ArrOfT s (f c) (g_et c) ∧ va_RA s (f c) (g_et c) := by
  have k : ∀ c, ∃ cA : ClassId, 8 ≤ c → c ≤ 17 → ArrOfT s cA (g_et c) ∧ va_RA s cA (g_et c) := by
    have a1 : Cond.arrayOver (.object "HeapGames$Rule") ∈ tables_1 := by decide +kernel
    have a2 : Cond.arrayOver (.object "HeapGames$State") ∈ tables_1 := by decide +kernel
    intro c
    by_cases hc : 8 ≤ c ∧ c ≤ 17
    · rcases (show c = 8 ∨ c = 9 ∨ c = 10 ∨ c = 11 ∨ c = 12 ∨ c = 13 ∨ c = 14 ∨ c = 15 ∨ c = 16 ∨ c = 17 by omega) with rfl | rfl | rfl | rfl | rfl | rfl | rfl | rfl | rfl | rfl
      · obtain ⟨cA, kA, comp, q1, q2, q3⟩ := Cond.arrayClass_spec (h _ arrc_8)
        exact ⟨cA, fun _ _ => ⟨fun n z => ⟨fun k h => (by cases h), kA, q2, comp, q3⟩, q1⟩⟩
      · obtain ⟨cA, kA, comp, q1, q2, q3⟩ := Cond.arrayClass_spec (h _ arrc_8)
        exact ⟨cA, fun _ _ => ⟨fun n z => ⟨fun k h => (by cases h), kA, q2, comp, q3⟩, q1⟩⟩
      · obtain ⟨cA, kA, comp, q1, q2, q3⟩ := Cond.arrayClass_spec (h _ arrc_10)
        exact ⟨cA, fun _ _ => ⟨fun n z => ⟨fun k h => (by cases h), kA, q2, comp, q3⟩, q1⟩⟩
      · obtain ⟨cA, kA, comp, q1, q2, q3⟩ := Cond.arrayClass_spec (h _ arrc_11)
        exact ⟨cA, fun _ _ => ⟨fun n z => ⟨fun k h => (by cases h), kA, q2, comp, q3⟩, q1⟩⟩
      · obtain ⟨cA, kA, comp, q1, q2, q3⟩ := Cond.arrayClass_spec (h _ arrc_8)
        exact ⟨cA, fun _ _ => ⟨fun n z => ⟨fun k h => (by cases h), kA, q2, comp, q3⟩, q1⟩⟩
      · obtain ⟨comp, cA, kA, q1, q2, q3, q4, q5⟩ := Cond.arrayOver_spec (h2 _ (List.mem_append_right _ a1))
        exact ⟨cA, fun _ _ => ⟨fun n z => ⟨fun k h => (by cases h), kA, q3, comp, q4⟩, ⟨kA, comp, q3, q4, q1, q5⟩⟩⟩
      · obtain ⟨comp, cA, kA, q1, q2, q3, q4, q5⟩ := Cond.arrayOver_spec (h2 _ (List.mem_append_right _ a2))
        exact ⟨cA, fun _ _ => ⟨fun n z => ⟨fun k h => (by cases h), kA, q3, comp, q4⟩, ⟨kA, comp, q3, q4, q1, q5⟩⟩⟩
      · obtain ⟨cA, kA, comp, q1, q2, q3⟩ := Cond.arrayClass_spec (h _ arrc_11)
        exact ⟨cA, fun _ _ => ⟨fun n z => ⟨fun k h => (by cases h), kA, q2, comp, q3⟩, q1⟩⟩
      · obtain ⟨cA, kA, comp, q1, q2, q3⟩ := Cond.arrayClass_spec (h _ arrc_8)
        exact ⟨cA, fun _ _ => ⟨fun n z => ⟨fun k h => (by cases h), kA, q2, comp, q3⟩, q1⟩⟩
      · obtain ⟨cA, kA, comp, q1, q2, q3⟩ := Cond.arrayClass_spec (h _ arrc_10)
        exact ⟨cA, fun _ _ => ⟨fun n z => ⟨fun k h => (by cases h), kA, q2, comp, q3⟩, q1⟩⟩
    · obtain ⟨cA, kA, comp, q1, q2, q3⟩ := Cond.arrayClass_spec (h _ arrc_8)
      exact ⟨cA, fun a b => absurd ⟨a, b⟩ hc⟩
  obtain ⟨f, hf⟩ := Classical.axiomOfChoice k
  exact ⟨f, hf⟩
def tmW (i : Nat) : Term := .string (if i < 10 ∧ i ≠ 5 then RX5 else RL) ([59, 68, 73, 78, 83, 40, 170, 172, 174, 176, 15, 26, 32, 34, 36, 38, 45, 52, 54, 56, 58].getD i 0)
def wPI : List Nat := [535, 593, 601, 611, 621, 455, 552, 564, 572, 582, 396, 405, 410, 423, 432, 443, 463, 468, 477, 488, 499]
theorem fl_w : ∀ i, i < 21 → ((flatC (Jvm.Cond.and given_1 narrow_1)).drop (wPI.getD i 0)).take (4 + g_wl.getD i 0) = [Cond.exactly (tmW i) "java/lang/String", Cond.eq (.field (tmW i) "java/lang/String" "coder" "B") (.int 0), Cond.arrayOf (.field (tmW i) "java/lang/String" "value" "[B") .byte, Cond.eq (.length (.field (tmW i) "java/lang/String" "value" "[B")) (.int (Int32.ofNat (g_wl.getD i 0)))] ++ (List.range (g_wl.getD i 0)).map (fun j => Cond.eq (.elem (.field (tmW i) "java/lang/String" "value" "[B") (.int (Int32.ofNat j))) (.int ((g_wb.getD i []).getD j 0))) := by decide +kernel
theorem fl_m {i : Nat} (hi : i < 21) {w : Cond} (h : w ∈ [Cond.exactly (tmW i) "java/lang/String", Cond.eq (.field (tmW i) "java/lang/String" "coder" "B") (.int 0), Cond.arrayOf (.field (tmW i) "java/lang/String" "value" "[B") .byte, Cond.eq (.length (.field (tmW i) "java/lang/String" "value" "[B")) (.int (Int32.ofNat (g_wl.getD i 0)))] ++ (List.range (g_wl.getD i 0)).map (fun j => Cond.eq (.elem (.field (tmW i) "java/lang/String" "value" "[B") (.int (Int32.ofNat j))) (.int ((g_wb.getD i []).getD j 0)))) : w ∈ flatC (Jvm.Cond.and given_1 narrow_1) := by
  rw [← fl_w i hi] at h
  exact List.mem_of_mem_drop (List.mem_of_mem_take h)
theorem g_wne : ∀ i, i < 21 → ∀ j, j < 21 → i ≠ j → g_wl.getD i 0 ≠ g_wl.getD j 0 ∨ ∃ q, q < 8 ∧ q < g_wl.getD i 0 ∧ q < g_wl.getD j 0 ∧ (g_wb.getD i []).getD q 0 ≠ (g_wb.getD j []).getD q 0 := by decide +kernel
theorem st_ws (hg : ∀ w ∈ flatC (Jvm.Cond.and given_1 narrow_1), w.before args s = true) {A : Nat → Prop} (hA : ∀ a : Nat, a < s.heap.size → ¬ A a) : ∃ adK adV : Nat → Nat, vk_S 21 g_wl g_wb adK adV A s s.heap ∧ ∀ i : Nat, i < 21 → (tmW i).eval args s none [] s = some (.ref (adK i)) := by
  have hN : ∀ i : Nat, i < 21 → g_wl.getD i 0 < 2 ^ 31 := by decide +kernel
  have f1 : ∀ i, i < 21 → Cond.exactly (tmW i) "java/lang/String" ∈ flatC (Jvm.Cond.and given_1 narrow_1) := fun i hi => fl_m hi (List.mem_append_left _ (List.mem_cons_self))
  have f2 : ∀ i, i < 21 → Cond.eq (.field (tmW i) "java/lang/String" "coder" "B") (.int 0) ∈ flatC (Jvm.Cond.and given_1 narrow_1) := fun i hi => fl_m hi (List.mem_append_left _ (List.mem_cons_of_mem _ List.mem_cons_self))
  have f3 : ∀ i, i < 21 → Cond.arrayOf (.field (tmW i) "java/lang/String" "value" "[B") .byte ∈ flatC (Jvm.Cond.and given_1 narrow_1) := fun i hi => fl_m hi (List.mem_append_left _ (List.mem_cons_of_mem _ (List.mem_cons_of_mem _ List.mem_cons_self)))
  have f4 : ∀ i, i < 21 → Cond.eq (.length (.field (tmW i) "java/lang/String" "value" "[B")) (.int (Int32.ofNat (g_wl.getD i 0))) ∈ flatC (Jvm.Cond.and given_1 narrow_1) := fun i hi => fl_m hi (List.mem_append_left _ (List.mem_cons_of_mem _ (List.mem_cons_of_mem _ (List.mem_cons_of_mem _ List.mem_cons_self))))
  have f5 : ∀ i, i < 21 → ∀ j, j < g_wl.getD i 0 → Cond.eq (.elem (.field (tmW i) "java/lang/String" "value" "[B") (.int (Int32.ofNat j))) (.int ((g_wb.getD i []).getD j 0)) ∈ flatC (Jvm.Cond.and given_1 narrow_1) := fun i hi j hj => fl_m hi (List.mem_append_right _ (List.mem_map.mpr ⟨j, List.mem_range.mpr hj, rfl⟩))
  refine vk_Sof hN (fun i hi => hg _ (f1 i hi)) (fun i hi => hg _ (f2 i hi)) (fun i hi => hg _ (f3 i hi)) (fun i hi => hg _ (f4 i hi)) (fun i hi j hj => hg _ (f5 i hi j hj)) (fun i j hi hj hij => Or.inl ?_) hA
  obtain ⟨a, c, cA, kA, q1, -⟩ := Cond.exactly_spec (args := args) (first := s) (o := none) (s := s) (idx := []) (t := tmW i) (cls := "java/lang/String") (hg _ (f1 i hi))
  obtain ⟨b, c', cB, kB, r1, -⟩ := Cond.exactly_spec (args := args) (first := s) (o := none) (s := s) (idx := []) (t := tmW j) (cls := "java/lang/String") (hg _ (f1 j hj))
  obtain ⟨t, t1, t2⟩ := va_Tof (f := fun q => .int ((g_wb.getD i []).getD q 0)) (A := A) (hN i hi) (hg _ (f3 i hi)) (va_eqt (hg _ (f4 i hi))) (fun q hq => va_eqt (hg _ (f5 i hi q hq))) hA
  obtain ⟨u, u1, u2⟩ := va_Tof (f := fun q => .int ((g_wb.getD j []).getD q 0)) (A := A) (hN j hj) (hg _ (f3 j hj)) (va_eqt (hg _ (f4 j hj))) (fun q hq => va_eqt (hg _ (f5 j hj q hq))) hA
  have hab : a ≠ b := by
    intro e
    subst e
    have e1 : t = u := by
      rw [va_fe q1] at t1
      rw [va_fe r1, t1] at u1
      cases u1
      rfl
    subst e1
    obtain ⟨x, x1, x2, x3, x4, x5, x6⟩ := t2
    obtain ⟨y, y1, y2, y3, y4, y5, y6⟩ := u2
    cases x1.symm.trans y1
    rcases g_wne i hi j hj hij with w | ⟨q, q8, qi, qj, w⟩
    · have e2 : nI (g_wl.getD i 0) = nI (g_wl.getD j 0) := x5.symm.trans y5
      exact w (n_eq e2 (hN i hi) (hN j hj))
    · have e3 := (x6.1 q qi).symm.trans (y6.1 q qj)
      injection e3 with e4
      injection e4 with e5
      exact w e5
  simp [Cond.before, Cond.holds, Cond.value, q1, r1, hab]
def tmS (q : String × Nat × String × Nat) : Term := .string q.1 q.2.1
theorem st_str (h : ∀ w ∈ lw_tbl, w.before args s = true) (hg : ∀ w ∈ flatC (Jvm.Cond.and given_1 narrow_1), w.before args s = true) {A : Nat → Prop} (hA : ∀ a : Nat, a < s.heap.size → ¬ A a) : ∃ adK adV : Nat → Nat, vk_S 21 g_wl g_wb adK adV A s s.heap ∧ ∀ q ∈ g_strs, ∃ a, vk_R q.1 q.2.1 q.2.2.1 a s ∧ (q.2.2.2 < 99 → q.2.2.2 < 21 ∧ a = adK q.2.2.2) := by
  obtain ⟨adK, adV, h1, h2⟩ := st_ws hg hA
  refine ⟨adK, adV, h1, fun q hq => ?_⟩
  have f0 : ∀ q ∈ g_strs, Cond.stringRef q.1 q.2.1 q.2.2.1 ∈ tables_1 := by decide +kernel
  have f1 : ∀ q ∈ g_strs, (q.2.2.2 = 99 ∧ Cond.exactly (tmS q) "java/lang/String" ∈ flatC (Jvm.Cond.and given_1 narrow_1)) ∨ (q.2.2.2 < 21 ∧ (tmS q = tmW q.2.2.2 ∨ Cond.eq (tmW q.2.2.2) (tmS q) ∈ flatC (Jvm.Cond.and given_1 narrow_1))) := by decide +kernel
  have hr := h _ (List.mem_append_right _ (f0 q hq))
  have key : ∀ a, (tmS q).eval args s none [] s = some (.ref a) → vk_R q.1 q.2.1 q.2.2.1 a s := fun a ha => vk_R.of hr ha
  rcases f1 q hq with ⟨k1, k2⟩ | ⟨k1, k2 | k2⟩
  · obtain ⟨a, c, cA, kA, q1, -⟩ := Cond.exactly_spec (args := args) (first := s) (o := none) (s := s) (idx := []) (t := tmS q) (cls := "java/lang/String") (hg _ k2)
    exact ⟨a, key a q1, fun z => absurd z (by omega)⟩
  · exact ⟨adK q.2.2.2, key _ (by rw [k2]; exact h2 _ k1), fun _ => ⟨k1, rfl⟩⟩
  · exact ⟨adK q.2.2.2, key _ (va_eqR (hg _ k2) (h2 _ k1)), fun _ => ⟨k1, rfl⟩⟩
end SV
