/-! ROWS: arrays, the script, the words, returns, calls, throws, new things -/
section GM2
variable {E : GE} {l : Launch} {μ : GM} {R : Room} {Φ : List Frame → Array Value → State → State → Prop} {uc us pc : Nat} {ls : List (Nat × Value)} {st : List Value} {w w' : GW}
theorem g_arr {o c : Nat} {H : Heap} (hR : g_Rp E w H) (hn : o < w.2.2.2.2.1) (hlv : g_lv E o) (ho : (g_ob o).1 = c) (hc : ¬ c < 8) : H[g_ad E o]? = some (arrV (E.2.1 c) (g_ob o).2 (fun k => cv E (g_val w (g_et c) o k))) := by
  have h := (hR.at hn hlv).2 (by rw [ho]; exact hc)
  rw [ho] at h
  exact h
theorem g_arrK {s : State} {H : Heap} (hK : g_K E l s H) {c : Nat} (h1 : 8 ≤ c) (h2 : c ≤ 17) : ArrOfT s (E.2.1 c) (g_et c) ∧ va_RA s (E.2.1 c) (g_et c) := hK.2.1.2 _ _ (g_tyat E h1 h2)
theorem g_inx {j N : Nat} (hj : j < N) (hN : N < 2 ^ 31) : ¬ (nI j < 0 ∨ N ≤ (nI j).toNatClampNeg) := by
  rw [nI_clamp (by omega)]
  intro h
  rcases h with h | h
  · exact absurd h (nI_pos (by omega))
  · omega
theorem w_alen {o c n : Nat} (hd : decode μ.2.1 pc = .ok (.arraylength, 1)) (ho : g_ob o = (c, n)) (hc : 8 ≤ c) (hc2 : c ≤ 17) (hn : o < w.2.2.2.2.1) (hlv : g_lv E o) (k : g_Wp E l μ R Φ uc us (pc + 1) ls (.int (nI n) :: st) w) : g_Wp E l μ R Φ uc us pc ls (.ref o :: st) w := by
  intro p e s m args below meth c9 H locs lsA C hR hS hl
  have ha := g_arr hR hn hlv (by rw [ho]) (by omega : ¬ c < 8)
  show W p l e R s m args below meth c9 H locs uc us (Φ below args s) (F0 m pc lsA (.ref (g_ad E o) :: st.map (cv E)))
  exact W.alen (n := nI n) C.1 C.2.1 ha ((g_arrK C.2.2.2.2.2.2.2.2.2.1 hc hc2).1 _ _) (by rw [arrV_size, ho]; rfl) rfl rfl hd (k p e s m args below meth c9 H locs lsA C hR hS hl)
theorem w_upV {f : Nat → Value} {o j : Nat} {v : Value} {ty : FieldType} (hw : ∀ ty o' k', ¬ (o' = o ∧ k' = j) → g_val w' ty o' k' = g_val w ty o' k') (hv : g_val w' ty o j = v) : updV (fun k => cv E (g_val w ty o k)) j (cv E v) = (fun k => cv E (g_val w' ty o k)) := by
  funext q
  by_cases hq : q = j
  · subst hq
    simp only [updV, if_true, hv]
  · simp only [updV, if_neg hq]
    rw [hw _ o q (fun z => hq z.2)]
theorem w_iald {o j : Nat} {i : Int32} (hd : decode μ.2.1 pc = .ok (.iaload, 1)) (ho : (g_ob o).1 = 8) (hn : o < w.2.2.2.2.1) (hi : i = nI j) (hj : j < (g_ob o).2) (k : g_Wp E l μ R Φ uc us (pc + 1) ls (.int (w.1 o j) :: st) w) : g_Wp E l μ R Φ uc us pc ls (.int i :: .ref o :: st) w := by
  subst hi
  intro p e s m args below meth c H locs lsA C hR hS hl
  have ha := g_arr hR hn (g_lvk ho (by decide)) ho (by decide : ¬ 8 < 8)
  show W p l e R s m args below meth c H locs uc us (Φ below args s) (F0 m pc lsA (.int (nI j) :: .ref (g_ad E o) :: st.map (cv E)))
  have hN := g_len o
  exact W.iald C.1 C.2.1 ha ((g_arrK C.2.2.2.2.2.2.2.2.2.1 (by decide : 8 ≤ 8) (by decide : 8 ≤ 17)).1 _ _) (fun q => by cases q) (by rw [arrV_size]; exact g_inx hj hN) (by rw [nI_clamp (by omega)]; exact arrV_read _ _ hj) rfl rfl hd (k p e s m args below meth c H locs lsA C hR hS hl)
theorem w_zald {o j : Nat} {i : Int32} (hd : decode μ.2.1 pc = .ok (.baload, 1)) (ho : (g_ob o).1 = 10) (hn : o < w.2.2.2.2.1) (hi : i = nI j) (hj : j < (g_ob o).2) (k : g_Wp E l μ R Φ uc us (pc + 1) ls (.int (w.1 o j) :: st) w) : g_Wp E l μ R Φ uc us pc ls (.int i :: .ref o :: st) w := by
  subst hi
  intro p e s m args below meth c H locs lsA C hR hS hl
  have ha := g_arr hR hn (g_lvk ho (by decide)) ho (by decide : ¬ 10 < 8)
  show W p l e R s m args below meth c H locs uc us (Φ below args s) (F0 m pc lsA (.int (nI j) :: .ref (g_ad E o) :: st.map (cv E)))
  have hN := g_len o
  exact W.zald C.1 C.2.1 ha ((g_arrK C.2.2.2.2.2.2.2.2.2.1 (by decide : 8 ≤ 10) (by decide : 10 ≤ 17)).1 _ _) (fun q => by cases q) (by rw [arrV_size]; exact g_inx hj hN) (by rw [nI_clamp (by omega)]; exact arrV_read _ _ hj) rfl rfl hd (k p e s m args below meth c H locs lsA C hR hS hl)
theorem w_bald {o j : Nat} {i : Int32} (hd : decode μ.2.1 pc = .ok (.baload, 1)) (ho : (g_ob o).1 = 11) (hn : o < w.2.2.2.2.1) (hi : i = nI j) (hj : j < (g_ob o).2) (k : g_Wp E l μ R Φ uc us (pc + 1) ls (.int (w.1 o j) :: st) w) : g_Wp E l μ R Φ uc us pc ls (.int i :: .ref o :: st) w := by
  subst hi
  intro p e s m args below meth c H locs lsA C hR hS hl
  have ha := g_arr hR hn (g_lvk ho (by decide)) ho (by decide : ¬ 11 < 8)
  show W p l e R s m args below meth c H locs uc us (Φ below args s) (F0 m pc lsA (.int (nI j) :: .ref (g_ad E o) :: st.map (cv E)))
  have hN := g_len o
  exact W.bald C.1 C.2.1 ha ((g_arrK C.2.2.2.2.2.2.2.2.2.1 (by decide : 8 ≤ 11) (by decide : 11 ≤ 17)).1 _ _) (fun q => by cases q) (by rw [arrV_size]; exact g_inx hj hN) (by rw [nI_clamp (by omega)]; exact arrV_read _ _ hj) rfl rfl hd (k p e s m args below meth c H locs lsA C hR hS hl)
theorem w_aald13 {o j a : Nat} {i : Int32} (hd : decode μ.2.1 pc = .ok (.aaload, 1)) (ho : (g_ob o).1 = 13) (hn : o < w.2.2.2.2.1) (hi : i = nI j) (hj : j < (g_ob o).2) (hv : w.2.2.1 o j = some a) (k : g_Wp E l μ R Φ uc us (pc + 1) ls (.ref a :: st) w) : g_Wp E l μ R Φ uc us pc ls (.int i :: .ref o :: st) w := by
  subst hi
  intro p e s m args below meth c H locs lsA C hR hS hl
  have ha := g_arr hR hn (g_lvk ho (by decide)) ho (by decide : ¬ 13 < 8)
  show W p l e R s m args below meth c H locs uc us (Φ below args s) (F0 m pc lsA (.int (nI j) :: .ref (g_ad E o) :: st.map (cv E)))
  have hN := g_len o
  refine W.aald (v := cv E (.ref a)) (ty := .object "HeapGames$Rule") C.1 C.2.1 ha ((g_arrK C.2.2.2.2.2.2.2.2.2.1 (by decide : 8 ≤ 13) (by decide : 13 ≤ 17)).1 _ _) rfl (fun q => by cases q) (by rw [arrV_size]; exact g_inx hj hN) ?_ rfl rfl hd (k p e s m args below meth c H locs lsA C hR hS hl)
  rw [nI_clamp (by omega), arrV_read _ _ hj]
  show some (cv E (va_rf (w.2.2.1 o j))) = _
  rw [hv]
  rfl
theorem w_aald14 {o j a : Nat} {i : Int32} (hd : decode μ.2.1 pc = .ok (.aaload, 1)) (ho : (g_ob o).1 = 14) (hn : o < w.2.2.2.2.1) (hi : i = nI j) (hj : j < (g_ob o).2) (hv : w.2.2.1 o j = some a) (k : g_Wp E l μ R Φ uc us (pc + 1) ls (.ref a :: st) w) : g_Wp E l μ R Φ uc us pc ls (.int i :: .ref o :: st) w := by
  subst hi
  intro p e s m args below meth c H locs lsA C hR hS hl
  have ha := g_arr hR hn (g_lvk ho (by decide)) ho (by decide : ¬ 14 < 8)
  show W p l e R s m args below meth c H locs uc us (Φ below args s) (F0 m pc lsA (.int (nI j) :: .ref (g_ad E o) :: st.map (cv E)))
  have hN := g_len o
  refine W.aald (v := cv E (.ref a)) (ty := .object "HeapGames$State") C.1 C.2.1 ha ((g_arrK C.2.2.2.2.2.2.2.2.2.1 (by decide : 8 ≤ 14) (by decide : 14 ≤ 17)).1 _ _) rfl (fun q => by cases q) (by rw [arrV_size]; exact g_inx hj hN) ?_ rfl rfl hd (k p e s m args below meth c H locs lsA C hR hS hl)
  rw [nI_clamp (by omega), arrV_read _ _ hj]
  show some (cv E (va_rf (w.2.2.1 o j))) = _
  rw [hv]
  rfl
theorem w_iast {o j : Nat} {i : Int32} {x : Int32} (hd : decode μ.2.1 pc = .ok (.iastore, 1)) (ho : (g_ob o).1 = 8) (hn : o < w.2.2.2.2.1) (hi : i = nI j) (hj : j < (g_ob o).2) (k : g_Wp E l μ R Φ uc us (pc + 1) ls st (up2 w.1 o j x, w.2)) : g_Wp E l μ R Φ uc us pc ls (.int x :: .int i :: .ref o :: st) w := by
  subst hi
  intro p e s m args below meth c H locs lsA C hR hS hl
  have ha := g_arr hR hn (g_lvk ho (by decide)) ho (by decide : ¬ 8 < 8)
  show W p l e R s m args below meth c H locs uc us (Φ below args s) (F0 m pc lsA (.int x :: .int (nI j) :: .ref (g_ad E o) :: st.map (cv E)))
  have hN := g_len o
  have hj2 : (nI j).toNatClampNeg = j := nI_clamp (by omega)
  refine W.iast C.1 C.2.1 ha ((g_arrK C.2.2.2.2.2.2.2.2.2.1 (by decide : 8 ≤ 8) (by decide : 8 ≤ 17)).1 _ _) (fun q => by cases q) (by rw [arrV_size]; exact g_inx hj hN) rfl rfl hd fun H1 e1 z oq => ?_
  rw [hj2] at e1 ⊢
  refine k p e s m args below meth c H1 _ lsA C (hR.put (o := o) (k := j) hn (g_lvk ho (by decide)) rfl (up_I w o j x) z oq ⟨fun h => absurd h (by rw [ho]; decide), fun _ => ?_⟩) (hS.put z oq (hR.ge hn (g_lvk ho (by decide)))) hl
  rw [e1, arrV_store, ho]
  congr 2
  exact w_upV (f := fun _ => .null) (v := .int x) (ty := g_et 8) (up_I w o j x) (by show Value.int (up2 w.1 o j x o j) = _; rw [up2_s])
theorem w_bast {o j : Nat} {i : Int32} {x : Int32} (hd : decode μ.2.1 pc = .ok (.bastore, 1)) (ho : (g_ob o).1 = 11) (hn : o < w.2.2.2.2.1) (hi : i = nI j) (hj : j < (g_ob o).2) (k : g_Wp E l μ R Φ uc us (pc + 1) ls st (up2 w.1 o j x.toInt8.toInt32, w.2)) : g_Wp E l μ R Φ uc us pc ls (.int x :: .int i :: .ref o :: st) w := by
  subst hi
  intro p e s m args below meth c H locs lsA C hR hS hl
  have ha := g_arr hR hn (g_lvk ho (by decide)) ho (by decide : ¬ 11 < 8)
  show W p l e R s m args below meth c H locs uc us (Φ below args s) (F0 m pc lsA (.int x :: .int (nI j) :: .ref (g_ad E o) :: st.map (cv E)))
  have hN := g_len o
  have hj2 : (nI j).toNatClampNeg = j := nI_clamp (by omega)
  refine W.bast C.1 C.2.1 ha ((g_arrK C.2.2.2.2.2.2.2.2.2.1 (by decide : 8 ≤ 11) (by decide : 11 ≤ 17)).1 _ _) (fun q => by cases q) (by rw [arrV_size]; exact g_inx hj hN) rfl rfl hd fun H1 e1 z oq => ?_
  rw [hj2] at e1 ⊢
  rw [narrow_byte] at e1
  refine k p e s m args below meth c H1 _ lsA C (hR.put (o := o) (k := j) hn (g_lvk ho (by decide)) rfl (up_I w o j x.toInt8.toInt32) z oq ⟨fun h => absurd h (by rw [ho]; decide), fun _ => ?_⟩) (hS.put z oq (hR.ge hn (g_lvk ho (by decide)))) hl
  rw [e1, arrV_store, ho]
  congr 2
  exact w_upV (f := fun _ => .null) (v := .int x.toInt8.toInt32) (ty := g_et 11) (up_I w o j x.toInt8.toInt32) (by show Value.int (up2 w.1 o j x.toInt8.toInt32 o j) = _; rw [up2_s])
theorem w_zast {o j : Nat} {i : Int32} {x : Int32} (hd : decode μ.2.1 pc = .ok (.bastore, 1)) (ho : (g_ob o).1 = 10) (hn : o < w.2.2.2.2.1) (hi : i = nI j) (hj : j < (g_ob o).2) (hx : x = 0 ∨ x = 1) (k : g_Wp E l μ R Φ uc us (pc + 1) ls st (up2 w.1 o j x, w.2)) : g_Wp E l μ R Φ uc us pc ls (.int x :: .int i :: .ref o :: st) w := by
  subst hi
  intro p e s m args below meth c H locs lsA C hR hS hl
  have ha := g_arr hR hn (g_lvk ho (by decide)) ho (by decide : ¬ 10 < 8)
  show W p l e R s m args below meth c H locs uc us (Φ below args s) (F0 m pc lsA (.int x :: .int (nI j) :: .ref (g_ad E o) :: st.map (cv E)))
  have hN := g_len o
  have hj2 : (nI j).toNatClampNeg = j := nI_clamp (by omega)
  refine W.zast C.1 C.2.1 ha ((g_arrK C.2.2.2.2.2.2.2.2.2.1 (by decide : 8 ≤ 10) (by decide : 10 ≤ 17)).1 _ _) (fun q => by cases q) (by rw [arrV_size]; exact g_inx hj hN) rfl rfl hd fun H1 e1 z oq => ?_
  rw [hj2] at e1 ⊢
  have hnr : narrow .boolean (.int x) = .int x := by rcases hx with rfl | rfl <;> rfl
  rw [hnr] at e1
  refine k p e s m args below meth c H1 _ lsA C (hR.put (o := o) (k := j) hn (g_lvk ho (by decide)) rfl (up_I w o j x) z oq ⟨fun h => absurd h (by rw [ho]; decide), fun _ => ?_⟩) (hS.put z oq (hR.ge hn (g_lvk ho (by decide)))) hl
  rw [e1, arrV_store, ho]
  congr 2
  exact w_upV (f := fun _ => .null) (v := .int x) (ty := g_et 10) (up_I w o j x) (by show Value.int (up2 w.1 o j x o j) = _; rw [up2_s])
theorem w_aast13 {o j a : Nat} {i : Int32} (hd : decode μ.2.1 pc = .ok (.aastore, 1)) (ho : (g_ob o).1 = 13) (hn : o < w.2.2.2.2.1) (hi : i = nI j) (hj : j < (g_ob o).2) (ha2 : (g_ob a).1 = 2) (hn2 : a < w.2.2.2.2.1) (k : g_Wp E l μ R Φ uc us (pc + 1) ls st (w.1, w.2.1, up2 w.2.2.1 o j (some a), w.2.2.2)) : g_Wp E l μ R Φ uc us pc ls (.ref a :: .int i :: .ref o :: st) w := by
  subst hi
  intro p e s m args below meth c H locs lsA C hR hS hl
  have ha := g_arr hR hn (g_lvk ho (by decide)) ho (by decide : ¬ 13 < 8)
  show W p l e R s m args below meth c H locs uc us (Φ below args s) (F0 m pc lsA (.ref (g_ad E a) :: .int (nI j) :: .ref (g_ad E o) :: st.map (cv E)))
  have hN := g_len o
  have hj2 : (nI j).toNatClampNeg = j := nI_clamp (by omega)
  have hK := C.2.2.2.2.2.2.2.2.2.1
  have hat := (hR.at hn2 (g_lvk ha2 (by decide))).1 (by rw [ha2]; decide)
  rw [ha2] at hat
  obtain ⟨cellV, g1, g2, g3, -⟩ := hat
  have hcls := (hK.2.1.1 2 _ (g_clat (by decide))).2
  obtain ⟨kA, comp, k1, k2, k3, -⟩ := (g_arrK hK (by decide : 8 ≤ 13) (by decide : 13 ≤ 17)).2
  have hcomp : comp = E.1.1 2 := Option.some.inj (k3.symm.trans hcls.1)
  subst hcomp
  obtain ⟨kC, hkC, -⟩ := hcls.2
  refine W.aast C.1 C.2.1 ha (fun q h => by cases h) (fun h => by cases h) k1 k2 rfl hkC ⟨nI_pos (by omega), by rw [arrV_size, hj2]; exact hj⟩ g1 (fun q h => by rw [g3] at h; cases h) (by rw [g2]; exact hkC) (by rw [g2]; exact va_assign hcls) rfl rfl hd fun H1 e1 z oq => ?_
  rw [hj2] at e1 ⊢
  refine k p e s m args below meth c H1 _ lsA C (hR.put (o := o) (k := j) hn (g_lvk ho (by decide)) rfl (up_R w o j (some a)) z oq ⟨fun h => absurd h (by rw [ho]; decide), fun _ => ?_⟩) (hS.put z oq (hR.ge hn (g_lvk ho (by decide)))) hl
  rw [e1, arrV_store, ho]
  congr 2
  have := w_upV (E := E) (w := w) (f := fun _ => .null) (v := .ref a) (ty := g_et 13) (up_R w o j (some a)) (by show va_rf (up2 w.2.2.1 o j (some a) o j) = _; rw [up2_s]; rfl)
  rw [← this]
  rfl
theorem w_aast14 {o j a : Nat} {i : Int32} (hd : decode μ.2.1 pc = .ok (.aastore, 1)) (ho : (g_ob o).1 = 14) (hn : o < w.2.2.2.2.1) (hi : i = nI j) (hj : j < (g_ob o).2) (ha2 : (g_ob a).1 = 4) (hn2 : a < w.2.2.2.2.1) (k : g_Wp E l μ R Φ uc us (pc + 1) ls st (w.1, w.2.1, up2 w.2.2.1 o j (some a), w.2.2.2)) : g_Wp E l μ R Φ uc us pc ls (.ref a :: .int i :: .ref o :: st) w := by
  subst hi
  intro p e s m args below meth c H locs lsA C hR hS hl
  have ha := g_arr hR hn (g_lvk ho (by decide)) ho (by decide : ¬ 14 < 8)
  show W p l e R s m args below meth c H locs uc us (Φ below args s) (F0 m pc lsA (.ref (g_ad E a) :: .int (nI j) :: .ref (g_ad E o) :: st.map (cv E)))
  have hN := g_len o
  have hj2 : (nI j).toNatClampNeg = j := nI_clamp (by omega)
  have hK := C.2.2.2.2.2.2.2.2.2.1
  have hat := (hR.at hn2 (g_lvk ha2 (by decide))).1 (by rw [ha2]; decide)
  rw [ha2] at hat
  obtain ⟨cellV, g1, g2, g3, -⟩ := hat
  have hcls := (hK.2.1.1 4 _ (g_clat (by decide))).2
  obtain ⟨kA, comp, k1, k2, k3, -⟩ := (g_arrK hK (by decide : 8 ≤ 14) (by decide : 14 ≤ 17)).2
  have hcomp : comp = E.1.1 4 := Option.some.inj (k3.symm.trans hcls.1)
  subst hcomp
  obtain ⟨kC, hkC, -⟩ := hcls.2
  refine W.aast C.1 C.2.1 ha (fun q h => by cases h) (fun h => by cases h) k1 k2 rfl hkC ⟨nI_pos (by omega), by rw [arrV_size, hj2]; exact hj⟩ g1 (fun q h => by rw [g3] at h; cases h) (by rw [g2]; exact hkC) (by rw [g2]; exact va_assign hcls) rfl rfl hd fun H1 e1 z oq => ?_
  rw [hj2] at e1 ⊢
  refine k p e s m args below meth c H1 _ lsA C (hR.put (o := o) (k := j) hn (g_lvk ho (by decide)) rfl (up_R w o j (some a)) z oq ⟨fun h => absurd h (by rw [ho]; decide), fun _ => ?_⟩) (hS.put z oq (hR.ge hn (g_lvk ho (by decide)))) hl
  rw [e1, arrV_store, ho]
  congr 2
  have := w_upV (E := E) (w := w) (f := fun _ => .null) (v := .ref a) (ty := g_et 14) (up_R w o j (some a)) (by show va_rf (up2 w.2.2.1 o j (some a) o j) = _; rw [up2_s]; rfl)
  rw [← this]
  rfl
theorem w_iald16 {o j : Nat} {i : Int32} (hd : decode μ.2.1 pc = .ok (.iaload, 1)) (ho : (g_ob o).1 = 16) (hn : o < w.2.2.2.2.1) (hlv : g_lv E o) (hi : i = nI j) (hj : j < (g_ob o).2) (k : g_Wp E l μ R Φ uc us (pc + 1) ls (.int (w.1 o j) :: st) w) : g_Wp E l μ R Φ uc us pc ls (.int i :: .ref o :: st) w := by
  subst hi
  intro p e s m args below meth c H locs lsA C hR hS hl
  have ha := g_arr hR hn hlv ho (by decide : ¬ 16 < 8)
  show W p l e R s m args below meth c H locs uc us (Φ below args s) (F0 m pc lsA (.int (nI j) :: .ref (g_ad E o) :: st.map (cv E)))
  have hN := g_len o
  exact W.iald C.1 C.2.1 ha ((g_arrK C.2.2.2.2.2.2.2.2.2.1 (by decide : 8 ≤ 16) (by decide : 16 ≤ 17)).1 _ _) (fun q => by cases q) (by rw [arrV_size]; exact g_inx hj hN) (by rw [nI_clamp (by omega)]; exact arrV_read _ _ hj) rfl rfl hd (k p e s m args below meth c H locs lsA C hR hS hl)
theorem w_iast16 {o j : Nat} {i : Int32} {x : Int32} (hd : decode μ.2.1 pc = .ok (.iastore, 1)) (ho : (g_ob o).1 = 16) (hn : o < w.2.2.2.2.1) (hlv : g_lv E o) (hi : i = nI j) (hj : j < (g_ob o).2) (k : g_Wp E l μ R Φ uc us (pc + 1) ls st (up2 w.1 o j x, w.2)) : g_Wp E l μ R Φ uc us pc ls (.int x :: .int i :: .ref o :: st) w := by
  subst hi
  intro p e s m args below meth c H locs lsA C hR hS hl
  have ha := g_arr hR hn hlv ho (by decide : ¬ 16 < 8)
  show W p l e R s m args below meth c H locs uc us (Φ below args s) (F0 m pc lsA (.int x :: .int (nI j) :: .ref (g_ad E o) :: st.map (cv E)))
  have hN := g_len o
  have hj2 : (nI j).toNatClampNeg = j := nI_clamp (by omega)
  refine W.iast C.1 C.2.1 ha ((g_arrK C.2.2.2.2.2.2.2.2.2.1 (by decide : 8 ≤ 16) (by decide : 16 ≤ 17)).1 _ _) (fun q => by cases q) (by rw [arrV_size]; exact g_inx hj hN) rfl rfl hd fun H1 e1 z oq => ?_
  rw [hj2] at e1 ⊢
  refine k p e s m args below meth c H1 _ lsA C (hR.put (o := o) (k := j) hn hlv rfl (up_I w o j x) z oq ⟨fun h => absurd h (by rw [ho]; decide), fun _ => ?_⟩) (hS.put z oq (hR.ge hn hlv)) hl
  rw [e1, arrV_store, ho]
  congr 2
  exact w_upV (f := fun _ => .null) (v := .int x) (ty := g_et 16) (up_I w o j x) (by show Value.int (up2 w.1 o j x o j) = _; rw [up2_s])
theorem w_zald17 {o j : Nat} {i : Int32} (hd : decode μ.2.1 pc = .ok (.baload, 1)) (ho : (g_ob o).1 = 17) (hn : o < w.2.2.2.2.1) (hlv : g_lv E o) (hi : i = nI j) (hj : j < (g_ob o).2) (k : g_Wp E l μ R Φ uc us (pc + 1) ls (.int (w.1 o j) :: st) w) : g_Wp E l μ R Φ uc us pc ls (.int i :: .ref o :: st) w := by
  subst hi
  intro p e s m args below meth c H locs lsA C hR hS hl
  have ha := g_arr hR hn hlv ho (by decide : ¬ 17 < 8)
  show W p l e R s m args below meth c H locs uc us (Φ below args s) (F0 m pc lsA (.int (nI j) :: .ref (g_ad E o) :: st.map (cv E)))
  have hN := g_len o
  exact W.zald C.1 C.2.1 ha ((g_arrK C.2.2.2.2.2.2.2.2.2.1 (by decide : 8 ≤ 17) (by decide : 17 ≤ 17)).1 _ _) (fun q => by cases q) (by rw [arrV_size]; exact g_inx hj hN) (by rw [nI_clamp (by omega)]; exact arrV_read _ _ hj) rfl rfl hd (k p e s m args below meth c H locs lsA C hR hS hl)
theorem w_zast17 {o j : Nat} {i : Int32} {x : Int32} (hd : decode μ.2.1 pc = .ok (.bastore, 1)) (ho : (g_ob o).1 = 17) (hn : o < w.2.2.2.2.1) (hlv : g_lv E o) (hi : i = nI j) (hj : j < (g_ob o).2) (hx : x = 0 ∨ x = 1) (k : g_Wp E l μ R Φ uc us (pc + 1) ls st (up2 w.1 o j x, w.2)) : g_Wp E l μ R Φ uc us pc ls (.int x :: .int i :: .ref o :: st) w := by
  subst hi
  intro p e s m args below meth c H locs lsA C hR hS hl
  have ha := g_arr hR hn hlv ho (by decide : ¬ 17 < 8)
  show W p l e R s m args below meth c H locs uc us (Φ below args s) (F0 m pc lsA (.int x :: .int (nI j) :: .ref (g_ad E o) :: st.map (cv E)))
  have hN := g_len o
  have hj2 : (nI j).toNatClampNeg = j := nI_clamp (by omega)
  refine W.zast C.1 C.2.1 ha ((g_arrK C.2.2.2.2.2.2.2.2.2.1 (by decide : 8 ≤ 17) (by decide : 17 ≤ 17)).1 _ _) (fun q => by cases q) (by rw [arrV_size]; exact g_inx hj hN) rfl rfl hd fun H1 e1 z oq => ?_
  rw [hj2] at e1 ⊢
  have hnr : narrow .boolean (.int x) = .int x := by rcases hx with rfl | rfl <;> rfl
  rw [hnr] at e1
  refine k p e s m args below meth c H1 _ lsA C (hR.put (o := o) (k := j) hn hlv rfl (up_I w o j x) z oq ⟨fun h => absurd h (by rw [ho]; decide), fun _ => ?_⟩) (hS.put z oq (hR.ge hn hlv)) hl
  rw [e1, arrV_store, ho]
  congr 2
  exact w_upV (f := fun _ => .null) (v := .int x) (ty := g_et 17) (up_I w o j x) (by show Value.int (up2 w.1 o j x o j) = _; rw [up2_s])
theorem w_bald15 {o j : Nat} {i : Int32} (hd : decode μ.2.1 pc = .ok (.baload, 1)) (ho : (g_ob o).1 = 15) (hn : o < w.2.2.2.2.1) (hlv : g_lv E o) (hi : i = nI j) (hj : j < (g_ob o).2) (k : g_Wp E l μ R Φ uc us (pc + 1) ls (.int (w.1 o j) :: st) w) : g_Wp E l μ R Φ uc us pc ls (.int i :: .ref o :: st) w := by
  subst hi
  intro p e s m args below meth c H locs lsA C hR hS hl
  have ha := g_arr hR hn hlv ho (by decide : ¬ 15 < 8)
  show W p l e R s m args below meth c H locs uc us (Φ below args s) (F0 m pc lsA (.int (nI j) :: .ref (g_ad E o) :: st.map (cv E)))
  have hN := g_len o
  exact W.bald C.1 C.2.1 ha ((g_arrK C.2.2.2.2.2.2.2.2.2.1 (by decide : 8 ≤ 15) (by decide : 15 ≤ 17)).1 _ _) (fun q => by cases q) (by rw [arrV_size]; exact g_inx hj hN) (by rw [nI_clamp (by omega)]; exact arrV_read _ _ hj) rfl rfl hd (k p e s m args below meth c H locs lsA C hR hS hl)
theorem w_bast15 {o j : Nat} {i : Int32} {x : Int32} (hd : decode μ.2.1 pc = .ok (.bastore, 1)) (ho : (g_ob o).1 = 15) (hn : o < w.2.2.2.2.1) (hlv : g_lv E o) (hi : i = nI j) (hj : j < (g_ob o).2) (k : g_Wp E l μ R Φ uc us (pc + 1) ls st (up2 w.1 o j x.toInt8.toInt32, w.2)) : g_Wp E l μ R Φ uc us pc ls (.int x :: .int i :: .ref o :: st) w := by
  subst hi
  intro p e s m args below meth c H locs lsA C hR hS hl
  have ha := g_arr hR hn hlv ho (by decide : ¬ 15 < 8)
  show W p l e R s m args below meth c H locs uc us (Φ below args s) (F0 m pc lsA (.int x :: .int (nI j) :: .ref (g_ad E o) :: st.map (cv E)))
  have hN := g_len o
  have hj2 : (nI j).toNatClampNeg = j := nI_clamp (by omega)
  refine W.bast C.1 C.2.1 ha ((g_arrK C.2.2.2.2.2.2.2.2.2.1 (by decide : 8 ≤ 15) (by decide : 15 ≤ 17)).1 _ _) (fun q => by cases q) (by rw [arrV_size]; exact g_inx hj hN) rfl rfl hd fun H1 e1 z oq => ?_
  rw [hj2] at e1 ⊢
  rw [narrow_byte] at e1
  refine k p e s m args below meth c H1 _ lsA C (hR.put (o := o) (k := j) hn hlv rfl (up_I w o j x.toInt8.toInt32) z oq ⟨fun h => absurd h (by rw [ho]; decide), fun _ => ?_⟩) (hS.put z oq (hR.ge hn hlv)) hl
  rw [e1, arrV_store, ho]
  congr 2
  exact w_upV (f := fun _ => .null) (v := .int x.toInt8.toInt32) (ty := g_et 15) (up_I w o j x.toInt8.toInt32) (by show Value.int (up2 w.1 o j x.toInt8.toInt32 o j) = _; rw [up2_s])
end GM2
