/-! ROWS: an instruction each, over the numbered world -/
section GR
variable {E : GE} {l : Launch} {μ : GM} {R : Room} {Φ : List Frame → Array Value → State → State → Prop} {uc us pc : Nat} {ls : List (Nat × Value)} {st : List Value} {w : GW}
def lget (ls : List (Nat × Value)) (i : Nat) : Option Value := (ls.find? (fun q => q.1 == i)).map (fun q => q.2)
def lput1 (ls : List (Nat × Value)) (i : Nat) (v : Value) : List (Nat × Value) := (i, v) :: ls.filter (fun q => !(q.1 == i) && !(q.1 + 1 == i && q.2.category == 2))
def lput2 (ls : List (Nat × Value)) (i : Nat) (v : Value) : List (Nat × Value) := (i, v) :: ls.filter (fun q => !(q.1 == i) && (!(q.1 == i + 1) && !(q.1 + 1 == i && q.2.category == 2)))
theorem lget_mem {ls : List (Nat × Value)} {i : Nat} {v : Value} (h : lget ls i = some v) : (i, v) ∈ ls := by
  unfold lget at h
  cases hf : ls.find? (fun q => q.1 == i) with
  | none => rw [hf] at h; cases h
  | some q =>
    rw [hf] at h
    cases h
    have h1 := List.find?_some hf
    have h2 : q.1 = i := by simpa using h1
    rw [← h2]
    exact List.mem_of_find?_eq_some hf
theorem lget_has {lsA : Array Slot} {n : Nat} {i : Nat} {v : Value} (h : lv_has lsA n (g_ls E ls)) (hg : lget ls i = some v) : lsA[i]? = some (.val (cv E v)) :=
  h.2.2 (i, cv E v) (List.mem_map.mpr ⟨(i, v), lget_mem hg, rfl⟩)
theorem lput1_ls (i : Nat) (v : Value) : (i, cv E v) :: (g_ls E ls).filter (fun q => !(q.1 == i) && !(q.1 + 1 == i && q.2.category == 2)) = g_ls E (lput1 ls i v) := by
  show _ = (i, cv E v) :: (ls.filter _).map _
  unfold g_ls
  rw [List.filter_map]
  congr 3
  funext q
  simp [cv_cat]
theorem lput2_ls (i : Nat) (v : Value) : (i, cv E v) :: (g_ls E ls).filter (fun q => !(q.1 == i) && (!(q.1 == i + 1) && !(q.1 + 1 == i && q.2.category == 2))) = g_ls E (lput2 ls i v) := by
  show _ = (i, cv E v) :: (ls.filter _).map _
  unfold g_ls
  rw [List.filter_map]
  congr 3
  funext q
  simp [cv_cat]
/-- fewer locals, in any order: by their places -/
theorem w_ls {ls' : List (Nat × Value)} (ks : List Nat) (h : lv_pick ls ks = ls') (k : g_Wp E l μ R Φ uc us pc ls' st w) : g_Wp E l μ R Φ uc us pc ls st w := by
  intro p e s m args below meth c H locs lsA C hR hS hl
  refine k p e s m args below meth c H locs lsA C hR hS ⟨hl.1, hl.2.1, fun q hq => ?_⟩
  subst h
  obtain ⟨q', hq', rfl⟩ := List.mem_map.mp hq
  obtain ⟨i, -, hi⟩ := List.mem_filterMap.mp hq'
  exact hl.2.2 _ (List.mem_map.mpr ⟨q', List.mem_of_getElem? hi, rfl⟩)
theorem w_lsx {ls' : List (Nat × Value)} (h : ∀ q ∈ ls', lget ls q.1 = some q.2) (k : g_Wp E l μ R Φ uc us pc ls' st w) : g_Wp E l μ R Φ uc us pc ls st w := by
  intro p e s m args below meth c H locs lsA C hR hS hl
  refine k p e s m args below meth c H locs lsA C hR hS ⟨hl.1, hl.2.1, fun q hq => ?_⟩
  obtain ⟨q', hq', rfl⟩ := List.mem_map.mp hq
  exact lget_has hl (h q' hq')
/-- the goal's own parts, by equations -/
theorem w_eq {w' : GW} {st' : List Value} {ls' : List (Nat × Value)} {pc' : Nat} (hp : pc = pc') (hl : ls = ls') (hs : st = st') (hw : w = w') (k : g_Wp E l μ R Φ uc us pc' ls' st' w') : g_Wp E l μ R Φ uc us pc ls st w := by
  subst hp; subst hl; subst hs; subst hw; exact k
theorem w_st {st' : List Value} (hs : st = st') (k : g_Wp E l μ R Φ uc us pc ls st' w) : g_Wp E l μ R Φ uc us pc ls st w := hs ▸ k
theorem w_w {w' : GW} (hs : w = w') (k : g_Wp E l μ R Φ uc us pc ls st w') : g_Wp E l μ R Φ uc us pc ls st w := hs ▸ k
theorem w_iconst {n : Int} {v : Int32} (hd : decode μ.2.1 pc = .ok (.iconst n, 1)) (hv : Int32.ofInt n = v) (k : g_Wp E l μ R Φ uc us (pc + 1) ls (.int v :: st) w) : g_Wp E l μ R Φ uc us pc ls st w :=
  fun p e s m args below meth c H locs lsA C hR hS hl => lv_iconst C.1 C.2.1 hd hv (k p e s m args below meth c H locs lsA C hR hS hl)
theorem w_bipush {n : Int} {v : Int32} (hd : decode μ.2.1 pc = .ok (.bipush n, 2)) (hv : (Int8.ofInt n).toInt32 = v) (k : g_Wp E l μ R Φ uc us (pc + 2) ls (.int v :: st) w) : g_Wp E l μ R Φ uc us pc ls st w :=
  fun p e s m args below meth c H locs lsA C hR hS hl => lv_bipush C.1 C.2.1 hd hv (k p e s m args below meth c H locs lsA C hR hS hl)
theorem w_sipush {n : Int} {v : Int32} (hd : decode μ.2.1 pc = .ok (.sipush n, 3)) (hv : (Int16.ofInt n).toInt32 = v) (k : g_Wp E l μ R Φ uc us (pc + 3) ls (.int v :: st) w) : g_Wp E l μ R Φ uc us pc ls st w :=
  fun p e s m args below meth c H locs lsA C hR hS hl => lv_sipush C.1 C.2.1 hd hv (k p e s m args below meth c H locs lsA C hR hS hl)
theorem w_lconst {n : Fin 2} {v : Int64} (hd : decode μ.2.1 pc = .ok (.lconst n, 1)) (hv : Int64.ofNat (n : Nat) = v) (k : g_Wp E l μ R Φ uc us (pc + 1) ls (.long v :: st) w) : g_Wp E l μ R Φ uc us pc ls st w :=
  fun p e s m args below meth c H locs lsA C hR hS hl => lv_lconst C.1 C.2.1 hd hv (k p e s m args below meth c H locs lsA C hR hS hl)
theorem w_iload_n {i : Fin 4} {x : Int32} (hd : decode μ.2.1 pc = .ok (.iload_n i, 1)) (hg : lget ls (i : Nat) = some (.int x)) (k : g_Wp E l μ R Φ uc us (pc + 1) ls (.int x :: st) w) : g_Wp E l μ R Φ uc us pc ls st w :=
  fun p e s m args below meth c H locs lsA C hR hS hl => lv_iload_n C.1 C.2.1 hd rfl (lget_has hl hg) (k p e s m args below meth c H locs lsA C hR hS hl)
theorem w_iload {i : Nat} {x : Int32} (hd : decode μ.2.1 pc = .ok (.iload i, 2)) (hg : lget ls i = some (.int x)) (k : g_Wp E l μ R Φ uc us (pc + 2) ls (.int x :: st) w) : g_Wp E l μ R Φ uc us pc ls st w :=
  fun p e s m args below meth c H locs lsA C hR hS hl => lv_iload C.1 C.2.1 hd (lget_has hl hg) (k p e s m args below meth c H locs lsA C hR hS hl)
theorem w_lload_n {i : Fin 4} {x : Int64} (hd : decode μ.2.1 pc = .ok (.lload_n i, 1)) (hg : lget ls (i : Nat) = some (.long x)) (k : g_Wp E l μ R Φ uc us (pc + 1) ls (.long x :: st) w) : g_Wp E l μ R Φ uc us pc ls st w :=
  fun p e s m args below meth c H locs lsA C hR hS hl => lv_lload_n C.1 C.2.1 hd rfl (lget_has hl hg) (k p e s m args below meth c H locs lsA C hR hS hl)
theorem w_lload {i : Nat} {x : Int64} (hd : decode μ.2.1 pc = .ok (.lload i, 2)) (hg : lget ls i = some (.long x)) (k : g_Wp E l μ R Φ uc us (pc + 2) ls (.long x :: st) w) : g_Wp E l μ R Φ uc us pc ls st w :=
  fun p e s m args below meth c H locs lsA C hR hS hl => lv_lload C.1 C.2.1 hd (lget_has hl hg) (k p e s m args below meth c H locs lsA C hR hS hl)
theorem w_dload_n {i : Fin 4} {x : UInt64} (hd : decode μ.2.1 pc = .ok (.dload_n i, 1)) (hg : lget ls (i : Nat) = some (.double x)) (k : g_Wp E l μ R Φ uc us (pc + 1) ls (.double x :: st) w) : g_Wp E l μ R Φ uc us pc ls st w :=
  fun p e s m args below meth c H locs lsA C hR hS hl => lv_dload_n C.1 C.2.1 hd rfl (lget_has hl hg) (k p e s m args below meth c H locs lsA C hR hS hl)
theorem w_dload {i : Nat} {x : UInt64} (hd : decode μ.2.1 pc = .ok (.dload i, 2)) (hg : lget ls i = some (.double x)) (k : g_Wp E l μ R Φ uc us (pc + 2) ls (.double x :: st) w) : g_Wp E l μ R Φ uc us pc ls st w :=
  fun p e s m args below meth c H locs lsA C hR hS hl => lv_dload C.1 C.2.1 hd (lget_has hl hg) (k p e s m args below meth c H locs lsA C hR hS hl)
theorem w_aload_n {i : Fin 4} {x : Nat} (hd : decode μ.2.1 pc = .ok (.aload_n i, 1)) (hg : lget ls (i : Nat) = some (.ref x)) (k : g_Wp E l μ R Φ uc us (pc + 1) ls (.ref x :: st) w) : g_Wp E l μ R Φ uc us pc ls st w :=
  fun p e s m args below meth c H locs lsA C hR hS hl => lv_aload_n C.1 C.2.1 hd rfl (lget_has hl hg) (k p e s m args below meth c H locs lsA C hR hS hl)
theorem w_aload {i : Nat} {x : Nat} (hd : decode μ.2.1 pc = .ok (.aload i, 2)) (hg : lget ls i = some (.ref x)) (k : g_Wp E l μ R Φ uc us (pc + 2) ls (.ref x :: st) w) : g_Wp E l μ R Φ uc us pc ls st w :=
  fun p e s m args below meth c H locs lsA C hR hS hl => lv_aload C.1 C.2.1 hd (lget_has hl hg) (k p e s m args below meth c H locs lsA C hR hS hl)
theorem w_istore_n {i : Fin 4} {x : Int32} {ls' : List (Nat × Value)} (hd : decode μ.2.1 pc = .ok (.istore_n i, 1)) (hi : (i : Nat) < μ.2.2.1) (hl' : lput1 ls (i : Nat) (.int x) = ls') (k : g_Wp E l μ R Φ uc us (pc + 1) ls' st w) : g_Wp E l μ R Φ uc us pc ls (.int x :: st) w :=
  fun p e s m args below meth c H locs lsA C hR hS hl => lv_istore_n C.1 C.2.1 hd rfl hl hi (lput1_ls (i : Nat) (.int x)) (fun lsB hlB => k p e s m args below meth c H locs lsB C hR hS (by rw [← hl']; exact hlB))
theorem w_istore {i : Nat} {x : Int32} {ls' : List (Nat × Value)} (hd : decode μ.2.1 pc = .ok (.istore i, 2)) (hi : i < μ.2.2.1) (hl' : lput1 ls i (.int x) = ls') (k : g_Wp E l μ R Φ uc us (pc + 2) ls' st w) : g_Wp E l μ R Φ uc us pc ls (.int x :: st) w :=
  fun p e s m args below meth c H locs lsA C hR hS hl => lv_istore C.1 C.2.1 hd hl hi (lput1_ls i (.int x)) (fun lsB hlB => k p e s m args below meth c H locs lsB C hR hS (by rw [← hl']; exact hlB))
theorem w_astore_n {i : Fin 4} {x : Nat} {ls' : List (Nat × Value)} (hd : decode μ.2.1 pc = .ok (.astore_n i, 1)) (hi : (i : Nat) < μ.2.2.1) (hl' : lput1 ls (i : Nat) (.ref x) = ls') (k : g_Wp E l μ R Φ uc us (pc + 1) ls' st w) : g_Wp E l μ R Φ uc us pc ls (.ref x :: st) w :=
  fun p e s m args below meth c H locs lsA C hR hS hl => lv_astore_n C.1 C.2.1 hd rfl hl hi (lput1_ls (i : Nat) (.ref x)) (fun lsB hlB => k p e s m args below meth c H locs lsB C hR hS (by rw [← hl']; exact hlB))
theorem w_astore {i : Nat} {x : Nat} {ls' : List (Nat × Value)} (hd : decode μ.2.1 pc = .ok (.astore i, 2)) (hi : i < μ.2.2.1) (hl' : lput1 ls i (.ref x) = ls') (k : g_Wp E l μ R Φ uc us (pc + 2) ls' st w) : g_Wp E l μ R Φ uc us pc ls (.ref x :: st) w :=
  fun p e s m args below meth c H locs lsA C hR hS hl => lv_astore C.1 C.2.1 hd hl hi (lput1_ls i (.ref x)) (fun lsB hlB => k p e s m args below meth c H locs lsB C hR hS (by rw [← hl']; exact hlB))
theorem w_lstore_n {i : Fin 4} {x : Int64} {ls' : List (Nat × Value)} (hd : decode μ.2.1 pc = .ok (.lstore_n i, 1)) (hi : (i : Nat) + 1 < μ.2.2.1) (hl' : lput2 ls (i : Nat) (.long x) = ls') (k : g_Wp E l μ R Φ uc us (pc + 1) ls' st w) : g_Wp E l μ R Φ uc us pc ls (.long x :: st) w :=
  fun p e s m args below meth c H locs lsA C hR hS hl => lv_lstore_n C.1 C.2.1 hd rfl hl hi (lput2_ls (i : Nat) (.long x)) (fun lsB hlB => k p e s m args below meth c H locs lsB C hR hS (by rw [← hl']; exact hlB))
theorem w_lstore {i : Nat} {x : Int64} {ls' : List (Nat × Value)} (hd : decode μ.2.1 pc = .ok (.lstore i, 2)) (hi : i + 1 < μ.2.2.1) (hl' : lput2 ls i (.long x) = ls') (k : g_Wp E l μ R Φ uc us (pc + 2) ls' st w) : g_Wp E l μ R Φ uc us pc ls (.long x :: st) w :=
  fun p e s m args below meth c H locs lsA C hR hS hl => lv_lstore C.1 C.2.1 hd hl hi (lput2_ls i (.long x)) (fun lsB hlB => k p e s m args below meth c H locs lsB C hR hS (by rw [← hl']; exact hlB))
theorem w_dstore_n {i : Fin 4} {x : UInt64} {ls' : List (Nat × Value)} (hd : decode μ.2.1 pc = .ok (.dstore_n i, 1)) (hi : (i : Nat) + 1 < μ.2.2.1) (hl' : lput2 ls (i : Nat) (.double x) = ls') (k : g_Wp E l μ R Φ uc us (pc + 1) ls' st w) : g_Wp E l μ R Φ uc us pc ls (.double x :: st) w :=
  fun p e s m args below meth c H locs lsA C hR hS hl => lv_dstore_n C.1 C.2.1 hd rfl hl hi (lput2_ls (i : Nat) (.double x)) (fun lsB hlB => k p e s m args below meth c H locs lsB C hR hS (by rw [← hl']; exact hlB))
theorem w_dstore {i : Nat} {x : UInt64} {ls' : List (Nat × Value)} (hd : decode μ.2.1 pc = .ok (.dstore i, 2)) (hi : i + 1 < μ.2.2.1) (hl' : lput2 ls i (.double x) = ls') (k : g_Wp E l μ R Φ uc us (pc + 2) ls' st w) : g_Wp E l μ R Φ uc us pc ls (.double x :: st) w :=
  fun p e s m args below meth c H locs lsA C hR hS hl => lv_dstore C.1 C.2.1 hd hl hi (lput2_ls i (.double x)) (fun lsB hlB => k p e s m args below meth c H locs lsB C hR hS (by rw [← hl']; exact hlB))
theorem w_iinc {i : Nat} {n : Int} {x v : Int32} {ls' : List (Nat × Value)} (hd : decode μ.2.1 pc = .ok (.iinc i n, 3)) (hg : lget ls i = some (.int x)) (hv : x + Int32.ofInt n = v) (hi : i < μ.2.2.1) (hl' : lput1 ls i (.int v) = ls') (k : g_Wp E l μ R Φ uc us (pc + 3) ls' st w) : g_Wp E l μ R Φ uc us pc ls st w := by
  intro p e s m args below meth c H locs lsA C hR hS hl
  have h1 : (i, Value.int x) ∈ g_ls E ls := List.mem_map.mpr ⟨(i, .int x), lget_mem hg, rfl⟩
  obtain ⟨j, hj⟩ := List.getElem?_of_mem h1
  exact lv_iinc C.1 C.2.1 hd hl hj hv hi (lput1_ls i (.int v)) (fun lsB hlB => k p e s m args below meth c H locs lsB C hR hS (by rw [← hl']; exact hlB))
theorem w_iadd {x y : Int32} (hd : decode μ.2.1 pc = .ok (.iadd, 1)) (k : g_Wp E l μ R Φ uc us (pc + 1) ls (.int (x + y) :: st) w) : g_Wp E l μ R Φ uc us pc ls (.int y :: .int x :: st) w :=
  fun p e s m args below meth c H locs lsA C hR hS hl => lv_iadd C.1 C.2.1 hd (k p e s m args below meth c H locs lsA C hR hS hl)
theorem w_isub {x y : Int32} (hd : decode μ.2.1 pc = .ok (.isub, 1)) (k : g_Wp E l μ R Φ uc us (pc + 1) ls (.int (x - y) :: st) w) : g_Wp E l μ R Φ uc us pc ls (.int y :: .int x :: st) w :=
  fun p e s m args below meth c H locs lsA C hR hS hl => lv_isub C.1 C.2.1 hd (k p e s m args below meth c H locs lsA C hR hS hl)
theorem w_imul {x y : Int32} (hd : decode μ.2.1 pc = .ok (.imul, 1)) (k : g_Wp E l μ R Φ uc us (pc + 1) ls (.int (x * y) :: st) w) : g_Wp E l μ R Φ uc us pc ls (.int y :: .int x :: st) w :=
  fun p e s m args below meth c H locs lsA C hR hS hl => lv_imul C.1 C.2.1 hd (k p e s m args below meth c H locs lsA C hR hS hl)
theorem w_iand {x y : Int32} (hd : decode μ.2.1 pc = .ok (.iand, 1)) (k : g_Wp E l μ R Φ uc us (pc + 1) ls (.int (x &&& y) :: st) w) : g_Wp E l μ R Φ uc us pc ls (.int y :: .int x :: st) w :=
  fun p e s m args below meth c H locs lsA C hR hS hl => lv_iand C.1 C.2.1 hd (k p e s m args below meth c H locs lsA C hR hS hl)
theorem w_ior {x y : Int32} (hd : decode μ.2.1 pc = .ok (.ior, 1)) (k : g_Wp E l μ R Φ uc us (pc + 1) ls (.int (x ||| y) :: st) w) : g_Wp E l μ R Φ uc us pc ls (.int y :: .int x :: st) w :=
  fun p e s m args below meth c H locs lsA C hR hS hl => lv_ior C.1 C.2.1 hd (k p e s m args below meth c H locs lsA C hR hS hl)
theorem w_ixor {x y : Int32} (hd : decode μ.2.1 pc = .ok (.ixor, 1)) (k : g_Wp E l μ R Φ uc us (pc + 1) ls (.int (x ^^^ y) :: st) w) : g_Wp E l μ R Φ uc us pc ls (.int y :: .int x :: st) w :=
  fun p e s m args below meth c H locs lsA C hR hS hl => lv_ixor C.1 C.2.1 hd (k p e s m args below meth c H locs lsA C hR hS hl)
theorem w_ishl {x y : Int32} (hd : decode μ.2.1 pc = .ok (.ishl, 1)) (k : g_Wp E l μ R Φ uc us (pc + 1) ls (.int (x <<< (y &&& 31)) :: st) w) : g_Wp E l μ R Φ uc us pc ls (.int y :: .int x :: st) w :=
  fun p e s m args below meth c H locs lsA C hR hS hl => lv_ishl C.1 C.2.1 hd (k p e s m args below meth c H locs lsA C hR hS hl)
theorem w_ishr {x y : Int32} (hd : decode μ.2.1 pc = .ok (.ishr, 1)) (k : g_Wp E l μ R Φ uc us (pc + 1) ls (.int (x >>> (y &&& 31)) :: st) w) : g_Wp E l μ R Φ uc us pc ls (.int y :: .int x :: st) w :=
  fun p e s m args below meth c H locs lsA C hR hS hl => lv_ishr C.1 C.2.1 hd (k p e s m args below meth c H locs lsA C hR hS hl)
theorem w_idiv {x y : Int32} (hd : decode μ.2.1 pc = .ok (.idiv, 1)) (hn : ¬ y = 0) (k : g_Wp E l μ R Φ uc us (pc + 1) ls (.int (x / y) :: st) w) : g_Wp E l μ R Φ uc us pc ls (.int y :: .int x :: st) w :=
  fun p e s m args below meth c H locs lsA C hR hS hl => lv_idiv C.1 C.2.1 hd hn (k p e s m args below meth c H locs lsA C hR hS hl)
theorem w_irem {x y : Int32} (hd : decode μ.2.1 pc = .ok (.irem, 1)) (hn : ¬ y = 0) (k : g_Wp E l μ R Φ uc us (pc + 1) ls (.int (x - x / y * y) :: st) w) : g_Wp E l μ R Φ uc us pc ls (.int y :: .int x :: st) w :=
  fun p e s m args below meth c H locs lsA C hR hS hl => lv_irem C.1 C.2.1 hd hn (k p e s m args below meth c H locs lsA C hR hS hl)
theorem w_ladd {x y : Int64} (hd : decode μ.2.1 pc = .ok (.ladd, 1)) (k : g_Wp E l μ R Φ uc us (pc + 1) ls (.long (x + y) :: st) w) : g_Wp E l μ R Φ uc us pc ls (.long y :: .long x :: st) w :=
  fun p e s m args below meth c H locs lsA C hR hS hl => lv_ladd C.1 C.2.1 hd (k p e s m args below meth c H locs lsA C hR hS hl)
theorem w_lsub {x y : Int64} (hd : decode μ.2.1 pc = .ok (.lsub, 1)) (k : g_Wp E l μ R Φ uc us (pc + 1) ls (.long (x - y) :: st) w) : g_Wp E l μ R Φ uc us pc ls (.long y :: .long x :: st) w :=
  fun p e s m args below meth c H locs lsA C hR hS hl => lv_lsub C.1 C.2.1 hd (k p e s m args below meth c H locs lsA C hR hS hl)
theorem w_lmul {x y : Int64} (hd : decode μ.2.1 pc = .ok (.lmul, 1)) (k : g_Wp E l μ R Φ uc us (pc + 1) ls (.long (x * y) :: st) w) : g_Wp E l μ R Φ uc us pc ls (.long y :: .long x :: st) w :=
  fun p e s m args below meth c H locs lsA C hR hS hl => lv_lmul C.1 C.2.1 hd (k p e s m args below meth c H locs lsA C hR hS hl)
theorem w_land {x y : Int64} (hd : decode μ.2.1 pc = .ok (.land, 1)) (k : g_Wp E l μ R Φ uc us (pc + 1) ls (.long (x &&& y) :: st) w) : g_Wp E l μ R Φ uc us pc ls (.long y :: .long x :: st) w :=
  fun p e s m args below meth c H locs lsA C hR hS hl => lv_land C.1 C.2.1 hd (k p e s m args below meth c H locs lsA C hR hS hl)
theorem w_lor {x y : Int64} (hd : decode μ.2.1 pc = .ok (.lor, 1)) (k : g_Wp E l μ R Φ uc us (pc + 1) ls (.long (x ||| y) :: st) w) : g_Wp E l μ R Φ uc us pc ls (.long y :: .long x :: st) w :=
  fun p e s m args below meth c H locs lsA C hR hS hl => lv_lor C.1 C.2.1 hd (k p e s m args below meth c H locs lsA C hR hS hl)
theorem w_lshl {x : Int64} {y : Int32} (hd : decode μ.2.1 pc = .ok (.lshl, 1)) (k : g_Wp E l μ R Φ uc us (pc + 1) ls (.long (x <<< (y.toInt64 &&& 63)) :: st) w) : g_Wp E l μ R Φ uc us pc ls (.int y :: .long x :: st) w :=
  fun p e s m args below meth c H locs lsA C hR hS hl => lv_lshl C.1 C.2.1 hd rfl (k p e s m args below meth c H locs lsA C hR hS hl)
theorem w_lshr {x : Int64} {y : Int32} (hd : decode μ.2.1 pc = .ok (.lshr, 1)) (k : g_Wp E l μ R Φ uc us (pc + 1) ls (.long (x >>> (y.toInt64 &&& 63)) :: st) w) : g_Wp E l μ R Φ uc us pc ls (.int y :: .long x :: st) w :=
  fun p e s m args below meth c H locs lsA C hR hS hl => lv_lshr C.1 C.2.1 hd rfl (k p e s m args below meth c H locs lsA C hR hS hl)
theorem w_i2l {x : Int32} (hd : decode μ.2.1 pc = .ok (.i2l, 1)) (k : g_Wp E l μ R Φ uc us (pc + 1) ls (.long x.toInt64 :: st) w) : g_Wp E l μ R Φ uc us pc ls (.int x :: st) w :=
  fun p e s m args below meth c H locs lsA C hR hS hl => lv_i2l C.1 C.2.1 hd rfl (k p e s m args below meth c H locs lsA C hR hS hl)
theorem w_l2i {x : Int64} (hd : decode μ.2.1 pc = .ok (.l2i, 1)) (k : g_Wp E l μ R Φ uc us (pc + 1) ls (.int x.toInt32 :: st) w) : g_Wp E l μ R Φ uc us pc ls (.long x :: st) w :=
  fun p e s m args below meth c H locs lsA C hR hS hl => lv_l2i C.1 C.2.1 hd rfl (k p e s m args below meth c H locs lsA C hR hS hl)
theorem w_i2b {x : Int32} (hd : decode μ.2.1 pc = .ok (.i2b, 1)) (k : g_Wp E l μ R Φ uc us (pc + 1) ls (.int x.toInt8.toInt32 :: st) w) : g_Wp E l μ R Φ uc us pc ls (.int x :: st) w :=
  fun p e s m args below meth c H locs lsA C hR hS hl => lv_i2b C.1 C.2.1 hd rfl (k p e s m args below meth c H locs lsA C hR hS hl)
theorem w_i2c {x : Int32} (hd : decode μ.2.1 pc = .ok (.i2c, 1)) (k : g_Wp E l μ R Φ uc us (pc + 1) ls (.int (x.toUInt32 % 65536).toInt32 :: st) w) : g_Wp E l μ R Φ uc us pc ls (.int x :: st) w :=
  fun p e s m args below meth c H locs lsA C hR hS hl => lv_i2c C.1 C.2.1 hd rfl (k p e s m args below meth c H locs lsA C hR hS hl)
theorem w_i2d {x : Int32} (hd : decode μ.2.1 pc = .ok (.i2d, 1)) (k : g_Wp E l μ R Φ uc us (pc + 1) ls (.double (FP.i2d x) :: st) w) : g_Wp E l μ R Φ uc us pc ls (.int x :: st) w :=
  fun p e s m args below meth c H locs lsA C hR hS hl => lv_i2d C.1 C.2.1 hd (k p e s m args below meth c H locs lsA C hR hS hl)
theorem w_lcmp {x y : Int64} (hd : decode μ.2.1 pc = .ok (.lcmp, 1)) (k : g_Wp E l μ R Φ uc us (pc + 1) ls (.int (lg_cmp x y) :: st) w) : g_Wp E l μ R Φ uc us pc ls (.long y :: .long x :: st) w :=
  fun p e s m args below meth c H locs lsA C hR hS hl => W.lcmp C.1 C.2.1 hd (k p e s m args below meth c H locs lsA C hR hS hl)
theorem w_dcmp {x y : UInt64} {op : CmpOp} (hd : decode μ.2.1 pc = .ok (.dcmp op, 1)) (k : g_Wp E l μ R Φ uc us (pc + 1) ls (.int (Op.cmpValue (FP.dcmp x y) op) :: st) w) : g_Wp E l μ R Φ uc us pc ls (.double y :: .double x :: st) w :=
  fun p e s m args below meth c H locs lsA C hR hS hl => lv_dcmp C.1 C.2.1 hd (k p e s m args below meth c H locs lsA C hR hS hl)
theorem w_ddiv {x y : UInt64} (hd : decode μ.2.1 pc = .ok (.ddiv, 1)) (hn : vf_n64 (FP.ddiv x y)) (k : g_Wp E l μ R Φ uc us (pc + 1) ls (.double (FP.ddiv x y) :: st) w) : g_Wp E l μ R Φ uc us pc ls (.double y :: .double x :: st) w :=
  fun p e s m args below meth c H locs lsA C hR hS hl => lv_ddiv C.1 C.2.1 hd hn (k p e s m args below meth c H locs lsA C hR hS hl)
theorem w_dconst0  (hd : decode μ.2.1 pc = .ok (.dconst 0, 1)) (k : g_Wp E l μ R Φ uc us (pc + 1) ls (.double FP.dconst0 :: st) w) : g_Wp E l μ R Φ uc us pc ls st w :=
  fun p e s m args below meth c H locs lsA C hR hS hl => lv_dconst0 C.1 C.2.1 hd (k p e s m args below meth c H locs lsA C hR hS hl)
theorem w_dup {a : Value} (hd : decode μ.2.1 pc = .ok (.dup, 1)) (ha : a.category = 1) (k : g_Wp E l μ R Φ uc us (pc + 1) ls (a :: a :: st) w) : g_Wp E l μ R Φ uc us pc ls (a :: st) w :=
  fun p e s m args below meth c H locs lsA C hR hS hl => lv_dup C.1 C.2.1 hd ((cv_cat E a).trans ha) (k p e s m args below meth c H locs lsA C hR hS hl)
theorem w_pop {a : Value} (hd : decode μ.2.1 pc = .ok (.pop, 1)) (ha : a.category = 1) (k : g_Wp E l μ R Φ uc us (pc + 1) ls st w) : g_Wp E l μ R Φ uc us pc ls (a :: st) w :=
  fun p e s m args below meth c H locs lsA C hR hS hl => lv_pop C.1 C.2.1 hd ((cv_cat E a).trans ha) (k p e s m args below meth c H locs lsA C hR hS hl)
theorem w_dup2 {a b : Value} (hd : decode μ.2.1 pc = .ok (.dup2, 1)) (ha : a.category = 1) (hb : b.category = 1) (k : g_Wp E l μ R Φ uc us (pc + 1) ls (a :: b :: a :: b :: st) w) : g_Wp E l μ R Φ uc us pc ls (a :: b :: st) w :=
  fun p e s m args below meth c H locs lsA C hR hS hl => lv_dup2_11 C.1 C.2.1 hd ((cv_cat E a).trans ha) ((cv_cat E b).trans hb) (k p e s m args below meth c H locs lsA C hR hS hl)
theorem w_if_eq {x : Int32} {off : Int} {tgt : Nat} (hd : decode μ.2.1 pc = .ok (.ifCond .eq off, 3)) (ht : (pc : Int) + off = (tgt : Int)) (kt : x = 0 → g_Wp E l μ R Φ uc us tgt ls st w) (kf : ¬ x = 0 → g_Wp E l μ R Φ uc us (pc + 3) ls st w) : g_Wp E l μ R Φ uc us pc ls (.int x :: st) w :=
  fun p e s m args below meth c H locs lsA C hR hS hl => lv_if_eq C.1 C.2.1 hd ht (fun h => kt h p e s m args below meth c H locs lsA C hR hS hl) (fun h => kf h p e s m args below meth c H locs lsA C hR hS hl)
theorem w_icmp_eq {x y : Int32} {off : Int} {tgt : Nat} (hd : decode μ.2.1 pc = .ok (.if_icmp .eq off, 3)) (ht : (pc : Int) + off = (tgt : Int)) (kt : x = y → g_Wp E l μ R Φ uc us tgt ls st w) (kf : ¬ x = y → g_Wp E l μ R Φ uc us (pc + 3) ls st w) : g_Wp E l μ R Φ uc us pc ls (.int y :: .int x :: st) w :=
  fun p e s m args below meth c H locs lsA C hR hS hl => lv_icmp_eq C.1 C.2.1 hd ht (fun h => kt h p e s m args below meth c H locs lsA C hR hS hl) (fun h => kf h p e s m args below meth c H locs lsA C hR hS hl)
theorem w_if_ne {x : Int32} {off : Int} {tgt : Nat} (hd : decode μ.2.1 pc = .ok (.ifCond .ne off, 3)) (ht : (pc : Int) + off = (tgt : Int)) (kt : ¬ x = 0 → g_Wp E l μ R Φ uc us tgt ls st w) (kf : x = 0 → g_Wp E l μ R Φ uc us (pc + 3) ls st w) : g_Wp E l μ R Φ uc us pc ls (.int x :: st) w :=
  fun p e s m args below meth c H locs lsA C hR hS hl => lv_if_ne C.1 C.2.1 hd ht (fun h => kt h p e s m args below meth c H locs lsA C hR hS hl) (fun h => kf h p e s m args below meth c H locs lsA C hR hS hl)
theorem w_icmp_ne {x y : Int32} {off : Int} {tgt : Nat} (hd : decode μ.2.1 pc = .ok (.if_icmp .ne off, 3)) (ht : (pc : Int) + off = (tgt : Int)) (kt : ¬ x = y → g_Wp E l μ R Φ uc us tgt ls st w) (kf : x = y → g_Wp E l μ R Φ uc us (pc + 3) ls st w) : g_Wp E l μ R Φ uc us pc ls (.int y :: .int x :: st) w :=
  fun p e s m args below meth c H locs lsA C hR hS hl => lv_icmp_ne C.1 C.2.1 hd ht (fun h => kt h p e s m args below meth c H locs lsA C hR hS hl) (fun h => kf h p e s m args below meth c H locs lsA C hR hS hl)
theorem w_if_lt {x : Int32} {off : Int} {tgt : Nat} (hd : decode μ.2.1 pc = .ok (.ifCond .lt off, 3)) (ht : (pc : Int) + off = (tgt : Int)) (kt : x < 0 → g_Wp E l μ R Φ uc us tgt ls st w) (kf : ¬ x < 0 → g_Wp E l μ R Φ uc us (pc + 3) ls st w) : g_Wp E l μ R Φ uc us pc ls (.int x :: st) w :=
  fun p e s m args below meth c H locs lsA C hR hS hl => lv_if_lt C.1 C.2.1 hd ht (fun h => kt h p e s m args below meth c H locs lsA C hR hS hl) (fun h => kf h p e s m args below meth c H locs lsA C hR hS hl)
theorem w_icmp_lt {x y : Int32} {off : Int} {tgt : Nat} (hd : decode μ.2.1 pc = .ok (.if_icmp .lt off, 3)) (ht : (pc : Int) + off = (tgt : Int)) (kt : x < y → g_Wp E l μ R Φ uc us tgt ls st w) (kf : ¬ x < y → g_Wp E l μ R Φ uc us (pc + 3) ls st w) : g_Wp E l μ R Φ uc us pc ls (.int y :: .int x :: st) w :=
  fun p e s m args below meth c H locs lsA C hR hS hl => lv_icmp_lt C.1 C.2.1 hd ht (fun h => kt h p e s m args below meth c H locs lsA C hR hS hl) (fun h => kf h p e s m args below meth c H locs lsA C hR hS hl)
theorem w_if_ge {x : Int32} {off : Int} {tgt : Nat} (hd : decode μ.2.1 pc = .ok (.ifCond .ge off, 3)) (ht : (pc : Int) + off = (tgt : Int)) (kt : 0 ≤ x → g_Wp E l μ R Φ uc us tgt ls st w) (kf : ¬ 0 ≤ x → g_Wp E l μ R Φ uc us (pc + 3) ls st w) : g_Wp E l μ R Φ uc us pc ls (.int x :: st) w :=
  fun p e s m args below meth c H locs lsA C hR hS hl => lv_if_ge C.1 C.2.1 hd ht (fun h => kt h p e s m args below meth c H locs lsA C hR hS hl) (fun h => kf h p e s m args below meth c H locs lsA C hR hS hl)
theorem w_icmp_ge {x y : Int32} {off : Int} {tgt : Nat} (hd : decode μ.2.1 pc = .ok (.if_icmp .ge off, 3)) (ht : (pc : Int) + off = (tgt : Int)) (kt : y ≤ x → g_Wp E l μ R Φ uc us tgt ls st w) (kf : ¬ y ≤ x → g_Wp E l μ R Φ uc us (pc + 3) ls st w) : g_Wp E l μ R Φ uc us pc ls (.int y :: .int x :: st) w :=
  fun p e s m args below meth c H locs lsA C hR hS hl => lv_icmp_ge C.1 C.2.1 hd ht (fun h => kt h p e s m args below meth c H locs lsA C hR hS hl) (fun h => kf h p e s m args below meth c H locs lsA C hR hS hl)
theorem w_if_gt {x : Int32} {off : Int} {tgt : Nat} (hd : decode μ.2.1 pc = .ok (.ifCond .gt off, 3)) (ht : (pc : Int) + off = (tgt : Int)) (kt : 0 < x → g_Wp E l μ R Φ uc us tgt ls st w) (kf : ¬ 0 < x → g_Wp E l μ R Φ uc us (pc + 3) ls st w) : g_Wp E l μ R Φ uc us pc ls (.int x :: st) w :=
  fun p e s m args below meth c H locs lsA C hR hS hl => lv_if_gt C.1 C.2.1 hd ht (fun h => kt h p e s m args below meth c H locs lsA C hR hS hl) (fun h => kf h p e s m args below meth c H locs lsA C hR hS hl)
theorem w_icmp_gt {x y : Int32} {off : Int} {tgt : Nat} (hd : decode μ.2.1 pc = .ok (.if_icmp .gt off, 3)) (ht : (pc : Int) + off = (tgt : Int)) (kt : y < x → g_Wp E l μ R Φ uc us tgt ls st w) (kf : ¬ y < x → g_Wp E l μ R Φ uc us (pc + 3) ls st w) : g_Wp E l μ R Φ uc us pc ls (.int y :: .int x :: st) w :=
  fun p e s m args below meth c H locs lsA C hR hS hl => lv_icmp_gt C.1 C.2.1 hd ht (fun h => kt h p e s m args below meth c H locs lsA C hR hS hl) (fun h => kf h p e s m args below meth c H locs lsA C hR hS hl)
theorem w_if_le {x : Int32} {off : Int} {tgt : Nat} (hd : decode μ.2.1 pc = .ok (.ifCond .le off, 3)) (ht : (pc : Int) + off = (tgt : Int)) (kt : x ≤ 0 → g_Wp E l μ R Φ uc us tgt ls st w) (kf : ¬ x ≤ 0 → g_Wp E l μ R Φ uc us (pc + 3) ls st w) : g_Wp E l μ R Φ uc us pc ls (.int x :: st) w :=
  fun p e s m args below meth c H locs lsA C hR hS hl => lv_if_le C.1 C.2.1 hd ht (fun h => kt h p e s m args below meth c H locs lsA C hR hS hl) (fun h => kf h p e s m args below meth c H locs lsA C hR hS hl)
theorem w_icmp_le {x y : Int32} {off : Int} {tgt : Nat} (hd : decode μ.2.1 pc = .ok (.if_icmp .le off, 3)) (ht : (pc : Int) + off = (tgt : Int)) (kt : x ≤ y → g_Wp E l μ R Φ uc us tgt ls st w) (kf : ¬ x ≤ y → g_Wp E l μ R Φ uc us (pc + 3) ls st w) : g_Wp E l μ R Φ uc us pc ls (.int y :: .int x :: st) w :=
  fun p e s m args below meth c H locs lsA C hR hS hl => lv_icmp_le C.1 C.2.1 hd ht (fun h => kt h p e s m args below meth c H locs lsA C hR hS hl) (fun h => kf h p e s m args below meth c H locs lsA C hR hS hl)
theorem w_goto {off : Int} {tgt : Nat} (hd : decode μ.2.1 pc = .ok (.goto off, 3)) (ht : (pc : Int) + off = (tgt : Int)) (k : g_Wp E l μ R Φ uc us tgt ls st w) : g_Wp E l μ R Φ uc us pc ls st w :=
  fun p e s m args below meth c H locs lsA C hR hS hl => lv_goto C.1 C.2.1 hd ht (k p e s m args below meth c H locs lsA C hR hS hl)
theorem w_tblIn {dflt lo hi : Int} {offs : Array Int} {len : Nat} {x : Int32} {off : Int} {tgt : Nat} (hd : decode μ.2.1 pc = .ok (.tableswitch dflt lo hi offs, len)) (h1 : ¬ x.toInt < lo) (h2 : ¬ hi < x.toInt) (ho : offs[(x.toInt - lo).toNat]? = some off) (ht : (pc : Int) + off = (tgt : Int)) (k : g_Wp E l μ R Φ uc us tgt ls st w) : g_Wp E l μ R Φ uc us pc ls (.int x :: st) w :=
  fun p e s m args below meth c H locs lsA C hR hS hl => lv_tableIn C.1 C.2.1 hd h1 h2 ho ht (k p e s m args below meth c H locs lsA C hR hS hl)
theorem w_tblOut {dflt lo hi : Int} {offs : Array Int} {len : Nat} {x : Int32} {tgt : Nat} (hd : decode μ.2.1 pc = .ok (.tableswitch dflt lo hi offs, len)) (h : x.toInt < lo ∨ hi < x.toInt) (ht : (pc : Int) + dflt = (tgt : Int)) (k : g_Wp E l μ R Φ uc us tgt ls st w) : g_Wp E l μ R Φ uc us pc ls (.int x :: st) w :=
  fun p e s m args below meth c H locs lsA C hR hS hl => lv_tableOut C.1 C.2.1 hd h ht (k p e s m args below meth c H locs lsA C hR hS hl)
theorem w_lookup {dflt : Int} {ps : Array (Int × Int)} {len : Nat} {x : Int32} {off : Int} {tgt : Nat} (hd : decode μ.2.1 pc = .ok (.lookupswitch dflt ps, len)) (hp : (ps.toList.zip (ps.toList.drop 1)).all (fun (a, next) => a.1 < next.1) = true) (ho : Op.lookupswitch.offset ps.toList dflt x.toInt = off) (ht : (pc : Int) + off = (tgt : Int)) (k : g_Wp E l μ R Φ uc us tgt ls st w) : g_Wp E l μ R Φ uc us pc ls (.int x :: st) w :=
  fun p e s m args below meth c H locs lsA C hR hS hl => lv_lookup C.1 C.2.1 hd hp ho ht (k p e s m args below meth c H locs lsA C hR hS hl)
theorem w_ldc {i : Nat} {v : Int32} (hd : decode μ.2.1 pc = .ok (.ldc i, 2)) (hc : Cond.constant μ.1.cls i v ∈ gw) (k : g_Wp E l μ R Φ uc us (pc + 2) ls (.int v :: st) w) : g_Wp E l μ R Φ uc us pc ls st w :=
  fun p e s m args below meth c H locs lsA C hR hS hl => lv_ldc C.1 C.2.1 C.2.2.2.1 (C.2.2.2.2.1 _ (g_mwgw μ _ hc)) hd (k p e s m args below meth c H locs lsA C hR hS hl)
theorem w_ldcw {i : Nat} {v : Int32} (hd : decode μ.2.1 pc = .ok (.ldc_w i, 3)) (hc : Cond.constant μ.1.cls i v ∈ gw) (k : g_Wp E l μ R Φ uc us (pc + 3) ls (.int v :: st) w) : g_Wp E l μ R Φ uc us pc ls st w :=
  fun p e s m args below meth c H locs lsA C hR hS hl => lv_ldcw C.1 C.2.1 C.2.2.2.1 (C.2.2.2.2.1 _ (g_mwgw μ _ hc)) hd (k p e s m args below meth c H locs lsA C hR hS hl)
theorem w_ldc2 {i : Nat} {v : Int64} (hd : decode μ.2.1 pc = .ok (.ldc2_w i, 3)) (hc : Cond.constantLong μ.1.cls i v ∈ gw) (k : g_Wp E l μ R Φ uc us (pc + 3) ls (.long v :: st) w) : g_Wp E l μ R Φ uc us pc ls st w :=
  fun p e s m args below meth c H locs lsA C hR hS hl => lv_ldc2 C.1 C.2.1 C.2.2.2.1 (C.2.2.2.2.1 _ (g_mwgw μ _ hc)) hd (k p e s m args below meth c H locs lsA C hR hS hl)
end GR
