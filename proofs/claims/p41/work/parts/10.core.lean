/-! CORE: one world of numbered objects; methods by what they come to. A cell of the machine is an object by its number: object o lies at (first address + o); an object is numbers, longs, references (by their numbers) and doubles by its places. -/
/-- ints, longs, references, doubles, how many objects there are, whether nothing else has been made since -/
abbrev GW : Type := (Nat → Nat → Int32) × (Nat → Nat → Int64) × (Nat → Nat → Option Nat) × (Nat → Nat → UInt64) × Nat × Bool
/-- classes; array classes by kind; the first address; the cells outside by number, the addresses of the objects by number, which of the late ones stand; the script: its length, its content -/
abbrev GE : Type := va_G × (Nat → ClassId) × Nat × ((Nat → Nat) × (Nat → Nat) × (Nat → Bool)) × Nat × (Nat → Int32)
/-- a method: name, code, locals, return, handlers -/
abbrev GM : Type := MethodName × ByteArray × Nat × Option FieldType × List (Nat × Nat × Nat × Nat)
def g_ad (E : GE) (o : Nat) : Nat := if o < 1000 then E.2.2.2.1.2.1 o else E.2.2.2.1.1 (o - 1000)
/-- a value of the machine out of a numbered one; .retAddr q stands for a reference to the cell q itself -/
def cv (E : GE) (v : Value) : Value := match v with
  | .ref a => .ref (g_ad E a)
  | .retAddr q => .ref q
  | v => v
theorem cv_cat (E : GE) (v : Value) : (cv E v).category = v.category := by cases v <;> rfl
def g_A (E : GE) : Nat → Prop := fun q => E.2.2.1 ≤ q
/-- fields' types by class -/
def g_ft : Nat → Nat → FieldType := fun c => match c with
  | 0 => tyX0 | 1 => tyX1 | 2 => tyX2 | 3 => tyX3 | 4 => tyX4 | 5 => tyX5 | 6 => tyX6 | _ => tyJ4
def g_N : Nat → Nat := fun c => match c with
  | 0 => 4 | 1 => 3 | 2 => 5 | 3 => 9 | 4 => 6 | 5 => 10 | 6 => 6 | _ => 4
def g_T : Nat → u_T := fun c => match c with
  | 0 => TX0 | 1 => TX1 | 2 => TX2 | 3 => TX3 | 4 => TX4 | 5 => TX5 | 6 => TX6 | _ => TJ4
def g_R : Nat → String := fun c => match c with
  | 0 => RX0 | 1 => RX1 | 2 => RX2 | 3 => RX3 | 4 => RX4 | 5 => RX5 | 6 => RX6 | _ => RJ4
/-- the class that has the fields -/
def g_D : Nat → String := fun c => match c with
  | 0 => RX0 | 1 => RX1 | 2 => RX2 | 3 => RX3 | 4 => RX4 | 5 => RX5 | 6 => RX6 | _ => RJ5
/-- array kinds' types -/
def g_et : Nat → FieldType := fun c => match c with
  | 8 => .int | 9 => .int | 10 => .boolean | 11 => .byte | 12 => .int | 13 => .object "HeapGames$Rule" | 14 => .object "HeapGames$State" | 15 => .byte | 16 => .int | _ => .boolean
def g_val (w : GW) (ty : FieldType) (o k : Nat) : Value := match ty with
  | .long => .long (w.2.1 o k)
  | .double => .double (w.2.2.2.1 o k)
  | .object _ => va_rf (w.2.2.1 o k)
  | .array _ => va_rf (w.2.2.1 o k)
  | _ => .int (w.1 o k)
/-- one Game: itself, its rules' array, its state with its row, six rules with two rows each -/
def g_game : List (Nat × Nat) := [(0, 4), (13, 6), (4, 6), (8, 40), (2, 5), (8, 301), (8, 301), (2, 5), (8, 301), (8, 301), (2, 5), (8, 301), (8, 301), (2, 5), (8, 301), (8, 301), (2, 5), (8, 301), (8, 301), (2, 5), (8, 301), (8, 301)]
/-- the objects in the order in which they are made: kind, length -/
def g_obL : List (Nat × Nat) := [(6, 6)] ++ g_game ++ [(5, 10), (11, 400)] ++ g_game ++ [(3, 9), (8, 262144), (8, 64), (8, 81), (1, 3), (14, 10),
  (4, 6), (8, 40), (4, 6), (8, 40), (4, 6), (8, 40), (4, 6), (8, 40), (4, 6), (8, 40), (4, 6), (8, 40), (4, 6), (8, 40), (4, 6), (8, 40), (4, 6), (8, 40), (4, 6), (8, 40),
  (14, 2), (10, 2), (4, 6), (8, 40), (4, 6), (8, 40),
  (17, 128), (7, 4), (15, 16), (15, 34), (15, 70), (15, 142), (16, 5), (16, 5), (16, 5), (16, 5), (16, 5), (16, 5), (16, 5)]
def g_ob (o : Nat) : Nat × Nat := g_obL.getD o (99, 0)
/-- which objects are told of: the late ones where E says so -/
def g_lv (E : GE) (o : Nat) : Prop := (g_ob o).1 < 15 ∨ E.2.2.2.1.2.2 o = true
def g_at (E : GE) (w : GW) (H : Heap) (o : Nat) : Prop :=
  ((g_ob o).1 < 8 → t_OB (g_ad E o) (E.1.1 (g_ob o).1) (g_N (g_ob o).1) (E.1.2 (g_ob o).1) H (fun k => cv E (g_val w (g_ft (g_ob o).1 k) o k))) ∧
  (¬ (g_ob o).1 < 8 → H[g_ad E o]? = some (arrV (E.2.1 (g_ob o).1) (g_ob o).2 (fun k => cv E (g_val w (g_et (g_ob o).1) o k))))
def g_Rp (E : GE) (w : GW) (H : Heap) : Prop :=
  E.2.2.1 ≤ H.size ∧ (w.2.2.2.2.2 = true → ∀ o, w.2.2.2.2.1 ≤ o → o < 1000 → g_ad E o = H.size + (o - w.2.2.2.2.1)) ∧ w.2.2.2.2.1 ≤ 1000 ∧
  (∀ o, o < w.2.2.2.2.1 → g_lv E o → E.2.2.1 ≤ g_ad E o ∧ g_ad E o < H.size ∧ g_at E w H o) ∧
  ∀ a b, a < w.2.2.2.2.1 → b < w.2.2.2.2.1 → g_lv E a → g_lv E b → g_ad E a = g_ad E b → a = b
theorem g_Rp.at {E : GE} {w : GW} {H : Heap} {o : Nat} (h : g_Rp E w H) (hn : o < w.2.2.2.2.1) (hl : g_lv E o) : g_at E w H o := (h.2.2.2.1 o hn hl).2.2
theorem g_Rp.ge {E : GE} {w : GW} {H : Heap} {o : Nat} (h : g_Rp E w H) (hn : o < w.2.2.2.2.1) (hl : g_lv E o) : E.2.2.1 ≤ g_ad E o := (h.2.2.2.1 o hn hl).1
theorem g_lvk {E : GE} {o c : Nat} (ho : (g_ob o).1 = c) (hc : c < 15) : g_lv E o := Or.inl (by rw [ho]; exact hc)
theorem g_at.kept {E : GE} {w : GW} {H H1 : Heap} {o : Nat} (h : g_at E w H o) (hq : H1[g_ad E o]? = H[g_ad E o]?) : g_at E w H1 o :=
  ⟨fun h8 => (h.1 h8).kept hq, fun h8 => hq.trans (h.2 h8)⟩
/-- the arrays' classes, known -/
def g_tys (E : GE) : List (ClassId × FieldType) := [(E.2.1 8, .int), (E.2.1 9, .int), (E.2.1 10, .boolean), (E.2.1 11, .byte), (E.2.1 12, .int), (E.2.1 13, .object "HeapGames$Rule"), (E.2.1 14, .object "HeapGames$State"), (E.2.1 15, .byte), (E.2.1 16, .int), (E.2.1 17, .boolean)]
theorem g_tyat (E : GE) {c : Nat} (h1 : 8 ≤ c) (h2 : c ≤ 17) : (g_tys E)[c - 8]? = some (E.2.1 c, g_et c) := by
  rcases (show c = 8 ∨ c = 9 ∨ c = 10 ∨ c = 11 ∨ c = 12 ∨ c = 13 ∨ c = 14 ∨ c = 15 ∨ c = 16 ∨ c = 17 by omega) with rfl | rfl | rfl | rfl | rfl | rfl | rfl | rfl | rfl | rfl <;> rfl
theorem g_clat {c : Nat} (h : c < 8) : vwCl[c]? = some (g_R c, g_T c, g_N c) := by
  rcases (show c = 0 ∨ c = 1 ∨ c = 2 ∨ c = 3 ∨ c = 4 ∨ c = 5 ∨ c = 6 ∨ c = 7 by omega) with rfl | rfl | rfl | rfl | rfl | rfl | rfl | rfl <;> rfl
/-- the private calls between nest mates -/
def g_nest : List (String × Nat × MethodName × String) := [(RX0, 19, yX4_init, RX6), (RX0, 24, yX2_init, RX6), (RX6, 18, yX5_init, RX6), (RX6, 25, yX3_init, RX6), (RX1, 24, yX4_init, RX6), (RX6, 47, yX4_init, RX6), (RX0, 47, yX6_bitsOf, RX6), (RX3, 97, yX6_passesOf, RX6), (RX3, 84, yX6_bitsOf, RX6), (RX3, 112, yX6_withBits, RX6), (RX4, 38, yX6_withBits, RX6)]
/-- String constants: class, place, text, number among the words (99: a message) -/
def g_strs : List (String × Nat × String × Nat) := [(RX6, 119, "what is out of range", 99), (RX6, 231, "there is no such heap", 99), (RX6, 279, "size is out of range", 99), (RX6, 269, "passes is out of range", 99), (RX6, 163, "there is no such rule", 99), (RX6, 271, "there are 4 heaps", 99), (RX6, 58, "bytes is out of range", 99), (RX6, 198, "there is no such move", 99), (RX6, 256, "the pass is not a move", 99), (RX5, 59, "rule", 0), (RX5, 68, "heap", 1), (RX5, 73, "shared", 2), (RX5, 78, "passes", 3), (RX5, 83, "misere", 4), (RX5, 168, "take", 5), (RX5, 170, "divisors", 6), (RX5, 172, "half", 7), (RX5, 174, "powers", 8), (RX5, 176, "squares", 9), (RL, 15, "rule ", 10), (RL, 26, " ", 11), (RL, 32, "divisors;", 12), (RL, 34, "half;", 13), (RL, 36, "powers;", 14), (RL, 38, "squares;", 15), (RL, 40, "take", 5), (RL, 45, ";", 16), (RL, 52, "heap ", 17), (RL, 54, "shared ", 18), (RL, 56, "passes ", 19), (RL, 58, "misere;", 20)]
def g_wl : List Nat := [4, 4, 6, 6, 6, 4, 8, 4, 6, 7, 5, 1, 9, 5, 7, 8, 1, 5, 7, 7, 7]
def g_wb : List (List Int32) := [[114, 117, 108, 101], [104, 101, 97, 112], [115, 104, 97, 114, 101, 100], [112, 97, 115, 115, 101, 115], [109, 105, 115, 101, 114, 101], [116, 97, 107, 101], [100, 105, 118, 105, 115, 111, 114, 115], [104, 97, 108, 102], [112, 111, 119, 101, 114, 115], [115, 113, 117, 97, 114, 101, 115], [114, 117, 108, 101, 32], [32], [100, 105, 118, 105, 115, 111, 114, 115, 59], [104, 97, 108, 102, 59], [112, 111, 119, 101, 114, 115, 59], [115, 113, 117, 97, 114, 101, 115, 59], [59], [104, 101, 97, 112, 32], [115, 104, 97, 114, 101, 100, 32], [112, 97, 115, 115, 101, 115, 32], [109, 105, 115, 101, 114, 101, 59]]
/-- the last digit and the first of what has two -/
def g_dgO : Nat → Int32 := fun j => nI (48 + j % 10)
def g_dgT : Nat → Int32 := fun j => nI (48 + j / 10)
def g_decl : List MethodName := [⟨"java/lang/RuntimeException", "<init>", "(Ljava/lang/String;)V"⟩, ⟨"java/lang/Exception", "<init>", "(Ljava/lang/String;)V"⟩, ⟨"java/lang/Throwable", "<init>", "(Ljava/lang/String;)V"⟩]
/-- what else holds of the state at any time: the launch without traces, the classes, the words that don't keep of themselves, the statics of Throwable, the String constants, the script -/
def g_K (E : GE) (l : Launch) (s : State) (H : Heap) : Prop :=
  l.stackTraces = false ∧ va_K E.1 vwCl (g_tys E) s ∧ (∀ q ∈ g_nest, va_Nw (.methodLinkNest q.1 q.2.1 q.2.2.1 q.2.2.2) s) ∧
  (va_AO "HeapGames$Rule" s ∧ va_AO "HeapGames$State" s) ∧
  (vx_Zq Bundle.tN "UNASSIGNED_STACK" Bundle.steD (g_A E) s H ∧ vx_Zq Bundle.tN "SUPPRESSED_SENTINEL" Bundle.listD (g_A E) s H) ∧
  (∀ q ∈ g_strs, ∃ a, vk_R q.1 q.2.1 q.2.2.1 a s ∧ (q.2.2.2 < 99 → a = E.2.2.2.1.1 (1 + q.2.2.2))) ∧
  vk_S 21 g_wl g_wb (fun i => E.2.2.2.1.1 (1 + i)) (fun i => E.2.2.2.1.1 (101 + i)) (g_A E) s H ∧
  (va_X (E.2.2.2.1.1 0) E.2.2.2.2.1 E.2.2.2.2.2 s H ∧ ¬ g_A E (E.2.2.2.1.1 0)) ∧
  (va_Nw (.castable "java/lang/IllegalArgumentException" "java/lang/IllegalArgumentException") s ∧ va_Nw (.castable "java/lang/IndexOutOfBoundsException" "java/lang/IndexOutOfBoundsException") s ∧ va_Nw (.castable "java/lang/IllegalStateException" "java/lang/IllegalStateException") s) ∧
  (va_Nc "java/lang/IllegalArgumentException" "java/lang/IllegalStateException" s ∧ va_Nc "java/lang/IndexOutOfBoundsException" "java/lang/IllegalStateException" s ∧ va_Nc "java/lang/IllegalArgumentException" "HeapGames$Rule" s) ∧
  (va_Z "java/lang/String" "COMPACT_STRINGS" "Z" (.int 1) (g_A E) s H ∧ va_Zq "jdk/internal/util/Preconditions" "SIOOBE_FORMATTER" "Ljava/util/function/BiFunction;" (g_A E) s H ∧
    (va_Z "java/lang/Integer" "DigitOnes" "[B" (.ref (E.2.2.2.1.1 201)) (g_A E) s H ∧ va_T .byte (E.2.2.2.1.1 201) 100 (fun j => .int (g_dgO j)) (g_A E) s H) ∧
    (va_Z "java/lang/Integer" "DigitTens" "[B" (.ref (E.2.2.2.1.1 202)) (g_A E) s H ∧ va_T .byte (E.2.2.2.1.1 202) 100 (fun j => .int (g_dgT j)) (g_A E) s H)) ∧
  (∀ x ∈ g_decl, va_Nw (.declares x) s)
theorem g_K.kept {E : GE} {l : Launch} {s : State} {H H1 : Heap} (h : g_K E l s H) (hq : ∀ a : Nat, a < H.size → ¬ g_A E a → H1[a]? = H[a]?) : g_K E l s H1 := by
  obtain ⟨h1, h2, h3, h4, ⟨h5, h6⟩, h7, h8, ⟨h9, h10⟩, h11, h12, ⟨h13, h14, ⟨h16, h17⟩, h18, h19⟩, h15⟩ := h
  have hlt : E.2.2.2.1.1 0 < H.size := by
    obtain ⟨scr, hs, -⟩ := h9
    exact (Array.getElem?_eq_some_iff.mp hs).1
  exact ⟨h1, h2, h3, h4, ⟨h5.kept hq, h6.kept hq⟩, h7, h8.kept hq, ⟨h9.kept (hq _ hlt h10), h10⟩, h11, h12, ⟨h13.kept hq, h14.kept hq, ⟨h16.kept hq, h17.kept hq⟩, h18.kept hq, h19.kept hq⟩, h15⟩
theorem g_K.warm {E : GE} {l : Launch} {s U : State} {H : Heap} (hW : s.WarmedH U.vm) (h : g_K E l s H) : g_K E l U H := by
  obtain ⟨h1, h2, h3, h4, ⟨h5, h6⟩, h7, h8, ⟨h9, h10⟩, ⟨h11, h11b, h11c⟩, ⟨h12, h12b, h12c⟩, ⟨h13, h14, ⟨h16, h17⟩, h18, h19⟩, h15⟩ := h
  have ha := hW.alike
  refine ⟨h1, h2.moved ha, fun q hq => va_Nw.warmM hW (h3 q hq), ⟨h4.1.moved ha, h4.2.moved ha⟩, ⟨h5.moved ha, h6.moved ha⟩, fun q hq => ?_, h8.moved ha, ⟨h9.moved ha, h10⟩, ⟨va_Nw.warmC hW h11, va_Nw.warmC hW h11b, va_Nw.warmC hW h11c⟩, ⟨h12.moved ha, h12b.moved ha, h12c.moved ha⟩, ⟨h13.moved ha, h14.moved ha, ⟨h16.moved ha, va_T.moved ha h17⟩, h18.moved ha, va_T.moved ha h19⟩, fun x hx => va_Nw.warmD hW (h15 x hx)⟩
  obtain ⟨a, g1, g2⟩ := h7 q hq
  exact ⟨a, vk_R.warm hW g1, g2⟩
theorem g_K.same {E : GE} {l : Launch} {u U : State} {H : Heap} (hv : U.vm = u.vm) (h : g_K E l u H) : g_K E l U H := h.warm (by rw [hv]; exact State.WarmedH.refl u)
/-- the words that keep -/
def sbPr : List MethodName := [yJ5_appendNull_278bc, yJ5_ensureCapacityInternal_d00df, yJ5_newCapacity_0f7a4, yJ5_putStringAt_47b60, yJ5_inflateIfNeededFor_a7421, yJ5_inflate_da8c8]
def sbSel : List Cond := sbPr.map fun y => Cond.selects RJ4 y y
def gw : List Cond := (sbSel ++ lw_tbl).filter goodWord
theorem gw_in {w : Cond} (h : w ∈ lw_tbl) (g : goodWord w = true) : w ∈ gw := List.mem_filter.mpr ⟨List.mem_append_right _ h, g⟩
theorem gw_sb {y : MethodName} (h : y ∈ sbPr) : Cond.selects RJ4 y y ∈ gw := List.mem_filter.mpr ⟨List.mem_append_left _ (List.mem_map.mpr ⟨y, h, rfl⟩), rfl⟩
theorem gw_at (i : Nat) {w : Cond} (h : tables_1[i]? = some w) (g : goodWord w = true) : w ∈ gw := gw_in (List.mem_append_right _ (List.mem_of_getElem? h)) g
theorem gw_sel (i : Nat) {q : MethodName × Nat} (h : lw_privs[i]? = some q) : Cond.selects q.1.cls q.1 q.1 ∈ gw := gw_in (List.mem_append_left _ (List.mem_map.mpr ⟨q, List.mem_of_getElem? h, rfl⟩)) rfl
def g_cd (μ : GM) : Cond := if μ.2.2.2.2 = [] then .code μ.1 μ.2.1 μ.2.2.1 μ.2.2.2.1 else .codeWith μ.1 μ.2.1 μ.2.2.1 μ.2.2.2.1 μ.2.2.2.2
def g_mw (μ : GM) : List Cond := g_cd μ :: gw
theorem g_cd_good (μ : GM) : goodWord (g_cd μ) = true := by unfold g_cd; split <;> rfl
theorem g_good {Ts : List Cond} {w : Cond} (h : w ∈ gw) (hT : ∀ w ∈ gw, w ∈ Ts) : w ∈ Ts ∧ ((w.onTables && w.keeps) = true ∨ ∃ ty, w = .arrayClass ty) := ⟨hT w h, good_of_word (List.mem_filter.mp h).2⟩
theorem g_mwgw (μ : GM) : ∀ w ∈ gw, w ∈ g_mw μ := fun _ h => List.mem_cons_of_mem _ h
theorem g_mwin {μ μ2 : GM} (h : g_cd μ2 ∈ gw) : GoodIn (g_mw μ) (g_mw μ2) := fun w hw => by
  rcases List.mem_cons.mp hw with rfl | hw
  · exact g_good h (g_mwgw μ)
  · exact g_good hw (g_mwgw μ)
/-- a method's frame: the machine, the code, the words, the state's facts -/
def g_Cx (E : GE) (l : Launch) (μ : GM) (p : Program) (s : State) (m : MethodId) (args : Array Value) (meth : Method) (c : Code) : Prop :=
  p.tables.exec = Jvm.exec ∧ c.code = μ.2.1 ∧ c.maxLocals = μ.2.2.1 ∧ s.vm.findClass μ.1.cls = some m.cls ∧ (∀ w ∈ g_mw μ, w.before args s = true) ∧ meth.sig.returnType = μ.2.2.2.1 ∧ meth.locks = false ∧
  c.exceptionTable.toList = tableOf μ.2.2.2.2 ∧ meth.name = μ.1.name ∧ g_K E l s s.heap ∧ E.2.2.1 ≤ s.heap.size
def g_ls (E : GE) (ls : List (Nat × Value)) : List (Nat × Value) := ls.map (fun q => (q.1, cv E q.2))
/-- from here, in any machine that stands so, the method comes to Fin -/
def g_Wp (E : GE) (l : Launch) (μ : GM) (R : Room) (Fin : List Frame → Array Value → State → State → Prop) (uc us pc : Nat) (ls : List (Nat × Value)) (st : List Value) (w : GW) : Prop :=
  ∀ (p : Program) (e : Env) (s : State) (m : MethodId) (args : Array Value) (below : List Frame) (meth : Method) (c : Code) (H : Heap) (locs : List Loc) (lsA : Array Slot),
    g_Cx E l μ p s m args meth c → g_Rp E w H → va_S (g_A E) s.heap H locs → lv_has lsA μ.2.2.1 (g_ls E ls) →
    W p l e R s m args below meth c H locs uc us (Fin below args s) (F0 m pc lsA (st.map (cv E)))
/-- .. and with a thing of class X thrown over it -/
def g_Wx (E : GE) (l : Launch) (μ : GM) (R : Room) (Fin : List Frame → Array Value → State → State → Prop) (uc us pc : Nat) (ls : List (Nat × Value)) (st : List Value) (w : GW) (X : String) : Prop :=
  ∀ (p : Program) (e : Env) (s : State) (m : MethodId) (args : Array Value) (below : List Frame) (meth : Method) (c : Code) (H : Heap) (locs : List Loc) (lsA : Array Slot) (q : Addr) (ce : Cell),
    g_Cx E l μ p s m args meth c → g_Rp E w H → va_S (g_A E) s.heap H locs → lv_has lsA μ.2.2.1 (g_ls E ls) → H[q]? = some ce → ce.vm = .none → s.vm.findClass X = some ce.cls →
    vx_W p l e R s m args below meth c H locs uc us (Fin below args s) (F0 m pc lsA (st.map (cv E))) q
abbrev GZ : Type := (String ⊕ Option Value) → GW → Prop
def g_Qc (E : GE) (Z : GZ) : Array Value → State → Outcome → State → Prop := fun _ st o t => ∃ (v : Option Value) (w : GW), o = .returned (v.map (cv E)) ∧ Z (.inr v) w ∧ g_Rp E w t.heap ∧ va_F (g_A E) st t
def g_XC (E : GE) (Z : GZ) : String → State → State → Prop := fun X st t => ∃ w : GW, Z (.inl X) w ∧ g_Rp E w t.heap ∧ va_F (g_A E) st t
def g_Fin (E : GE) (Z : GZ) (mc ms : Nat) : List Frame → Array Value → State → State → Prop := fun below args s => vx_MQ below (g_Qc E Z) (g_XC E Z) args s mc ms (g_A E)
def g_Pc (E : GE) (l : Launch) (as : List Value) (w : GW) : Array Value → State → Prop := fun a U => a = (as.map (cv E)).toArray ∧ g_Rp E w U.heap ∧ g_K E l U U.heap ∧ E.2.2.1 ≤ U.heap.size
/-- a method called with these arguments in this world returns or throws as Z says -/
def g_Ct (E : GE) (l : Launch) (μ : GM) (f q mc ms : Nat) (as : List Value) (w : GW) (Z : GZ) : Prop :=
  vx_Met l μ.1 (g_mw μ) { frames := f, cells := mc, slots := ms, locals := q } (g_Pc E l as w) (g_Qc E Z) (g_XC E Z) mc ms (g_A E)
theorem g_Pc.blind {E : GE} {l : Launch} {as : List Value} {w : GW} : FrameBlind (g_Pc E l as w) := fun _ U g mk ⟨h1, h2, h3, h4⟩ => ⟨h1, h2, g_K.same (u := U) (U := U.calling g mk _) rfl h3, h4⟩
theorem g_args (E : GE) : ∀ (as : List Value) (i : Nat), lv_args i (as.map (cv E)) = g_ls E (lv_args i as)
  | [], _ => rfl
  | v :: vs, i => by
    show (i, cv E v) :: lv_args (if (cv E v).category = 2 then i + 2 else i + 1) (vs.map (cv E)) = (i, cv E v) :: g_ls E (lv_args (if v.category = 2 then i + 2 else i + 1) vs)
    rw [cv_cat, g_args E vs]
theorem g_slen (E : GE) (as : List Value) : (lg_sl (as.map (cv E))).length = (lg_sl as).length := by
  induction as with
  | nil => rfl
  | cons v vs ih =>
    show ((if (cv E v).category = 2 then [Slot.val (cv E v), .second] else [.val (cv E v)]) ++ lg_sl (vs.map (cv E))).length = ((if v.category = 2 then [Slot.val v, .second] else [.val v]) ++ lg_sl vs).length
    rw [List.length_append, List.length_append, ih, cv_cat]
    split <;> rfl
/-- A CONTRACT OUT OF A WALK -/
theorem g_Ct.of {E : GE} {l : Launch} {μ : GM} {f q mc ms : Nat} {as : List Value} {w : GW} {Z : GZ} (hp : plainName μ.1.cls = true) (hlen : (lg_sl as).length ≤ μ.2.2.1)
    (k : g_Wp E l μ { frames := f, cells := mc, slots := ms, locals := q } (g_Fin E Z mc ms) 0 0 0 (lv_args 0 as) [] w) : g_Ct E l μ f q mc ms as w Z := by
  have body : ∀ p e s m args below meth c s₁, BodyLoose p l μ.1 (headSpec (g_mw μ) { frames := f, cells := mc, slots := ms, locals := q }) μ.2.1 μ.2.2.1 μ.2.2.2.1 e s m args below meth c s₁ → c.maxLocals = μ.2.2.1 → c.exceptionTable.toList = tableOf μ.2.2.2.2 → g_Pc E l as w args s →
      W p l e { frames := f, cells := mc, slots := ms, locals := q } s m args below meth c s.heap [] 0 0 (vx_MQ below (g_Qc E Z) (g_XC E Z) args s mc ms (g_A E)) (entryFrame m args μ.2.2.1) := by
    intro p e s m args below meth c s₁ B hml ht hv
    obtain ⟨rfl, hR, hK, hb0⟩ := hv
    have hts := atoms_spec (ws := g_mw μ) B.pre
    have hown : s.vm.findClass μ.1.cls = some m.cls := findClass_of_methodNamed B.named
    have hin : meth.name = μ.1.name := (name_of_methodNamed B.named B.method).1
    have hl := lv_entry (as.map (cv E)) (n := μ.2.2.1) (by rw [g_slen]; exact hlen)
    rw [lg_entry_eq]
    rw [g_args] at hl
    exact k p e s m _ below meth c s.heap [] _ ⟨B.exec, B.bytes, hml, hown, hts, B.returns, B.notSynchronized, ht, hin, hK, hb0⟩ hR va_S.rf hl
  by_cases hh : μ.2.2.2.2 = []
  · refine vx_ofW (cc := μ.2.1) (maxL := μ.2.2.1) (ret := μ.2.2.2.1) (ws' := gw) hp (by unfold g_mw g_cd; rw [if_pos hh]) ?_
    intro p e s m args below meth c s₁ B hml ht hv
    refine body p e s m args below meth c s₁ B hml ?_ hv
    rw [hh]
    cases hx : c.exceptionTable.toList with
    | nil => rfl
    | cons a b => exact (ht a (by rw [hx]; exact List.mem_cons_self)).elim
  · refine vx_ofWH (cc := μ.2.1) (maxL := μ.2.2.1) (ret := μ.2.2.2.1) (ws' := gw) (hh := μ.2.2.2.2) hp (by unfold g_mw g_cd; rw [if_neg hh]) ?_
    intro p e s m args below meth c s₁ B hml hv
    refine body p e s m args below meth c s₁ B hml ?_ hv
    have hts := atoms_spec (ws := g_mw μ) B.pre
    have h9 := hts _ List.mem_cons_self
    unfold g_cd at h9
    rw [if_neg hh] at h9
    exact vx_table (x := μ.1) B h9
