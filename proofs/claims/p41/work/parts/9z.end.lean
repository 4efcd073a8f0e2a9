/-! THE CLAIM OUT OF ONE WALK OF THE LAW'S BODY. Your part is whole_start (and what it stands on); all else here is the same for every law, but numbers. -/
def R_law : String := "HeapGamesLaw"
def lw_P (b : Addr) (xs : List Int32) (args : Array Value) (s : State) : Prop := args = #[.ref b] ∧ s.IntsAt b xs ∧ xs.length ≤ 260 ∧ (Jvm.Cond.and given_1 narrow_1).before args s = true
def lw_Q (_ : Array Value) (s : State) (o : Outcome) (t : State) : Prop := o = .returned (some (.int 1)) ∧ Framed s o t [] 600086 7301442
def lw_Z (below : List Frame) (a : Array Value) (s : State) : State → Prop := fun t => ∃ o, t.status = .running ∧ Ended t below o ∧ lw_Q a s o t
/-- the law's own end, with 1 on the stack, nothing written that was there before, its room as the claim has it -/
theorem lw_ret {p : Program} {l : Launch} {e : Env} {s : State} {m : MethodId} {below : List Frame} {meth : Method} {c : Code} {b : Nat} (hx : p.tables.exec = Jvm.exec) (hb : c.code = code) (hr : meth.sig.returnType = ret) (hlocks : meth.locks = false) {pc : Nat} {H : Heap} {ls : Array Slot} (hdg : decode code pc = .ok (.ireturn, 1)) : W p l e room_1 s m #[Value.ref b] below meth c H [] 600086 7301442 (lw_Z below #[Value.ref b] s) (F0 m pc ls [.int 1]) := by
  intro T hT X
  obtain ⟨fs, hret, hrun, hended, hW, hframe⟩ := X.leave (v := some (.int 1)) (hlocks := hlocks) (fun h => by rw [hr] at h; cases h)
  have hmeth' : T.vm.method? m = some meth := X.method'
  refine ⟨T.setFrames fs, ?_, .returned (some (.int 1)), hrun, hended, rfl, ⟨_, rfl⟩, hW, hframe⟩
  jvm_step X.here [X.here.top, hx, hb, hdg, hmeth', hr, ret, narrow_b1]
  (try refine ⟨rfl, ?_⟩); (try refine ⟨rfl, ?_⟩)
  first | (intro acts; rw [hret _ acts rfl rfl rfl]) | rw [hret _ _ rfl rfl rfl]
  exact Steps.refl _
/-- what holds at the law's entry: the machine, the code, the tables' words (any of lw_tbl by 'hts w (by decide +kernel)'), the script of L ints xs at the cell b, what the Statement gives of the start (any of its parts by flat_of_before) -/
def lw_At (p : Program) (s : State) (m : MethodId) (meth : Method) (c : Code) (b L : Nat) (xs : Nat → Int32) : Prop :=
  p.tables.exec = Jvm.exec ∧ c.code = code ∧ meth.sig.returnType = ret ∧ c.maxLocals = 6 ∧ s.vm.findClass R_law = some m.cls ∧ (∀ w ∈ lw_tbl, w.before #[Value.ref b] s = true) ∧ va_X b L xs s s.heap ∧ b < s.heap.size ∧ meth.locks = false ∧ (Jvm.Cond.and given_1 narrow_1).before #[Value.ref b] s = true ∧ c.exceptionTable.toList = [] ∧ meth.name = "law" ∧ (Jvm.Cond.code x code maxLocals ret).before #[Value.ref b] s = true
/-- the law's end, whatever the arguments -/
theorem lw_retA {p : Program} {l : Launch} {e : Env} {s : State} {m : MethodId} {args : Array Value} {below : List Frame} {meth : Method} {c : Code} (hx : p.tables.exec = Jvm.exec) (hb : c.code = code) (hr : meth.sig.returnType = ret) (hlocks : meth.locks = false) {pc : Nat} {H : Heap} {ls : Array Slot} (hdg : decode code pc = .ok (.ireturn, 1)) : W p l e room_1 s m args below meth c H [] 600086 7301442 (lw_Z below args s) (F0 m pc ls [.int 1]) := by
  intro T hT X
  obtain ⟨fs, hret, hrun, hended, hW, hframe⟩ := X.leave (v := some (.int 1)) (hlocks := hlocks) (fun h => by rw [hr] at h; cases h)
  have hmeth' : T.vm.method? m = some meth := X.method'
  refine ⟨T.setFrames fs, ?_, .returned (some (.int 1)), hrun, hended, rfl, ⟨_, rfl⟩, hW, hframe⟩
  jvm_step X.here [X.here.top, hx, hb, hdg, hmeth', hr, ret, narrow_b1]
  (try refine ⟨rfl, ?_⟩); (try refine ⟨rfl, ?_⟩)
  first | (intro acts; rw [hret _ acts rfl rfl rfl]) | rw [hret _ _ rfl rfl rfl]
  exact Steps.refl _
def lwF (n : Nat) (below : List Frame) (args : Array Value) (s : State) : State → Prop := fun t => s.heap.size = n → lw_Z below args s t
theorem lw_hret (E : GE) (l : Launch) : ∀ uc us ls w, uc ≤ 600086 → us ≤ 7301442 → g_Wp E l mLaw rmL (lwF E.2.2.1) uc us 273 ls [.int 1] w := by
  intro uc us ls w hu hs p e s m args below meth c H locs lsA C hR hS hl
  by_cases hz : s.heap.size = E.2.2.1
  · have hf : W p l e room_1 s m args below meth c H ([] ++ locs) 600086 7301442 (lw_Z below args s) (F0 m 273 lsA [.int 1]) := W.forget (fun q hq => Nat.le_trans (Nat.le_of_eq hz) (hS.2.2 q hq)) (lw_retA C.1 C.2.1 C.2.2.2.2.2.1 C.2.2.2.2.2.2.1 dL_law_273)
    have hf2 : W p l e room_1 s m args below meth c H locs uc us (lw_Z below args s) (F0 m 273 lsA [.int 1]) := W.widen hu hs hf
    intro T hT X
    obtain ⟨t, a1, b1⟩ := hf2 T hT X
    exact ⟨t, a1, fun _ => b1⟩
  · intro T hT X
    exact ⟨_, Steps.refl _, fun q => absurd q hz⟩
theorem whole_start {p : Program} {e : Env} {s : State} {m : MethodId} {below : List Frame} {meth : Method} {c : Code} (l : Launch) (hflags : l.flags = flags0) {b L : Nat} {xs : Nat → Int32} (hL : L ≤ 260) (C0 : lw_At p s m meth c b L xs) : W p l e room_1 s m #[Value.ref b] below meth c s.heap [] 0 0 (lw_Z below #[Value.ref b] s) (entryFrame m ([Value.ref b] : List Value).toArray 6) := by
  obtain ⟨c1, c2, c3, c4, c5, c6, c7, c8, c9, c10, c11, c12, c13⟩ := C0
  have hgw : ∀ w ∈ gw, w.before #[Value.ref b] s = true := st_gw c6
  have hg := flat_of_before _ c10
  obtain ⟨Dv, hD⟩ := st_cl hgw
  obtain ⟨fa, hfa⟩ := st_arr hgw c6
  have hA : ∀ a : Nat, a < s.heap.size → ¬ (s.heap.size ≤ a) := fun a h => Nat.not_le_of_lt h
  obtain ⟨adK, adV, hS, hR⟩ := st_str c6 hg (A := fun q => s.heap.size ≤ q) hA
  obtain ⟨dO, dT, hdO, hdT⟩ := st_dg c6 hg (A := fun q => s.heap.size ≤ q) hA
  obtain ⟨out, e0, e1, e2, e3, e4⟩ : ∃ out : Nat → Nat, out 0 = b ∧ (∀ i, i < 21 → out (1 + i) = adK i) ∧ (∀ i, i < 21 → out (101 + i) = adV i) ∧ out 201 = dO ∧ out 202 = dT := by
    refine ⟨fun j => if j = 0 then b else if j ≤ 100 then adK (j - 1) else if j = 201 then dO else if j = 202 then dT else adV (j - 101), rfl, fun i hi => ?_, fun i hi => ?_, rfl, rfl⟩
    · show (if 1 + i = 0 then b else if 1 + i ≤ 100 then adK (1 + i - 1) else _) = adK i
      rw [if_neg (by omega), if_pos (by omega), Nat.add_sub_cancel_left]
    · show (if 101 + i = 0 then b else if 101 + i ≤ 100 then _ else if 101 + i = 201 then dO else if 101 + i = 202 then dT else adV (101 + i - 101)) = adV i
      rw [if_neg (by omega), if_neg (by omega), if_neg (by omega), if_neg (by omega), Nat.add_sub_cancel_left]
  have hK : g_K (Dv, fa, s.heap.size, (out, (fun o => s.heap.size + o), fun _ => true), L, xs) l s s.heap := by
    refine ⟨by unfold Launch.stackTraces; rw [hflags]; decide, ⟨hD, fun k q hq => ?_⟩, st_nest c6, st_ao c6, st_zq c6 hg hA, fun q hq => ?_, ⟨fun i hi => ?_, fun i j hi hj he => ?_⟩, ⟨?_, ?_⟩, st_nw c6, st_nc hg, ⟨(st_z c6 hg hA).1, (st_z c6 hg hA).2, ?_, ?_⟩, st_decl c6⟩
    · have hk : k < 10 := (List.getElem?_eq_some_iff.mp hq).1
      have h9 := g_tyat (Dv, fa, s.heap.size, (out, (fun o => s.heap.size + o), fun _ => true), L, xs) (c := k + 8) (by omega) (by omega)
      rw [Nat.add_sub_cancel] at h9
      rw [h9] at hq
      cases hq
      exact hfa (k + 8) (by omega) (by omega)
    · obtain ⟨a, h1, h2⟩ := hR q hq
      refine ⟨a, h1, fun z => ?_⟩
      show a = out (1 + q.2.2.2)
      rw [e1 _ (h2 z).1]
      exact (h2 z).2
    · have h1 := hS.1 i hi
      show va_O "java/lang/String" (out (1 + i)) _ s s.heap ∧ va_OF "java/lang/String" "coder" "B" (.int 0) (out (1 + i)) _ s s.heap ∧ va_OF "java/lang/String" "value" "[B" (.ref (out (101 + i))) (out (1 + i)) _ s s.heap ∧ va_T .byte (out (101 + i)) _ _ _ s s.heap
      rw [e1 i hi, e2 i hi]
      exact h1
    · have he' : out (1 + i) = out (1 + j) := he
      rw [e1 i hi, e1 j hj] at he'
      exact hS.2 i j hi hj he'
    · show va_X (out 0) L xs s s.heap
      rw [e0]
      exact c7
    · show ¬ s.heap.size ≤ out 0
      rw [e0]
      exact Nat.not_le_of_lt c8
    · show va_Z "java/lang/Integer" "DigitOnes" "[B" (.ref (out 201)) _ s s.heap ∧ va_T .byte (out 201) 100 _ _ s s.heap
      rw [e3]
      exact hdO
    · show va_Z "java/lang/Integer" "DigitTens" "[B" (.ref (out 202)) _ s s.heap ∧ va_T .byte (out 202) 100 _ _ s s.heap
      rw [e4]
      exact hdT
  have hl := lv_entry ([Value.ref b]) (n := 6) (lb rfl)
  have k := law_all (E := (Dv, fa, s.heap.size, (out, (fun o => s.heap.size + o), fun _ => true), L, xs)) (l := l) (Φ := lwF s.heap.size) hL (lw_hret (Dv, fa, s.heap.size, (out, (fun o => s.heap.size + o), fun _ => true), L, xs) l)
  rw [lg_entry_eq]
  have hls : lv_args 0 [Value.ref b] = g_ls (Dv, fa, s.heap.size, (out, (fun o => s.heap.size + o), fun _ => true), L, xs) [(0, .ref 1000)] := by
    show [(0, Value.ref b)] = [(0, Value.ref (out 0))]
    rw [e0]
  rw [hls] at hl
  have hmw : ∀ w ∈ g_mw mLaw, w.before #[Value.ref b] s = true := by
    intro w hw
    rcases List.mem_cons.mp hw with rfl | hw
    · exact c13
    · exact hgw w hw
  have kk := k p e s m #[Value.ref b] below meth c s.heap [] _ ⟨c1, c2, c4, c5, hmw, c3, c9, c11, c12, hK, Nat.le_refl _⟩ ⟨Nat.le_refl _, fun _ o _ ho => if_pos ho, Nat.zero_le _, fun o ho => absurd ho (Nat.not_lt_zero o), fun a _ ha => absurd ha (Nat.not_lt_zero a)⟩ va_S.rf hl
  intro T hT X
  obtain ⟨t, a1, b1⟩ := kk T hT X
  exact ⟨t, a1, b1 rfl⟩
set_option maxHeartbeats 4000000 in
theorem lw_walk (l : Launch) (hflags : l.flags = flags0) (b : Addr) (xs : List Int32) : MetFree l x (headSpec (Jvm.Cond.code x code maxLocals ret :: tables_1) room_1) (lw_P b xs) (fun _ _ _ _ _ => True) lw_Q := by
  refine MetFree.of_bodyS (code := code) (maxLocals := maxLocals) (ret := ret) (by decide) ?_ ?_
  · intro args s m h hn
    obtain ⟨meth, c, h1, h2, h3, h4, h5, h6, -, -⟩ := Cond.code_spec hn (atoms_spec (ws := Jvm.Cond.code x code maxLocals ret :: tables_1) h _ List.mem_cons_self)
    exact ⟨meth, c, h1, h2, h3, h4, h5, h6⟩
  · intro p e s m args below meth c s₁ B hml0 hP _
    obtain ⟨rfl, hx, hbd, hgv⟩ := hP
    obtain ⟨scr, harrAt, hlist, hof, hsmall⟩ := hx
    obtain ⟨hcb, hkn, -, -⟩ := State.arrayAt?_spec harrAt
    have hown : s.vm.findClass R_law = some m.cls := findClass_of_methodNamed B.named
    have hts0 : ∀ c ∈ (Jvm.Cond.code x code maxLocals ret :: tables_1), c.before #[Value.ref b] s = true := atoms_spec (ws := Jvm.Cond.code x code maxLocals ret :: tables_1) B.pre
    have hts : ∀ w ∈ lw_tbl, w.before #[Value.ref b] s = true := k2_hts_sels lw_privs (fun w hw => hts0 w (List.mem_cons_of_mem _ hw)) lw_privs_ok
    have hml : c.maxLocals = 6 := B.maxLocals_eq (hts0 _ List.mem_cons_self)
    have X₀ : Stand p l e room_1 s m #[Value.ref b] below meth c s₁ [] 0 0 := Stand.of_body B
    have hh0 : s₁.heap = s.heap := by rw [B.state]; rfl
    have hsz : scr.slots.size = xs.length := by rw [← Array.length_toList, hlist, List.length_map]
    have hval : ∀ j : Nat, j < xs.length → scr.slots[j]? = some (.int (xs.getD j 0)) := fun j hj => by
      rw [← Array.getElem?_toList, hlist]
      simp [hj]
    have hbl : b < s.heap.size := (Array.getElem?_eq_some_iff.mp hcb).1
    have hX : va_X b xs.length (fun j => xs.getD j 0) s s.heap := ⟨scr, hcb, hof, hkn, hsz, hval⟩
    have K : W p l e room_1 s m #[Value.ref b] below meth c s₁.heap [] 0 0 (lw_Z below #[Value.ref b] s) (entryFrame m ([Value.ref b] : List Value).toArray 6) := by
      rw [hh0]
      have htb : c.exceptionTable.toList = [] := by
        obtain ⟨meth9, c9, h1, h2, -, -, -, -, h7, -⟩ := Cond.code_spec B.named (hts0 _ List.mem_cons_self)
        cases Option.some.inj (h1.symm.trans B.method)
        cases Option.some.inj (h2.symm.trans (Stand.of_body B).code)
        rw [Array.isEmpty_iff.mp h7]
      exact whole_start l hflags hbd ⟨B.exec, B.bytes, B.returns, hml, hown, hts, hX, hbl, B.notSynchronized, hgv, htb, (name_of_methodNamed B.named B.method).1, hts0 _ List.mem_cons_self⟩
    obtain ⟨t, a1, o, b1, b2, b3⟩ := K s₁ rfl X₀
    exact ⟨t, o, a1, b1, b2, b3⟩
theorem lw_pre_spec {args : Array Value} {s : State} (h : (Jvm.Cond.and given_1 narrow_1).before args s = true) (hr : rest_1_c.before args s = true) : ∃ (b : Addr) (xs : List Int32), lw_P b xs args s := by
  have hs := flat_of_before _ h
  have hq := flat_of_before _ hr
  have hc : (Cond.count 1).before args s = true := hs _ (by decide +kernel)
  have harr : (Cond.arrayOf (.arg 0) .int).before args s = true := hs _ (by decide +kernel)
  have hle : (Cond.le (.length (.arg 0)) (.int 260)).before args s = true := hs _ (by decide +kernel)
  have hlen : (Cond.isInt (.length (.arg 0))).before args s = true := hq _ (by decide +kernel)
  have hall : (Cond.all (.arg 0) (.isInt (.elem (.arg 0) (.index 0)))).before args s = true := hq _ (by decide +kernel)
  obtain ⟨b, xs, hb, hx⟩ := State.ints_of_pre rfl harr hlen hall
  have hsm : xs.length < 2 ^ 31 := hx.choose_spec.2.2.2
  have hev : (Term.length (.arg 0)).eval args s none [] s = some (.int xs.length.toInt32) := hx.length_eval hb
  have hv := Cond.le_ints hev (show (Term.int 260).eval args s none [] s = some (.int 260) from rfl)
  have hd : xs.length.toInt32 ≤ 260 := by
    simpa [Cond.before, Cond.holds, hv] using hle
  have hN : xs.length ≤ 260 := (Int32.ofNat_le_ofNat hsm (by decide)).mp (show Int32.ofNat xs.length ≤ Int32.ofNat 260 from hd)
  exact ⟨b, xs, Cond.one_arg hc (show args[0]? = some (.ref b) from hb), hx, hN, h⟩
theorem lw_comes (l : Launch) (hflags : l.flags = flags0) : Comes l x (Jvm.Cond.code x code maxLocals ret :: tables_1) room_1 (fun tb e args s => Calls_1 tb e args s ∧ rest_1 tb e args s ∧ Pre_1 tb e args s)
    (fun _ _ args s o t => lw_Q args s o t) := by
  intro p e ha hc hk s m args below hf hfit hheap happ hpre
  obtain ⟨b, xs, hP⟩ := lw_pre_spec hpre.2.2 hpre.2.1
  obtain ⟨k, o, h1, h2, h3, hQ⟩ := lw_walk l hflags b xs p e ha hc hk s m args below hf ((Spec.applies_iff_loose hf).mp happ).1 hP trivial
  exact ⟨k, o, h1, h2, h3, hQ⟩
theorem lw_frame {s t : State} {o : Outcome} {args : Array Value} (h : Framed s o t [] 600086 7301442) :
    Framed s o t (fieldLocs frame_1_writes args s ++ arrayLocs frame_1_arrays args s ++ staticLocs frame_1_statics s) 600086 7301442 := h
theorem lw_limb (L : Cond) (hL : ∀ (args : Array Value) (s t : State), L.after args s (.returned (some (.int 1))) t = true) :
    ArmFor flags0 classFile x code maxLocals ret World_1 tables_1 room_1 Calls_1 rest_1 Pre_1
      (fun tb e a s o t => postC L tb e a s o t ∧ Framed s o t (fieldLocs frame_1_writes a s ++ arrayLocs frame_1_arrays a s ++ staticLocs frame_1_statics s) 600086 7301442) := by
  intro l hflags _ _ p e ha hc hk s m args below hf hfit hheap happ hpre
  obtain ⟨k, o, h1, h2, h3, rfl, hF⟩ := lw_comes l hflags p e ha hc hk s m args below hf hfit hheap happ hpre
  exact ⟨k, _, h1, h2, h3, hL args s _, lw_frame hF⟩
theorem i_vc : Claimed_1_1 ∧ Claimed_1_2 := ⟨lw_limb limb_1_1 (fun args s t => by simp [limb_1_1, Cond.after, Cond.holds, Cond.value]), lw_limb limb_1_2 (fun args s t => Cond.after_iff.mpr (by
  first | (rw [show limb_1_2 = Cond.eq .result (.int 1) from rfl, Cond.eq_ints (x := 1) (y := 1) rfl rfl]; simp; done) | (simp [limb_1_2, Cond.value, Term.eval]; done)))⟩
