/-! ROWS: calls that throw; HeapGames: what stands -/
section GT4
variable {E : GE} {l : Launch} {μ : GM} {Rm : Room} {Φ : List Frame → Array Value → State → State → Prop} {uc us pc : Nat} {ls : List (Nat × Value)} {st rest : List Value} {Z : GZ} {mc ms : Nat}
variable {idx m f2 q2 mc2 ms2 : Nat} {μ2 : GM} {as : List Value} {w w2 : GW} {r : Option Value} {X : String}
theorem t_callS (hd : decode μ.2.1 pc = .ok (.invokestatic idx, 3)) (hk : g_lkS μ.1.cls idx m μ2) (as : List Value) (hst : st = as.reverse ++ rest) (hC : g_Ct E l μ2 f2 q2 mc2 ms2 as w (g_ths X w2)) (hn : as.length = m) (hR8 : (f2 + 1 ≤ Rm.frames ∧ 8 + (μ2.2.2.1 + 11) + q2 ≤ Rm.locals) ∧ uc + mc2 ≤ Rm.cells ∧ us + ms2 ≤ Rm.slots) (hr8 : (rest.map fun v => v.category).sum ≤ 8)
    (kx : g_Wx E l μ Rm Φ (uc + mc2) (us + ms2) pc ls rest w2 X) : g_Wp E l μ Rm Φ uc us pc ls st w :=
  w_callS hd hk hC hst hn hR8 hr8 (fun v w' h => by cases h.1) (fun X w' h => by obtain ⟨h1, h2⟩ := h; cases h1; subst h2; exact kx)
theorem t_callSN (hd : decode μ.2.1 pc = .ok (.invokestatic idx, 3)) (hk : g_lkSN μ.1.cls idx m μ2) (as : List Value) (hst : st = as.reverse ++ rest) (hC : g_Ct E l μ2 f2 q2 mc2 ms2 as w (g_ths X w2)) (hn : as.length = m) (hR8 : (f2 + 1 ≤ Rm.frames ∧ 8 + (μ2.2.2.1 + 11) + q2 ≤ Rm.locals) ∧ uc + mc2 ≤ Rm.cells ∧ us + ms2 ≤ Rm.slots) (hr8 : (rest.map fun v => v.category).sum ≤ 8)
    (kx : g_Wx E l μ Rm Φ (uc + mc2) (us + ms2) pc ls rest w2 X) : g_Wp E l μ Rm Φ uc us pc ls st w :=
  w_callSN hd hk hC hst hn hR8 hr8 (fun v w' h => by cases h.1) (fun X w' h => by obtain ⟨h1, h2⟩ := h; cases h1; subst h2; exact kx)
theorem t_callSX (hd : decode μ.2.1 pc = .ok (.invokestatic idx, 3)) (hk : g_lkSX μ.1.cls idx m μ2) (as : List Value) (hst : st = as.reverse ++ rest) (hC : g_Ct E l μ2 f2 q2 mc2 ms2 as w (g_ths X w2)) (hn : as.length = m) (hR8 : (f2 + 1 ≤ Rm.frames ∧ 8 + (μ2.2.2.1 + 11) + q2 ≤ Rm.locals) ∧ uc + mc2 ≤ Rm.cells ∧ us + ms2 ≤ Rm.slots) (hr8 : (rest.map fun v => v.category).sum ≤ 8)
    (kx : g_Wx E l μ Rm Φ (uc + mc2) (us + ms2) pc ls rest w2 X) : g_Wp E l μ Rm Φ uc us pc ls st w :=
  w_callSX hd hk hC hst hn hR8 hr8 (fun v w' h => by cases h.1) (fun X w' h => by obtain ⟨h1, h2⟩ := h; cases h1; subst h2; exact kx)
theorem t_callV {o : Nat} (hd : decode μ.2.1 pc = .ok (.invokevirtual idx, 3)) (hk : g_lkV μ.1.cls idx m μ2) (As : List Value) (hst : st = As.reverse ++ .ref o :: rest) (hC : g_Ct E l μ2 f2 q2 mc2 ms2 (.ref o :: As) w (g_ths X w2)) (hrv : g_recv E l w o μ2.1.cls) (hn : As.length = m) (hR8 : (f2 + 1 ≤ Rm.frames ∧ 8 + (μ2.2.2.1 + 11) + q2 ≤ Rm.locals) ∧ uc + mc2 ≤ Rm.cells ∧ us + ms2 ≤ Rm.slots) (hr8 : (rest.map fun v => v.category).sum ≤ 8)
    (kx : g_Wx E l μ Rm Φ (uc + mc2) (us + ms2) pc ls rest w2 X) : g_Wp E l μ Rm Φ uc us pc ls st w :=
  w_callV hd hk hC hrv hst hn hR8 hr8 (fun v w' h => by cases h.1) (fun X w' h => by obtain ⟨h1, h2⟩ := h; cases h1; subst h2; exact kx)
theorem t_callI {o : Nat} (hd : decode μ.2.1 pc = .ok (.invokespecial idx, 3)) (hk : g_lkI μ.1.cls idx m μ2) (As : List Value) (hst : st = As.reverse ++ .ref o :: rest) (hC : g_Ct E l μ2 f2 q2 mc2 ms2 (.ref o :: As) w (g_ths X w2)) (hn : As.length = m) (hR8 : (f2 + 1 ≤ Rm.frames ∧ 8 + (μ2.2.2.1 + 11) + q2 ≤ Rm.locals) ∧ uc + mc2 ≤ Rm.cells ∧ us + ms2 ≤ Rm.slots) (hr8 : (rest.map fun v => v.category).sum ≤ 8)
    (kx : g_Wx E l μ Rm Φ (uc + mc2) (us + ms2) pc ls rest w2 X) : g_Wp E l μ Rm Φ uc us pc ls st w :=
  w_callI hd hk hC hst hn hR8 hr8 (fun v w' h => by cases h.1) (fun X w' h => by obtain ⟨h1, h2⟩ := h; cases h1; subst h2; exact kx)
theorem t_callIN {o : Nat} (hd : decode μ.2.1 pc = .ok (.invokespecial idx, 3)) (hk : g_lkIN μ.1.cls idx m μ2) (As : List Value) (hst : st = As.reverse ++ .ref o :: rest) (hC : g_Ct E l μ2 f2 q2 mc2 ms2 (.ref o :: As) w (g_ths X w2)) (hn : As.length = m) (hR8 : (f2 + 1 ≤ Rm.frames ∧ 8 + (μ2.2.2.1 + 11) + q2 ≤ Rm.locals) ∧ uc + mc2 ≤ Rm.cells ∧ us + ms2 ≤ Rm.slots) (hr8 : (rest.map fun v => v.category).sum ≤ 8)
    (kx : g_Wx E l μ Rm Φ (uc + mc2) (us + ms2) pc ls rest w2 X) : g_Wp E l μ Rm Φ uc us pc ls st w :=
  w_callIN hd hk hC hst hn hR8 hr8 (fun v w' h => by cases h.1) (fun X w' h => by obtain ⟨h1, h2⟩ := h; cases h1; subst h2; exact kx)
end GT4
abbrev St : Type := List (Nat × Nat) × Nat × Bool × List Mv
abbrev St.hs (s : St) : List (Nat × Nat) := s.1
abbrev St.ps (s : St) : Nat := s.2.1
abbrev St.mi (s : St) : Bool := s.2.2.1
abbrev St.pl (s : St) : List Mv := s.2.2.2
def St.rs (s : St) : List Nat := s.hs.map Prod.fst
def St.zs (s : St) : List Nat := s.hs.map Prod.snd
def St.pos (s : St) : Nat := pk4 s.zs + 2 ^ 16 * s.ps
def mvW (m : Mv) : Prop := match m with
  | .inl y => y.1 < 4 ∧ 1 ≤ y.2 ∧ y.2 ≤ 15
  | .inr (.inl y) => y.1 < y.2.1 ∧ y.2.1 < 4 ∧ 1 ≤ y.2.2 ∧ y.2.2 ≤ 15
  | .inr (.inr _) => True
def stOK (nr : Nat) (s : St) : Prop := s.hs.length ≤ 4 ∧ (∀ x ∈ s.hs, x.1 < nr ∧ x.2 ≤ 15) ∧ s.ps ≤ 3 ∧ s.pl.length ≤ 40 ∧ ∀ m ∈ s.pl, mvW m
def stC (I : Nat → Nat → Int32) (o : Nat) (s : St) : Prop := I o 0 = nI s.hs.length ∧ I o 1 = nI (pk4 s.rs) ∧ I o 2 = nI s.pos ∧ I o 3 = b2i s.mi ∧ I o 4 = nI s.pl.length ∧ ∀ i (h : i < s.pl.length), I (o + 1) i = nI (s.pl[i]).code
/-- all that the calls tell of -/
abbrev AS : Type := Ru × Nat × St × List St × (Nat → Option St) × (Nat → Nat) × Nat
abbrev AS.ru (A : AS) : Ru := A.1
abbrev AS.nr (A : AS) : Nat := A.2.1
abbrev AS.st (A : AS) : St := A.2.2.1
abbrev AS.hi (A : AS) : List St := A.2.2.2.1
abbrev AS.sn (A : AS) : Nat → Option St := A.2.2.2.2.1
abbrev AS.tx (A : AS) : Nat → Nat := A.2.2.2.2.2.1
abbrev AS.tl (A : AS) : Nat := A.2.2.2.2.2.2
def gm (sw : Bool) : Nat := if sw then 25 else 1
def dg (sw : Bool) : Nat := if sw then 1 else 25
theorem gm_b (sw : Bool) : gm sw + 22 ≤ 47 ∧ 1 ≤ gm sw ∧ (gm sw = 1 ∨ gm sw = 25) := by cases sw <;> decide
theorem dg_b (sw : Bool) : dg sw + 22 ≤ 47 ∧ 1 ≤ dg sw ∧ (gm sw = 1 ∧ dg sw = 25 ∨ gm sw = 25 ∧ dg sw = 1) := by cases sw <;> decide
def lk (R : Nat → Nat → Option Nat) (N : Nat) (sw : Bool) : Prop := isG R N (gm sw) ∧ isG R N (dg sw) ∧ isV R N ∧ isH R N ∧ R 0 0 = some (gm sw) ∧ R 0 1 = some 23 ∧ R 0 2 = some 47 ∧ R 0 3 = some 51 ∧ R 0 4 = some 73 ∧ R 0 5 = some 74 ∧ R 23 0 = some 24 ∧ R 23 6 = some (dg sw) ∧ R 73 0 = some 75 ∧ R 73 1 = some 77 ∧ isS R N 75 ∧ isS R N 77 ∧ 79 ≤ N
def ruC (I : Nat → Nat → Int32) (J : Nat → Nat → Int64) (g : Nat) (ru : Ru) : Prop := I g 2 = nI ru.2.2 ∧ ∀ k, k < 6 → I (g + 4 + 3 * k) 1 = nI (ru.1 k) ∧ clS (J (g + 4 + 3 * k) 2) = ru.2.1 k
def vlC (I : Nat → Nat → Int32) (g : Nat) (ru : Ru) (nr : Nat) : Prop := ∀ k, k < nr → ∀ m, m < 301 → I (g + 5 + 3 * k) m = nI (gv (ru.1 k) (ru.2.1 k) m)
def drC (I : Nat → Nat → Int32) (J : Nat → Nat → Int64) (g : Nat) : Prop := ∀ k, k < 6 → (∃ kk, kk ≤ 4 ∧ I (g + 4 + 3 * k) 1 = nI kk) ∧ (amt (clS (J (g + 4 + 3 * k) 2)) 60).length ≤ 8
def hiC (I : Nat → Nat → Int32) (nr : Nat) (hi : List St) : Prop := hi.length ≤ 10 ∧ I 51 2 = nI hi.length ∧ ∃ nx, nx < 10 ∧ I 51 1 = nI nx ∧ ∀ i (h : i < hi.length), stOK nr hi[i] ∧ stC I (53 + 2 * ((nx + 9 - i) % 10)) hi[i]
def snC (I : Nat → Nat → Int32) (nr : Nat) (sn : Nat → Option St) : Prop := ∀ k, k < 2 → I 74 k = b2i (sn k).isSome ∧ ∀ s, sn k = some s → stOK nr s ∧ stC I (75 + 2 * k) s
def txC (I : Nat → Nat → Int32) (tx : Nat → Nat) (tl : Nat) : Prop := I 23 1 = nI tl ∧ tl ≤ 400 ∧ ∀ i, i < tl → tx i < 256 ∧ I 24 i = (nI (tx i)).toInt8.toInt32
def rC (I : Nat → Nat → Int32) (J : Nat → Nat → Int64) (sw : Bool) (A : AS) (n : Nat) : Prop :=
  (I (gm sw) 1 = nI A.nr ∧ A.nr ≤ 6) ∧ ruOK A.ru ∧ ruC I J (gm sw) A.ru ∧ vlC I (gm sw) A.ru A.nr ∧ stOK A.nr A.st ∧ stC I (gm sw + 2) A.st ∧ drC I J (dg sw) ∧ sP I A.ru n ∧ hiC I A.nr A.hi ∧ snC I A.nr A.sn ∧ txC I A.tx A.tl
theorem i_rng (x : Int32) (n : Nat) (hn : n < 2 ^ 31) : (∃ k, k < n ∧ x = nI k) ∨ (x < 0 ∨ ¬ x < nI n) := by
  by_cases h0 : x < 0
  · exact Or.inr (Or.inl h0)
  · by_cases h1 : x < nI n
    · left
      rw [Int32.lt_iff_toInt_lt] at h0 h1
      rw [nI_toInt hn] at h1
      have h3 : (0 : Int32).toInt = 0 := rfl
      rw [h3] at h0
      refine ⟨x.toInt.toNat, by omega, ?_⟩
      apply Int32.toInt_inj.mp
      rw [nI_toInt (by omega)]
      omega
    · exact Or.inr (Or.inr h1)
section FA
variable (E : GE) (l : Launch)
variable {I : Nat → Nat → Int32} {J : Nat → Nat → Int64} {R : Nat → Nat → Option Nat} {D : Nat → Nat → UInt64} {N : Nat} {ex : Bool} {sw : Bool} {A : AS} {n : Nat}
set_option maxRecDepth 100000 in
theorem c_requireRule (hl : lk R N sw) (h : rC I J sw A n) {k : Nat} (hk : k < A.nr) : g_Ct E l mX6_requireRule 6 90 0 0 [.ref 0, .int (nI k)] (I, J, R, D, N, ex) (g_is (some (.ref (gm sw + 4 + 3 * k))) (I, J, R, D, N, ex)) := by
  refine g_Ct.of (by decide +kernel) (lb rfl) ?_
  have hN := hl.2.2.2.2.2.2.2.2.2.2.2.2.2.2.2.2
  have hg := hl.1
  have hgm := gm_b sw
  have hnr := h.1
  refine w_iload_n dX6_requireRule_0 rfl ?_
  refine w_if_lt (tgt := 15) dX6_requireRule_1 (by decide) (fun c_1 => absurd c_1 ((nI_pos (by omega)))) (fun c_1 => ?_)
  refine w_iload_n dX6_requireRule_4 rfl ?_
  refine w_aload_n dX6_requireRule_5 rfl ?_
  refine x_getr (ci := 6) (k := 0) (a := gm sw) dX6_requireRule_6 rfl (by decide) (by decide) (by omega) fl_X6_12 (Or.inl ⟨_, rfl⟩) hl.2.2.2.2.1 ?_
  refine x_geti (ci := 0) (k := 1) dX6_requireRule_9 hg.1 (by decide) (by decide) (by omega) fl_X6_82 rfl ?_
  refine w_icmp_lt (tgt := 25) dX6_requireRule_12 (by decide) (fun c_12 => ?_) (fun c_12 => absurd ((by rw [hnr.1]; exact nI_lt (by omega) (by omega))) c_12)
  refine w_aload_n dX6_requireRule_25 rfl ?_
  refine x_getr (ci := 6) (k := 0) (a := gm sw) dX6_requireRule_26 rfl (by decide) (by decide) (by omega) fl_X6_12 (Or.inl ⟨_, rfl⟩) hl.2.2.2.2.1 ?_
  refine w_iload_n dX6_requireRule_29 rfl ?_
  refine y_callV dX6_requireRule_30 lk_X6_166 [.int (nI k)] rfl (c_ruleAt E l hg (by omega)) (g_recv.obj (ci := 0) hg.1 (by decide) (show gm sw < N by omega)) rfl ⟨⟨by decide, by decide⟩, by decide, by decide⟩ (lb rfl) ?_
  refine w_aret dX6_requireRule_33 rfl (Or.inl ⟨_, rfl⟩) ⟨rfl, rfl⟩ (by decide) (by decide)
set_option maxRecDepth 100000 in
theorem c_requireRule_x (hl : lk R N sw) (h : rC I J sw A n) {x : Int32} (hx : x < 0 ∨ ¬ x < nI A.nr) : g_Ct E l mX6_requireRule 6 90 1 6 [.ref 0, .int x] (I, J, R, D, N, ex) (g_ths "java/lang/IndexOutOfBoundsException" (I, J, R, D, N, false)) := by
  refine g_Ct.of (by decide +kernel) (lb rfl) ?_
  have hN := hl.2.2.2.2.2.2.2.2.2.2.2.2.2.2.2.2
  have hg := hl.1
  have hgm := gm_b sw
  have hnr := h.1
  refine w_iload_n dX6_requireRule_0 rfl ?_
  refine w_if_lt (tgt := 15) dX6_requireRule_1 (by decide) (fun c_1 => ?_) (fun c_1 => ?_)
  · refine w_throw (X := "java/lang/IndexOutOfBoundsException") (tx := "there is no such rule") rfl rfl (by decide +kernel) (by decide +kernel) dX6_requireRule_15 dX6_requireRule_18 dX6_requireRule_19 dX6_requireRule_21 dX6_requireRule_24 (by decide) (lb rfl) (by decide) (by decide) (by decide) (by decide) ⟨rfl, rfl⟩
  · refine w_iload_n dX6_requireRule_4 rfl ?_
    refine w_aload_n dX6_requireRule_5 rfl ?_
    refine x_getr (ci := 6) (k := 0) (a := gm sw) dX6_requireRule_6 rfl (by decide) (by decide) (by omega) fl_X6_12 (Or.inl ⟨_, rfl⟩) hl.2.2.2.2.1 ?_
    refine x_geti (ci := 0) (k := 1) dX6_requireRule_9 hg.1 (by decide) (by decide) (by omega) fl_X6_82 rfl ?_
    refine w_icmp_lt (tgt := 25) dX6_requireRule_12 (by decide) (fun c_12 => absurd c_12 ((by rw [hnr.1]; rcases hx with z | z; exact absurd z c_1; exact z))) (fun c_12 => ?_)
    refine w_throw (X := "java/lang/IndexOutOfBoundsException") (tx := "there is no such rule") rfl rfl (by decide +kernel) (by decide +kernel) dX6_requireRule_15 dX6_requireRule_18 dX6_requireRule_19 dX6_requireRule_21 dX6_requireRule_24 (by decide) (lb rfl) (by decide) (by decide) (by decide) (by decide) ⟨rfl, rfl⟩
end FA
