/-! HeapGames$Solver: what is read of it; prepare -/
def lecB (q t : Nat) : Bool := decide (dig q 0 ≤ dig t 0 ∧ dig q 1 ≤ dig t 1 ∧ dig q 2 ≤ dig t 2 ∧ dig q 3 ≤ dig t 3 ∧ q / 65536 ≤ t / 65536)
theorem lecB_iff {q t : Nat} : lecB q t = true ↔ lec q t := by rw [lec_iff]; unfold lecB; exact decide_eq_true_iff
/-- how many of lo .. lo + n - 1 -/
def cntR (f : Nat → Bool) (lo : Nat) : Nat → Nat
  | 0 => 0
  | n + 1 => cntR f lo n + if f (lo + n) then 1 else 0
theorem cntR_le (f : Nat → Bool) (lo : Nat) : ∀ n, cntR f lo n ≤ n
  | 0 => Nat.le_refl _
  | n + 1 => by rw [cntR]; have := cntR_le f lo n; split <;> omega
theorem cntR_skip {f : Nat → Bool} {lo n : Nat} : ∀ m, (∀ i, n ≤ i → i < n + m → f (lo + i) = false) → cntR f lo (n + m) = cntR f lo n
  | 0, _ => rfl
  | m + 1, h => by
    rw [show n + (m + 1) = (n + m) + 1 from rfl, cntR, h (n + m) (by omega) (by omega), cntR_skip m (fun i h1 h2 => h i h1 (by omega))]
    rfl
def lostF (c : Cf) (t : Nat) (p : Nat) : Bool := lecB p t && !(val c p).1
theorem and_hi {t : Nat} : nI t &&& (-65536 : Int32) = nI (65536 * (t / 65536)) := by
  apply b_ext
  intro i hi
  rw [b_and, b_hi16 i hi, bt_nI hi, bt_nI hi, show 65536 * (t / 65536) = 2 ^ 16 * (t / 2 ^ 16) + 0 from rfl, Nat.testBit_two_pow_mul_add _ (by decide)]
  by_cases h : i < 16
  · rw [if_pos h, decide_eq_false (by omega)]; simp
  · rw [if_neg h, decide_eq_true (by omega), Nat.testBit_div_two_pow, show i - 16 + 16 = i by omega]; simp
def wn (rs : List Nat) (mi : Bool) : Nat := pk4 rs + 65536 * rs.length + (if mi then 1048576 else 0)
theorem wn_or {rs : List Nat} {mi : Bool} (hr : ∀ x ∈ rs, x < 16) (hl : rs.length ≤ 4) : pk4 rs ||| rs.length * 2 ^ 16 ||| (if mi then 1048576 else 0) = wn rs mi := by
  have h1 : pk4 rs < 2 ^ 16 := by
    have := pk4_lt hr
    exact Nat.lt_of_lt_of_le this (Nat.pow_le_pow_right (by decide) hl : 16 ^ rs.length ≤ 16 ^ 4)
  rw [Nat.or_comm (pk4 rs), Nat.mul_comm, ← Nat.two_pow_add_eq_or_of_lt h1]
  unfold wn
  cases mi with
  | false => show _ ||| 0 = _ + 0; rw [Nat.or_zero]; omega
  | true =>
    show _ ||| 1048576 = _ + 1048576
    rw [Nat.or_comm, show (1048576 : Nat) = 2 ^ 20 * 1 from rfl, ← Nat.two_pow_add_eq_or_of_lt (by omega)]
    omega
theorem pk4_inj : ∀ {a b : List Nat}, (∀ x ∈ a, x < 16) → (∀ x ∈ b, x < 16) → a.length = b.length → pk4 a = pk4 b → a = b
  | [], [], _, _, _, _ => rfl
  | [], _ :: _, _, _, h, _ => by simp at h
  | _ :: _, [], _, _, h, _ => by simp at h
  | x :: xs, y :: ys, h1, h2, h3, h4 => by
    have a := h1 x (by simp)
    have b := h2 y (by simp)
    rw [pk4, pk4] at h4
    have e : x = y := by omega
    have e2 : pk4 xs = pk4 ys := by omega
    rw [e, pk4_inj (fun z hz => h1 z (by simp [hz])) (fun z hz => h2 z (by simp [hz])) (by simpa using h3) e2]
theorem pk4_16 {rs : List Nat} (hr : ∀ x ∈ rs, x < 16) (hl : rs.length ≤ 4) : pk4 rs < 65536 :=
  Nat.lt_of_lt_of_le (pk4_lt hr) (Nat.pow_le_pow_right (by decide) hl : 16 ^ rs.length ≤ 16 ^ 4)
theorem wn_inj {a b : List Nat} {m n : Bool} (ha : ∀ x ∈ a, x < 16) (hb : ∀ x ∈ b, x < 16) (hla : a.length ≤ 4) (hlb : b.length ≤ 4) (h : wn a m = wn b n) : a = b ∧ m = n := by
  have h1 := pk4_16 ha hla
  have h2 := pk4_16 hb hlb
  unfold wn at h
  have hm : m = n := by
    cases m <;> cases n <;> first | rfl | (simp at h; omega)
  subst hm
  have hl : a.length = b.length := by omega
  exact ⟨pk4_inj ha hb hl (by omega), rfl⟩
theorem wn_lt {rs : List Nat} {mi : Bool} (hr : ∀ x ∈ rs, x < 16) (hl : rs.length ≤ 4) : wn rs mi < 2 ^ 21 := by
  have h1 := pk4_16 hr hl
  unfold wn
  split <;> omega
/-- the rules of a text: kinds, sets, the shared amounts as bits -/
abbrev Ru : Type := (Nat → Nat) × (Nat → Nat → Bool) × Nat
def cfOf (ru : Ru) (rs : List Nat) (mi : Bool) : Cf := (rs.length, fun h n a => okA (ru.1 (rs.getD h 0)) (ru.2.1 (rs.getD h 0)) n a, fun a => ru.2.2.testBit a, mi)
def rsOK (rs : List Nat) : Prop := rs.length ≤ 4 ∧ ∀ x ∈ rs, x < 6
theorem rsOK.lt {rs : List Nat} (h : rsOK rs) : ∀ x ∈ rs, x < 16 := fun x hx => by have := h.2 x hx; omega
theorem rsOK.getD {rs : List Nat} (h : rsOK rs) (k : Nat) : rs.getD k 0 < 6 := by
  rcases Nat.lt_or_ge k rs.length with z | z
  · rw [List.getD_eq_getElem?_getD, List.getElem?_eq_getElem z]; exact h.2 _ (List.getElem_mem z)
  · rw [List.getD_eq_getElem?_getD, List.getElem?_eq_none z]; decide
/-- the solver, at most n stamps used -/
def sP (I : Nat → Nat → Int32) (ru : Ru) (n : Nat) : Prop := ∃ st T, st ≤ n ∧ I 47 5 = nI st ∧ (∀ p, p < 262144 → I 48 p = nI (T p) ∧ T p < (st + 1) * 8192) ∧
  (I 47 4 = -1 ∨ ∃ rs mi, rsOK rs ∧ I 47 4 = nI (wn rs mi) ∧ svOK I (cfOf ru rs mi) ∧ svT I (cfOf ru rs mi) st T)
/-- .. prepared for these heaps -/
def sQ (I : Nat → Nat → Int32) (ru : Ru) (rs : List Nat) (mi : Bool) (n : Nat) (T : Nat → Nat) : Prop := ∃ st, st ≤ n ∧ I 47 4 = nI (wn rs mi) ∧ svOK I (cfOf ru rs mi) ∧ svT I (cfOf ru rs mi) st T
def frP (I I' : Nat → Nat → Int32) : Prop := ∀ o, o ≠ 47 → o ≠ 49 → I' o = I o
/-- a game as the solver sees it -/
def gmP (I : Nat → Nat → Int32) (J : Nat → Nat → Int64) (g : Nat) (ru : Ru) (rs : List Nat) (mi : Bool) : Prop := rsOK rs ∧ I (g + 2) 0 = nI rs.length ∧ I (g + 2) 1 = nI (pk4 rs) ∧ I (g + 2) 3 = b2i mi ∧ I g 2 = nI ru.2.2 ∧ ru.2.2 < 65536 ∧
  ∀ k, k < 6 → I (g + 4 + 3 * k) 1 = nI (ru.1 k) ∧ ru.1 k ≤ 4 ∧ clS (J (g + 4 + 3 * k) 2) = ru.2.1 k
section SD
variable (E : GE) (l : Launch)
variable {I : Nat → Nat → Int32} {J : Nat → Nat → Int64} {R : Nat → Nat → Option Nat} {D : Nat → Nat → UInt64} {N : Nat} {ex : Bool}
theorem T_lt {c : Cf} {st p : Nat} {T : Nat → Nat} (h : svT I c st T) (hp : p < 262144) : T p < 2 ^ 31 := by
  have h1 := (h.1.2.2.2 p hp).2
  have h2 := h.1.2.2.1
  omega
theorem fnd' {c : Cf} (hc : c.m ≤ 4) {st p : Nat} {T : Nat → Nat} (h : svT I c st T) (hp : p < 262144) (hk : kn T st p) : T p / 64 % 64 = (val c p).2.1 ∧ T p % 64 = (val c p).2.2 ∧ (T p / 4096 % 2 = 1 ↔ (val c p).1 = true) := by
  have h1 := val_le hc p
  have h2 := wt_le hp
  exact fnd (by omega) (by omega) hk (h.2.1 p hp hk)
set_option maxRecDepth 100000 in
theorem c_Sv_valueAt (hv : isV R N) {c : Cf} (hc : c.m ≤ 4) {st : Nat} {T : Nat → Nat} (ht : svT I c st T) {p : Nat} (hp : p < 262144) (hk : kn T st p) : g_Ct E l mX3_valueAt 1 22 0 0 [.ref 47, .int (nI p)] (I, J, R, D, N, ex) (g_is (some (.int (nI (val c p).2.2))) (I, J, R, D, N, ex)) := by
  refine g_Ct.of (by decide +kernel) (lb rfl) ?_
  have h51 := hv.1
  refine w_aload_n dX3_valueAt_0 rfl ?_
  refine w_iload_n dX3_valueAt_1 rfl ?_
  refine y_callV dX3_valueAt_2 lk_X3_93 [.int (nI p)] rfl (c_foundK E l hv (c := c) ht.1 hp hk) (g_recv.obj (ci := 3) rfl (by decide) (show 47 < N by omega)) rfl ⟨⟨by decide, by decide⟩, by decide, by decide⟩ (lb rfl) ?_
  refine w_bipush (v := 63) dX3_valueAt_5 (by decide) ?_
  refine w_iand dX3_valueAt_7 ?_
  refine w_iret dX3_valueAt_8 rfl rfl ⟨rt_i (by rw [an63, (fnd' hc ht hp hk).2.1]), rfl⟩ (by decide) (by decide)
set_option maxRecDepth 100000 in
theorem c_Sv_lengthAt (hv : isV R N) {c : Cf} (hc : c.m ≤ 4) {st : Nat} {T : Nat → Nat} (ht : svT I c st T) {p : Nat} (hp : p < 262144) (hk : kn T st p) : g_Ct E l mX3_lengthAt 1 22 0 0 [.ref 47, .int (nI p)] (I, J, R, D, N, ex) (g_is (some (.int (nI (val c p).2.1))) (I, J, R, D, N, ex)) := by
  refine g_Ct.of (by decide +kernel) (lb rfl) ?_
  have h51 := hv.1
  refine w_aload_n dX3_lengthAt_0 rfl ?_
  refine w_iload_n dX3_lengthAt_1 rfl ?_
  refine y_callV dX3_lengthAt_2 lk_X3_93 [.int (nI p)] rfl (c_foundK E l hv (c := c) ht.1 hp hk) (g_recv.obj (ci := 3) rfl (by decide) (show 47 < N by omega)) rfl ⟨⟨by decide, by decide⟩, by decide, by decide⟩ (lb rfl) ?_
  refine w_bipush (v := 6) dX3_lengthAt_5 (by decide) ?_
  refine w_ishr dX3_lengthAt_7 ?_
  rw [sh6 (T_lt ht hp)]
  refine w_bipush (v := 63) dX3_lengthAt_8 (by decide) ?_
  refine w_iand dX3_lengthAt_10 ?_
  refine w_iret dX3_lengthAt_11 rfl rfl ⟨rt_i (by rw [an63, (fnd' hc ht hp hk).1]), rfl⟩ (by decide) (by decide)
set_option maxRecDepth 100000 in
theorem c_Sv_isWonAt (hv : isV R N) {c : Cf} (hc : c.m ≤ 4) {st : Nat} {T : Nat → Nat} (ht : svT I c st T) {p : Nat} (hp : p < 262144) (hk : kn T st p) : g_Ct E l mX3_isWonAt 1 22 0 0 [.ref 47, .int (nI p)] (I, J, R, D, N, ex) (g_is (some (.int (b2i (val c p).1))) (I, J, R, D, N, ex)) := by
  refine g_Ct.of (by decide +kernel) (lb rfl) ?_
  have h51 := hv.1
  have hf := (fnd' hc ht hp hk).2.2
  refine w_aload_n dX3_isWonAt_0 rfl ?_
  refine w_iload_n dX3_isWonAt_1 rfl ?_
  refine y_callV dX3_isWonAt_2 lk_X3_93 [.int (nI p)] rfl (c_foundK E l hv (c := c) ht.1 hp hk) (g_recv.obj (ci := 3) rfl (by decide) (show 47 < N by omega)) rfl ⟨⟨by decide, by decide⟩, by decide, by decide⟩ (lb rfl) ?_
  refine w_sipush (v := 4096) dX3_isWonAt_5 (by decide) ?_
  refine w_iand dX3_isWonAt_8 ?_
  rw [an12]
  refine w_if_eq (tgt := 16) dX3_isWonAt_9 (by decide) (fun c_9 => ?_) (fun c_9 => ?_)
  · refine w_iconst (v := 0) dX3_isWonAt_16 (by decide) ?_
    refine w_iret dX3_isWonAt_17 rfl (by rfl) (by first | exact ⟨rt_f (by rw [← Bool.not_eq_true]; intro z; rw [if_pos (hf.mpr z)] at c_9; exact absurd c_9 (by decide)), rfl⟩ | exact ⟨rt_t (hf.mp (Decidable.byContradiction fun z => c_9 (by rw [if_neg z]; rfl))), rfl⟩) (by decide) (by decide)
  · refine w_iconst (v := 1) dX3_isWonAt_12 (by decide) ?_
    refine w_goto (tgt := 17) dX3_isWonAt_13 (by decide) ?_
    refine w_iret dX3_isWonAt_17 rfl (by rfl) (by first | exact ⟨rt_f (by rw [← Bool.not_eq_true]; intro z; rw [if_pos (hf.mpr z)] at c_9; exact absurd c_9 (by decide)), rfl⟩ | exact ⟨rt_t (hf.mp (Decidable.byContradiction fun z => c_9 (by rw [if_neg z]; rfl))), rfl⟩) (by decide) (by decide)
end SD
