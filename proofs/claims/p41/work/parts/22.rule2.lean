/-! HeapGames$Rule, on: tables of values, periods -/
def grS (S : Nat → Bool) : Nat → Nat
  | 0 => 0
  | n + 1 => if S (n + 1) then n + 1 else grS S n
theorem grS_le (S : Nat → Bool) (n : Nat) : grS S n ≤ n := by
  induction n with
  | zero => exact Nat.le_refl _
  | succ n ih => unfold grS; split <;> omega
/-- the first from i on, at most i + f, of which p doesn't hold -/
def firstN (p : Nat → Bool) : Nat → Nat → Nat
  | 0, i => i
  | f + 1, i => if p i then firstN p f (i + 1) else i
theorem firstN_le (p : Nat → Bool) : ∀ f i, firstN p f i ≤ i + f
  | 0, i => Nat.le_refl _
  | f + 1, i => by unfold firstN; split; (have := firstN_le p f (i + 1); omega); omega
theorem firstN_ge (p : Nat → Bool) : ∀ f i, i ≤ firstN p f i
  | 0, i => Nat.le_refl _
  | f + 1, i => by unfold firstN; split; (have := firstN_ge p f (i + 1); omega); omega
theorem firstN_all (p : Nat → Bool) : ∀ f i j, i ≤ j → j < firstN p f i → p j = true
  | 0, i, j, h1, h2 => by unfold firstN at h2; omega
  | f + 1, i, j, h1, h2 => by
    unfold firstN at h2
    split at h2
    · rcases Nat.lt_or_ge i j with h | h
      · exact firstN_all p f (i + 1) j h h2
      · obtain rfl : i = j := by omega
        assumption
    · omega
theorem firstN_not (p : Nat → Bool) : ∀ f i, firstN p f i < i + f → p (firstN p f i) = false
  | 0, i, h => by unfold firstN at h; omega
  | f + 1, i, h => by
    unfold firstN at h ⊢
    split
    · rename_i hp
      rw [if_pos hp] at h
      exact firstN_not p f (i + 1) (by omega)
    · rename_i hp
      simpa using hp
theorem firstN_uniq (p : Nat → Bool) {f i m : Nat} (h1 : ∀ j, i ≤ j → j < m → p j = true) (h2 : p m = false) (h3 : i ≤ m) (h4 : m < i + f) : firstN p f i = m := by
  have a := firstN_ge p f i
  rcases Nat.lt_trichotomy (firstN p f i) m with h | h | h
  · have := firstN_not p f i (by omega)
    rw [h1 _ a h] at this
    cases this
  · exact h
  · have := firstN_all p f i m h3 h
    rw [h2] at this
    cases this
theorem firstN_cong {p q : Nat → Bool} : ∀ f i, (∀ j, i ≤ j → j < i + f → p j = q j) → firstN p f i = firstN q f i
  | 0, i, _ => rfl
  | f + 1, i, h => by
    unfold firstN
    rw [h i (Nat.le_refl _) (by omega), firstN_cong f (i + 1) (fun j h1 h2 => h j (by omega) (by omega))]
/-- one of 1 .. j -/
def anyB (p : Nat → Bool) : Nat → Bool
  | 0 => false
  | j + 1 => anyB p j || p (j + 1)
theorem anyB_iff {p : Nat → Bool} : ∀ {n : Nat}, anyB p n = true ↔ ∃ j, 1 ≤ j ∧ j ≤ n ∧ p j = true
  | 0 => by simp [anyB]; intro j h1 h2; omega
  | n + 1 => by
    unfold anyB
    rw [Bool.or_eq_true, anyB_iff]
    constructor
    · rintro (⟨j, h1, h2, h3⟩ | h)
      · exact ⟨j, h1, by omega, h3⟩
      · exact ⟨n + 1, by omega, by omega, h⟩
    · rintro ⟨j, h1, h2, h3⟩
      rcases Nat.lt_or_ge n j with h | h
      · obtain rfl : j = n + 1 := by omega
        exact Or.inr h3
      · exact Or.inl ⟨j, h1, h, h3⟩
theorem anyB_cong {p q : Nat → Bool} {n : Nat} (h : ∀ j, 1 ≤ j → j ≤ n → p j = q j) : anyB p n = anyB q n := by
  cases hq : anyB q n with
  | true =>
    obtain ⟨j, h1, h2, h3⟩ := anyB_iff.mp hq
    exact anyB_iff.mpr ⟨j, h1, h2, by rw [h j h1 h2]; exact h3⟩
  | false =>
    cases hp : anyB p n with
    | false => rfl
    | true =>
      obtain ⟨j, h1, h2, h3⟩ := anyB_iff.mp hp
      have : anyB q n = true := anyB_iff.mpr ⟨j, h1, h2, by rw [← h j h1 h2]; exact h3⟩
      rw [hq] at this
      cases this
/-- the values of heaps, those of fewer than n counters -/
def gvT (k : Nat) (S : Nat → Bool) : Nat → Nat → Nat
  | 0, _ => 0
  | n + 1, m => if m = n then firstN (fun v => anyB (fun b => okA k S n b && decide (gvT k S n (n - b) = v)) n) 301 0 else gvT k S n m
def gv (k : Nat) (S : Nat → Bool) (n : Nat) : Nat := gvT k S (n + 1) n
theorem gvT_gv (k : Nat) (S : Nat → Bool) : ∀ n m, m < n → gvT k S n m = gv k S m
  | 0, m, h => by omega
  | n + 1, m, h => by
    rcases Nat.lt_or_ge m n with h1 | h1
    · rw [gvT, if_neg (by omega)]
      exact gvT_gv k S n m h1
    · obtain rfl : m = n := by omega
      rfl
def hitV (k : Nat) (S : Nat → Bool) (n j v : Nat) : Bool := anyB (fun b => okA k S n b && decide (gv k S (n - b) = v)) j
theorem gv_eq (k : Nat) (S : Nat → Bool) (n : Nat) : gv k S n = firstN (hitV k S n n) 301 0 := by
  show gvT k S (n + 1) n = _
  rw [gvT, if_pos rfl]
  refine firstN_cong 301 0 (fun v _ _ => anyB_cong (fun b h1 h2 => ?_))
  show _ = (okA k S n b && decide (gv k S (n - b) = v))
  rw [gvT_gv k S n (n - b) (by omega)]
theorem gv_le (k : Nat) (S : Nat → Bool) (n : Nat) : gv k S n ≤ n := by
  rw [gv_eq]
  have h : ∀ v, v < firstN (hitV k S n n) 301 0 → ∃ b, 1 ≤ b ∧ b ≤ n ∧ gv k S (n - b) = v := by
    intro v hv
    have h1 := firstN_all _ 301 0 v (Nat.zero_le _) hv
    obtain ⟨b, h2, h3, h4⟩ := anyB_iff.mp h1
    rw [Bool.and_eq_true, decide_eq_true_eq] at h4
    exact ⟨b, h2, h3, h4.2⟩
  have h' : ∃ f : Nat → Nat, ∀ v, v < firstN (hitV k S n n) 301 0 → 1 ≤ f v ∧ f v ≤ n ∧ gv k S (n - f v) = v := by
    have : ∀ v, ∃ b, v < firstN (hitV k S n n) 301 0 → 1 ≤ b ∧ b ≤ n ∧ gv k S (n - b) = v := by
      intro v
      by_cases hv : v < firstN (hitV k S n n) 301 0
      · obtain ⟨b, hb⟩ := h v hv
        exact ⟨b, fun _ => hb⟩
      · exact ⟨0, fun q => absurd q hv⟩
    obtain ⟨f, hf⟩ := Classical.axiomOfChoice this
    exact ⟨f, hf⟩
  obtain ⟨f, hf⟩ := h'
  refine fb_holes n (firstN (hitV k S n n) 301 0) (fun v => f v - 1) (fun i hi => ?_) (fun i j hij hj hq => ?_)
  · have := hf i hi
    show f i - 1 < n
    omega
  · have h1 := hf i (by omega)
    have h2 := hf j hj
    have h3 : f i = f j := by
      have : f i - 1 = f j - 1 := hq
      omega
    rw [h3] at h1
    have := h1.2.2.symm.trans h2.2.2
    omega
/-- down from n as long as e holds -/
def downL (e : Nat → Bool) : Nat → Nat
  | 0 => 0
  | n + 1 => if e n then downL e n else n + 1
theorem downL_le (e : Nat → Bool) (n : Nat) : downL e n ≤ n := by
  induction n with
  | zero => exact Nat.le_refl _
  | succ n ih => unfold downL; split <;> omega
/-- the first of s .. s + f - 1 with q -/
def perF (q : Nat → Bool) : Nat → Nat → Option Nat
  | 0, _ => none
  | f + 1, s => if q s then some s else perF q f (s + 1)
def o2i (o : Option Nat) : Int32 := match o with
  | none => -1
  | some s => nI s
/-- the start of a step, by the values f -/
def stOf (f : Nat → Int32) (step last : Nat) : Nat := downL (fun i => decide (f i = f (i + step))) (last + 1 - step)
def perOf (f : Nat → Int32) (last : Nat) : Option Nat := perF (fun s => decide (stOf f s last + 2 * s ≤ last + 1)) ((last + 1) / 2) 1
section RX
variable (E : GE) (l : Launch)
variable {I : Nat → Nat → Int32} {J : Nat → Nat → Int64} {R : Nat → Nat → Option Nat} {D : Nat → Nat → UInt64} {N : Nat} {ex : Bool} {r : Nat}
set_option maxRecDepth 100000 in
theorem c_valueOf (hr : isR R N r) {n : Nat} (hn : n ≤ 300) : g_Ct E l mX2_valueOf 0 0 0 0 [.ref r, .int (nI n)] (I, J, R, D, N, ex) (g_is (some (.int (I (r + 1) n))) (I, J, R, D, N, ex)) := by
  refine g_Ct.of (by decide +kernel) (lb rfl) ?_
  have hN := hr.2.1
  have hrN : r < N := by omega
  refine w_iload_n dX2_valueOf_0 rfl ?_
  refine w_if_lt (tgt := 20) dX2_valueOf_1 (by decide) (fun c_1 => absurd c_1 ((nI_pos (by omega)))) (fun c_1 => ?_)
  refine w_iload_n dX2_valueOf_4 rfl ?_
  refine w_sipush (v := 300) dX2_valueOf_5 (by decide) ?_
  refine w_icmp_gt (tgt := 20) dX2_valueOf_8 (by decide) (fun c_8 => absurd c_8 ((nI_nlt (a := 300) (by omega) (by omega)))) (fun c_8 => ?_)
  refine w_aload_n dX2_valueOf_11 rfl ?_
  refine x_getr (ci := 2) (k := 3) (a := r + 1) dX2_valueOf_12 hr.1 (by decide) (by decide) hrN fl_X2_9 (Or.inr ⟨_, rfl⟩) hr.2.2.2.2.1 ?_
  refine w_iload_n dX2_valueOf_15 rfl ?_
  refine x_iald (j := n) dX2_valueOf_16 (by rw [hr.2.2.1]) (by omega) rfl (by rw [hr.2.2.1]; show n < 301; omega) ?_
  refine w_goto (tgt := 21) dX2_valueOf_17 (by decide) ?_
  refine w_iret dX2_valueOf_21 rfl rfl ⟨rfl, rfl⟩ (by decide) (by decide)
set_option maxRecDepth 100000 in
theorem c_noteValue (hr : isR R N r) {v n : Nat} (hv : v ≤ 300) : g_Ct E l mX2_noteValue 0 0 0 0 [.ref r, .int (nI v), .int (nI n)] (I, J, R, D, N, ex) (g_is none (up2 I (r + 2) v (nI n), J, R, D, N, ex)) := by
  refine g_Ct.of (by decide +kernel) (lb rfl) ?_
  have hN := hr.2.1
  have hrN : r < N := by omega
  refine w_iload_n dX2_noteValue_0 rfl ?_
  refine w_if_lt (tgt := 20) dX2_noteValue_1 (by decide) (fun c_1 => absurd c_1 ((nI_pos (by omega)))) (fun c_1 => ?_)
  refine w_iload_n dX2_noteValue_4 rfl ?_
  refine w_aload_n dX2_noteValue_5 rfl ?_
  refine x_getr (ci := 2) (k := 4) (a := r + 2) dX2_noteValue_6 hr.1 (by decide) (by decide) hrN fl_X2_15 (Or.inr ⟨_, rfl⟩) hr.2.2.2.2.2 ?_
  refine x_alen (c := 8) (L := 301) dX2_noteValue_9 hr.2.2.2.1 (by decide) (by decide) hN ?_
  refine w_icmp_ge (tgt := 20) dX2_noteValue_10 (by decide) (fun c_10 => absurd c_10 ((nI_ge (by omega) (by omega)))) (fun c_10 => ?_)
  refine w_aload_n dX2_noteValue_13 rfl ?_
  refine x_getr (ci := 2) (k := 4) (a := r + 2) dX2_noteValue_14 hr.1 (by decide) (by decide) hrN fl_X2_15 (Or.inr ⟨_, rfl⟩) hr.2.2.2.2.2 ?_
  refine w_iload_n dX2_noteValue_17 rfl ?_
  refine w_iload_n dX2_noteValue_18 rfl ?_
  refine x_iast (j := v) dX2_noteValue_19 (by rw [hr.2.2.2.1]) hN rfl (by rw [hr.2.2.2.1]; show v < 301; omega) ?_
  refine w_vret dX2_noteValue_20 rfl ⟨rfl, rfl⟩ (by decide) (by decide)
set_option maxRecDepth 100000 in
theorem c_leastWithout (hr : isR R N r) {n : Nat} : g_Ct E l mX2_leastWithout 0 0 0 0 [.ref r, .int (nI n)] (I, J, R, D, N, ex) (g_is (some (.int (nI (firstN (fun v => decide (I (r + 2) v = nI n)) 301 0)))) (I, J, R, D, N, ex)) := by
  refine g_Ct.of (by decide +kernel) (lb rfl) ?_
  have hN := hr.2.1
  have hrN : r < N := by omega
  generalize hQ : firstN (fun v => decide (I (r + 2) v = nI n)) 301 0 = Q
  have loop : ∀ f a : Nat, a + f = 301 → firstN (fun v => decide (I (r + 2) v = nI n)) f a = Q → g_Wp E l mX2_leastWithout { frames := 0, cells := 0, slots := 0, locals := 0 } (g_Fin E (g_is (some (.int (nI Q))) (I, J, R, D, N, ex)) 0 0) 0 0 2 [(2, .int (nI a)), (0, .ref r), (1, .int (nI n))] [] (I, J, R, D, N, ex) := by
    intro f
    induction f with
    | zero =>
      intro a ha hq
      obtain rfl : a = 301 := by omega
      refine w_iload_n dX2_leastWithout_2 rfl ?_
      refine w_aload_n dX2_leastWithout_3 rfl ?_
      refine x_getr (ci := 2) (k := 4) (a := r + 2) dX2_leastWithout_4 hr.1 (by decide) (by decide) hrN fl_X2_15 (Or.inr ⟨_, rfl⟩) hr.2.2.2.2.2 ?_
      refine x_alen (c := 8) (L := 301) dX2_leastWithout_7 hr.2.2.2.1 (by decide) (by decide) hN ?_
      refine w_icmp_ge (tgt := 27) dX2_leastWithout_8 (by decide) (fun c_8 => ?_) (fun c_8 => absurd ((nI_le (by omega) (by omega))) c_8)
      refine w_iload_n dX2_leastWithout_27 rfl ?_
      refine w_iret dX2_leastWithout_28 rfl rfl ⟨rt_i (by rw [← hq]; rfl), rfl⟩ (by decide) (by decide)
    | succ f ih =>
      intro a ha hq
      unfold firstN at hq
      refine w_iload_n dX2_leastWithout_2 rfl ?_
      refine w_aload_n dX2_leastWithout_3 rfl ?_
      refine x_getr (ci := 2) (k := 4) (a := r + 2) dX2_leastWithout_4 hr.1 (by decide) (by decide) hrN fl_X2_15 (Or.inr ⟨_, rfl⟩) hr.2.2.2.2.2 ?_
      refine x_alen (c := 8) (L := 301) dX2_leastWithout_7 hr.2.2.2.1 (by decide) (by decide) hN ?_
      refine w_icmp_ge (tgt := 27) dX2_leastWithout_8 (by decide) (fun c_8 => absurd c_8 ((nI_ge (by omega) (by omega)))) (fun c_8 => ?_)
      refine w_aload_n dX2_leastWithout_11 rfl ?_
      refine x_getr (ci := 2) (k := 4) (a := r + 2) dX2_leastWithout_12 hr.1 (by decide) (by decide) hrN fl_X2_15 (Or.inr ⟨_, rfl⟩) hr.2.2.2.2.2 ?_
      refine w_iload_n dX2_leastWithout_15 rfl ?_
      refine x_iald (j := a) dX2_leastWithout_16 (by rw [hr.2.2.2.1]) hN rfl (by rw [hr.2.2.2.1]; show a < 301; omega) ?_
      refine w_iload_n dX2_leastWithout_17 rfl ?_
      refine w_icmp_ne (tgt := 27) dX2_leastWithout_18 (by decide) (fun c_18 => ?_) (fun c_18 => ?_)
      · refine w_iload_n dX2_leastWithout_27 rfl ?_
        refine w_iret dX2_leastWithout_28 rfl rfl ⟨rt_i (by rw [← hq, if_neg (by rw [decide_eq_false c_18]; decide)]), rfl⟩ (by decide) (by decide)
      · refine w_iinc (v := nI (a + 1)) dX2_leastWithout_21 rfl (nI_inc _) (by decide) rfl ?_
        refine w_goto (tgt := 2) dX2_leastWithout_24 (by decide) ?_
        exact ih (a + 1) (by omega) (by rw [← hq, if_pos (decide_eq_true c_18)])
  refine w_iconst (v := 0) dX2_leastWithout_0 (by decide) ?_
  refine w_istore_n dX2_leastWithout_1 (by decide) rfl ?_
  exact loop 301 0 (by omega) hQ
set_option maxRecDepth 100000 in
theorem c_fill {o L : Nat} (ho : g_ob o = (8, L)) (hn : o < N) (x : Int32) : g_Ct E l mJ7_fill_53178 0 0 0 0 [.ref o, .int x] (I, J, R, D, N, ex) (g_is none ((fun a b => if a = o ∧ b < L then x else I a b), J, R, D, N, ex)) := by
  refine g_Ct.of (by decide +kernel) (lb rfl) ?_
  have hL := g_len o
  rw [ho] at hL
  have hL2 : L < 2 ^ 31 := hL
  generalize hQ : (fun a b => if a = o ∧ b < L then x else I a b) = Q
  have loop : ∀ (f i : Nat) (I' : Nat → Nat → Int32), i + f = L → I' = (fun a b => if a = o ∧ b < i then x else I a b) → g_Wp E l mJ7_fill_53178 { frames := 0, cells := 0, slots := 0, locals := 0 } (g_Fin E (g_is none (Q, J, R, D, N, ex)) 0 0) 0 0 5 [(2, .int (nI i)), (3, .int (nI L)), (0, .ref o), (1, .int x)] [] (I', J, R, D, N, ex) := by
    intro f
    induction f with
    | zero =>
      intro i I' hi hI
      obtain rfl : i = L := by omega
      refine w_iload_n dJ7_fill_53178_5 rfl ?_
      refine w_iload_n dJ7_fill_53178_6 rfl ?_
      refine w_icmp_ge (tgt := 20) dJ7_fill_53178_7 (by decide) (fun c_7 => ?_) (fun c_7 => absurd ((nI_le (by omega) (by omega))) c_7)
      refine w_vret dJ7_fill_53178_20 rfl ⟨rfl, by rw [hI, hQ]⟩ (by decide) (by decide)
    | succ f ih =>
      intro i I' hi hI
      refine w_iload_n dJ7_fill_53178_5 rfl ?_
      refine w_iload_n dJ7_fill_53178_6 rfl ?_
      refine w_icmp_ge (tgt := 20) dJ7_fill_53178_7 (by decide) (fun c_7 => absurd c_7 ((nI_ge (by omega) (by omega)))) (fun c_7 => ?_)
      refine w_aload_n dJ7_fill_53178_10 rfl ?_
      refine w_iload_n dJ7_fill_53178_11 rfl ?_
      refine w_iload_n dJ7_fill_53178_12 rfl ?_
      refine x_iast (j := i) dJ7_fill_53178_13 (by rw [ho]) hn rfl (by rw [ho]; show i < L; omega) ?_
      refine w_iinc (v := nI (i + 1)) dJ7_fill_53178_14 rfl (nI_inc _) (by decide) rfl ?_
      refine w_goto (tgt := 5) dJ7_fill_53178_17 (by decide) ?_
      refine ih (i + 1) _ (by omega) ?_
      rw [hI]
      funext a b
      simp only [up2]
      by_cases h1 : a = o <;> by_cases h2 : b = i <;> simp only [h1, h2, true_and, false_and, and_true, and_false, if_true, if_false, Nat.lt_succ_self] <;> (try rfl)
      by_cases h3 : b < i
      · rw [if_pos h3, if_pos (by omega)]
      · rw [if_neg h3, if_neg (by omega)]
  refine w_iconst (v := 0) dJ7_fill_53178_0 (by decide) ?_
  refine w_istore_n dJ7_fill_53178_1 (by decide) rfl ?_
  refine w_aload_n dJ7_fill_53178_2 rfl ?_
  refine x_alen (c := 8) (L := L) dJ7_fill_53178_3 ho (by decide) (by decide) hn ?_
  refine w_istore_n dJ7_fill_53178_4 (by decide) rfl ?_
  refine w_ls [1, 0, 2, 3] rfl (loop L 0 I (by omega) ?_)
  funext a b
  simp
end RX
