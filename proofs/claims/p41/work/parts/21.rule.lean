/-! SPEC of a rule, and HeapGames$Rule -/
def b2i (b : Bool) : Int32 := if b then 1 else 0
theorem b2i_01 (b : Bool) : b2i b = 0 ∨ b2i b = 1 := by cases b <;> simp [b2i]
theorem b2i_0 {b : Bool} : b2i b = 0 ↔ b = false := by cases b <;> simp [b2i]
theorem b2i_ne {b : Bool} : ¬ b2i b = 0 ↔ b = true := by cases b <;> simp [b2i]
theorem rt_i {x y : Int32} (h : x = y) : (Sum.inr (some (Value.int x)) : String ⊕ Option Value) = .inr (some (.int y)) := by rw [h]
theorem rt_t {b : Bool} (h : b = true) : (Sum.inr (some (Value.int 1)) : String ⊕ Option Value) = .inr (some (.int (b2i b))) := by rw [h]; rfl
theorem rt_f {b : Bool} (h : b = false) : (Sum.inr (some (Value.int 0)) : String ⊕ Option Value) = .inr (some (.int (b2i b))) := by rw [h]; rfl
theorem n_lt {a b : Nat} (h : nI a < nI b) (ha : a < 2 ^ 31 := by omega) (hb : b < 2 ^ 31 := by omega) : a < b := (nI_ltI ha hb).mp h
theorem n_nlt {a b : Nat} (h : ¬ nI a < nI b) (ha : a < 2 ^ 31 := by omega) (hb : b < 2 ^ 31 := by omega) : b ≤ a := Nat.not_lt.mp (fun q => h ((nI_ltI ha hb).mpr q))
theorem n_le {a b : Nat} (h : nI a ≤ nI b) (ha : a < 2 ^ 31 := by omega) (hb : b < 2 ^ 31 := by omega) : a ≤ b := (nI_leI ha hb).mp h
theorem n_nle {a b : Nat} (h : ¬ nI a ≤ nI b) (ha : a < 2 ^ 31 := by omega) (hb : b < 2 ^ 31 := by omega) : b < a := Nat.not_le.mp (fun q => h ((nI_leI ha hb).mpr q))
theorem n_eq {a b : Nat} (h : nI a = nI b) (ha : a < 2 ^ 31 := by omega) (hb : b < 2 ^ 31 := by omega) : a = b := (nI_eq ha hb).mp h
theorem n_ne {a b : Nat} (h : ¬ nI a = nI b) (ha : a < 2 ^ 31 := by omega) (hb : b < 2 ^ 31 := by omega) : a ≠ b := fun q => h ((nI_eq ha hb).mpr q)
/-- a number from 1 to n -/
theorem i_1n {x : Int32} {n : Nat} (hn : n < 2 ^ 31) (h1 : ¬ x < 1) (h2 : x ≤ nI n) : ∃ a, 1 ≤ a ∧ a ≤ n ∧ x = nI a := by
  rw [Int32.lt_iff_toInt_lt] at h1
  rw [Int32.le_iff_toInt_le, nI_toInt hn] at h2
  have h3 : (1 : Int32).toInt = 1 := rfl
  rw [h3] at h1
  refine ⟨x.toInt.toNat, by omega, by omega, ?_⟩
  have h4 : x.toInt = (x.toInt.toNat : Int) := by omega
  apply Int32.toInt_inj.mp
  rw [nI_toInt (by omega)]
  exact h4
/-- r, r + 1 .. : is one of them the root of a -/
def sqL : Nat → Nat → Nat → Bool
  | 0, _, _ => false
  | f + 1, r, a => if a < r * r then false else if r * r = a then true else sqL f (r + 1) a
def isPw (a : Nat) : Bool := decide (nI a &&& (nI a - 1) = 0)
/-- may a counters be taken from n by a rule of kind k with the set S -/
def okA (k : Nat) (S : Nat → Bool) (n a : Nat) : Bool := decide (1 ≤ a ∧ a ≤ n) && (match k with
  | 0 => S a
  | 1 => decide (a < n ∧ n % a = 0)
  | 2 => decide (a ≤ n / 2)
  | 3 => isPw a
  | _ => sqL 300 1 a)
def okI (k : Nat) (S : Nat → Bool) (n : Nat) (x : Int32) : Bool := decide (0 < x.toInt) && okA k S n x.toInt.toNat
theorem okI_lo {k : Nat} {S : Nat → Bool} {n : Nat} {x : Int32} (h : x < 1) : okI k S n x = false := by
  rw [Int32.lt_iff_toInt_lt] at h
  have h3 : (1 : Int32).toInt = 1 := rfl
  rw [h3] at h
  unfold okI
  rw [decide_eq_false (by omega)]
  rfl
theorem okI_hi {k : Nat} {S : Nat → Bool} {n : Nat} {x : Int32} (hn : n < 2 ^ 31) (h : ¬ x ≤ nI n) : okI k S n x = false := by
  rw [Int32.le_iff_toInt_le, nI_toInt hn] at h
  unfold okI okA
  rw [decide_eq_false (p := 1 ≤ x.toInt.toNat ∧ x.toInt.toNat ≤ n) (by omega)]
  simp
theorem okI_nI {k : Nat} {S : Nat → Bool} {n a : Nat} (h1 : 1 ≤ a) (h2 : a < 2 ^ 31) : okI k S n (nI a) = okA k S n a := by
  unfold okI
  rw [nI_toInt h2, decide_eq_true (by omega)]
  simp
theorem okA_eq {k : Nat} {S : Nat → Bool} {n a : Nat} (h1 : 1 ≤ a) (h2 : a ≤ n) : okA k S n a = (match k with
  | 0 => S a
  | 1 => decide (a < n ∧ n % a = 0)
  | 2 => decide (a ≤ n / 2)
  | 3 => isPw a
  | _ => sqL 300 1 a) := by
  unfold okA
  rw [decide_eq_true ⟨h1, h2⟩]
  rfl
/-- the set that a long holds, up to 60 -/
def clS (x : Int64) (a : Nat) : Bool := decide (a ≤ 60) && !decide ((x >>> ((nI a).toInt64 &&& 63)) &&& 1 = 0)
/-- how many amounts -/
def cntA (p : Nat → Bool) : Nat → Nat
  | 0 => 0
  | n + 1 => cntA p n + if p (n + 1) then 1 else 0
theorem cntA_le (p : Nat → Bool) (n : Nat) : cntA p n ≤ n := by
  induction n with
  | zero => exact Nat.le_refl _
  | succ n ih => unfold cntA; split <;> omega
theorem cntA_f {p : Nat → Bool} {n : Nat} (h : p (n + 1) = false) : cntA p (n + 1) = cntA p n := by rw [cntA, h]; rfl
theorem cntA_t {p : Nat → Bool} {n : Nat} (h : p (n + 1) = true) : cntA p (n + 1) = cntA p n + 1 := by rw [cntA, h]; rfl
/-- a rule lies at r, its rows behind it -/
def isR (R : Nat → Nat → Option Nat) (N r : Nat) : Prop := (g_ob r).1 = 2 ∧ r + 2 < N ∧ g_ob (r + 1) = (8, 301) ∧ g_ob (r + 2) = (8, 301) ∧ R r 3 = some (r + 1) ∧ R r 4 = some (r + 2)
section RU
variable (E : GE) (l : Launch)
theorem lg0 (x : Int64) : lg_cmp x 0 = 0 ↔ x = 0 := by
  unfold lg_cmp
  split
  · rename_i h
    constructor
    · intro h2; cases h2
    · intro h2; subst h2; exact absurd h (by decide)
  · split
    · rename_i h; simp [h]
    · rename_i h1 h2
      constructor
      · intro h3; cases h3
      · intro h3; exact absurd h3 h2
set_option maxRecDepth 100000 in
theorem c_isSquare (w : GW) {a : Nat} (ha : a ≤ 300) : g_Ct E l mX2_isSquare 0 0 0 0 [.int (nI a)] w (g_is (some (.int (b2i (sqL 300 1 a)))) w) := by
  refine g_Ct.of (by decide +kernel) (lb rfl) ?_
  generalize hQ : sqL 300 1 a = Q
  have loop : ∀ f r : Nat, r + f = 301 → sqL f r a = Q → g_Wp E l mX2_isSquare { frames := 0, cells := 0, slots := 0, locals := 0 } (g_Fin E (g_is (some (.int (b2i Q))) w) 0 0) 0 0 2 [(1, .int (nI r)), (0, .int (nI a))] [] w := by
    intro f
    induction f with
    | zero =>
      intro r hr hs
      obtain rfl : r = 301 := by omega
      refine w_iload_n dX2_isSquare_2 rfl ?_
      refine w_sipush (v := 300) dX2_isSquare_3 (by decide) ?_
      refine w_icmp_gt (tgt := 31) dX2_isSquare_6 (by decide) (fun c_6 => ?_) (fun c_6 => absurd ((by decide)) c_6)
      refine w_iconst (v := 0) dX2_isSquare_31 (by decide) ?_
      refine w_iret dX2_isSquare_32 rfl (by rfl) ⟨rt_f hs.symm, rfl⟩ (by decide) (by decide)
    | succ f ih =>
      intro r hr hs
      have hrr : r * r ≤ 300 * 300 := Nat.mul_le_mul (by omega) (by omega)
      unfold sqL at hs
      refine w_iload_n dX2_isSquare_2 rfl ?_
      refine w_sipush (v := 300) dX2_isSquare_3 (by decide) ?_
      refine w_icmp_gt (tgt := 31) dX2_isSquare_6 (by decide) (fun c_6 => absurd c_6 (nI_nlt (a := 300) (b := r) (by omega) (by omega))) (fun c_6 => ?_)
      refine w_iload_n dX2_isSquare_9 rfl ?_
      refine w_iload_n dX2_isSquare_10 rfl ?_
      refine w_imul dX2_isSquare_11 ?_
      refine w_st (show _ = [.int (nI (r * r))] from by rw [pk_mul]) ?_
      refine w_iload_n dX2_isSquare_12 rfl ?_
      refine w_icmp_gt (tgt := 31) dX2_isSquare_13 (by decide) (fun c_13 => ?_) (fun c_13 => ?_)
      · refine w_iconst (v := 0) dX2_isSquare_31 (by decide) ?_
        refine w_iret dX2_isSquare_32 rfl (by rfl) ⟨rt_f (by rw [← hs, if_pos (n_lt c_13)]), rfl⟩ (by decide) (by decide)
      · refine w_iload_n dX2_isSquare_16 rfl ?_
        refine w_iload_n dX2_isSquare_17 rfl ?_
        refine w_imul dX2_isSquare_18 ?_
        refine w_st (show _ = [.int (nI (r * r))] from by rw [pk_mul]) ?_
        refine w_iload_n dX2_isSquare_19 rfl ?_
        refine w_icmp_ne (tgt := 25) dX2_isSquare_20 (by decide) (fun c_20 => ?_) (fun c_20 => ?_)
        · refine w_iinc (v := nI (r + 1)) dX2_isSquare_25 rfl (nI_inc _) (by decide) rfl ?_
          refine w_goto (tgt := 2) dX2_isSquare_28 (by decide) ?_
          exact ih (r + 1) (by omega) (by rw [← hs, if_neg (Nat.not_lt.mpr (n_nlt c_13)), if_neg (n_ne c_20)])
        · refine w_iconst (v := 1) dX2_isSquare_23 (by decide) ?_
          refine w_iret dX2_isSquare_24 rfl (by rfl) ⟨rt_t (by rw [← hs, if_neg (Nat.not_lt.mpr (n_nlt c_13)), if_pos (n_eq c_20)]), rfl⟩ (by decide) (by decide)
  refine w_iconst (v := 1) dX2_isSquare_0 (by decide) ?_
  refine w_istore_n dX2_isSquare_1 (by decide) rfl ?_
  exact loop 300 1 rfl hQ
theorem nz_b (b : Bool) : narrow .boolean (.int (b2i b)) = .int (b2i b) := by cases b <;> rfl
theorem clS_big {x : Int64} {a : Nat} (h : ¬ a ≤ 60) : clS x a = false := by unfold clS; rw [decide_eq_false h]; rfl
theorem clS_0 {x : Int64} {a : Nat} (h : lg_cmp ((x >>> ((nI a).toInt64 &&& 63)) &&& 1) 0 = 0) : clS x a = false := by unfold clS; rw [decide_eq_true ((lg0 _).mp h)]; simp
theorem clS_1 {x : Int64} {a : Nat} (h6 : a ≤ 60) (h : ¬ lg_cmp ((x >>> ((nI a).toInt64 &&& 63)) &&& 1) 0 = 0) : clS x a = true := by unfold clS; rw [decide_eq_false (fun q => h ((lg0 _).mpr q)), decide_eq_true h6]; rfl
section RV
variable {I : Nat → Nat → Int32} {J : Nat → Nat → Int64} {R : Nat → Nat → Option Nat} {D : Nat → Nat → UInt64} {N : Nat} {ex : Bool} {r : Nat}
set_option maxRecDepth 100000 in
theorem c_allows (hr : isR R N r) {n k : Nat} (hn : n ≤ 300) (hk : I r 1 = nI k) (hk4 : k ≤ 4) (x : Int32) : g_Ct E l mX2_allows 1 21 0 0 [.ref r, .int (nI n), .int x] (I, J, R, D, N, ex) (g_is (some (.int (b2i (okI k (clS (J r 2)) n x)))) (I, J, R, D, N, ex)) := by
  refine g_Ct.of (by decide +kernel) (lb rfl) ?_
  have hN := hr.2.1
  have hrN : r < N := by omega
  refine w_iload_n dX2_allows_0 rfl ?_
  refine w_iconst (v := 1) dX2_allows_1 (by decide) ?_
  refine w_icmp_lt (tgt := 10) dX2_allows_2 (by decide) (fun c_2 => ?_) (fun c_2 => ?_)
  · refine w_iconst (v := 0) dX2_allows_10 (by decide) ?_
    refine w_iret dX2_allows_11 rfl (by rfl) ⟨rt_f (by first | exact okI_lo c_2 | exact okI_hi (by omega) c_7), rfl⟩ (by decide) (by decide)
  · refine w_iload_n dX2_allows_5 rfl ?_
    refine w_iload_n dX2_allows_6 rfl ?_
    refine w_icmp_le (tgt := 12) dX2_allows_7 (by decide) (fun c_7 => ?_) (fun c_7 => ?_)
    · obtain ⟨a, ha1, ha2, rfl⟩ := i_1n (by omega) c_2 c_7
      rw [okI_nI ha1 (by omega), okA_eq ha1 ha2]
      refine w_aload_n dX2_allows_12 rfl ?_
      refine x_geti (ci := 2) (k := 1) dX2_allows_13 hr.1 (by decide) (by decide) hrN fl_X2_18 rfl ?_
      rw [hk]
      rcases (show k = 0 ∨ k = 1 ∨ k = 2 ∨ k = 3 ∨ k = 4 by omega) with rfl | rfl | rfl | rfl | rfl
      · refine w_tblIn (off := 32) (tgt := 48) dX2_allows_16 (by decide) (by decide) (by decide) (by decide) ?_
        refine w_iload_n dX2_allows_48 rfl ?_
        refine w_bipush (v := 60) dX2_allows_49 (by decide) ?_
        refine w_icmp_gt (tgt := 71) dX2_allows_51 (by decide) (fun c_51 => ?_) (fun c_51 => ?_)
        · refine w_iconst (v := 0) dX2_allows_71 (by decide) ?_
          refine w_iret dX2_allows_72 rfl (by rfl) ⟨by first | exact rt_f (clS_big (by have := n_lt (a := 60) c_51; omega)) | exact rt_f (clS_0 c_64) | exact rt_t (clS_1 (n_nlt (a := 60) c_51) c_64), rfl⟩ (by decide) (by decide)
        · refine w_aload_n dX2_allows_54 rfl ?_
          refine x_getj (ci := 2) (k := 2) dX2_allows_55 hr.1 (by decide) (by decide) hrN fl_X2_22 rfl ?_
          refine w_iload_n dX2_allows_58 rfl ?_
          refine w_lshr dX2_allows_59 ?_
          refine w_lconst (v := 1) dX2_allows_60 (by decide) ?_
          refine w_land dX2_allows_61 ?_
          refine w_lconst (v := 0) dX2_allows_62 (by decide) ?_
          refine w_lcmp dX2_allows_63 ?_
          refine w_if_eq (tgt := 71) dX2_allows_64 (by decide) (fun c_64 => ?_) (fun c_64 => ?_)
          · refine w_iconst (v := 0) dX2_allows_71 (by decide) ?_
            refine w_iret dX2_allows_72 rfl (by rfl) ⟨by first | exact rt_f (clS_big (by have := n_lt (a := 60) c_51; omega)) | exact rt_f (clS_0 c_64) | exact rt_t (clS_1 (n_nlt (a := 60) c_51) c_64), rfl⟩ (by decide) (by decide)
          · refine w_iconst (v := 1) dX2_allows_67 (by decide) ?_
            refine w_goto (tgt := 72) dX2_allows_68 (by decide) ?_
            refine w_iret dX2_allows_72 rfl (by rfl) ⟨by first | exact rt_f (clS_big (by have := n_lt (a := 60) c_51; omega)) | exact rt_f (clS_0 c_64) | exact rt_t (clS_1 (n_nlt (a := 60) c_51) c_64), rfl⟩ (by decide) (by decide)
      · refine w_tblIn (off := 57) (tgt := 73) dX2_allows_16 (by decide) (by decide) (by decide) (by decide) ?_
        refine w_iload_n dX2_allows_73 rfl ?_
        refine w_iload_n dX2_allows_74 rfl ?_
        refine w_icmp_ge (tgt := 88) dX2_allows_75 (by decide) (fun c_75 => ?_) (fun c_75 => ?_)
        · refine w_iconst (v := 0) dX2_allows_88 (by decide) ?_
          refine w_iret dX2_allows_89 rfl (by rfl) ⟨by first | exact rt_f (decide_eq_false (by have := n_le c_75; omega)) | exact rt_f (decide_eq_false (fun q => c_81 (by rw [q.2]; rfl))) | exact rt_t (decide_eq_true ⟨n_nle c_75, n_eq (b := 0) c_81 (by have := Nat.mod_lt n (show 0 < a by omega); omega)⟩), rfl⟩ (by decide) (by decide)
        · refine w_iload_n dX2_allows_78 rfl ?_
          refine w_iload_n dX2_allows_79 rfl ?_
          refine w_irem dX2_allows_80 (nI_ne0 (by omega) (by omega)) ?_
          refine w_st (show _ = [.int (nI (n % a))] from by rw [pk_rem (by omega) (by omega) (by omega)]) ?_
          refine w_if_ne (tgt := 88) dX2_allows_81 (by decide) (fun c_81 => ?_) (fun c_81 => ?_)
          · refine w_iconst (v := 0) dX2_allows_88 (by decide) ?_
            refine w_iret dX2_allows_89 rfl (by rfl) ⟨by first | exact rt_f (decide_eq_false (by have := n_le c_75; omega)) | exact rt_f (decide_eq_false (fun q => c_81 (by rw [q.2]; rfl))) | exact rt_t (decide_eq_true ⟨n_nle c_75, n_eq (b := 0) c_81 (by have := Nat.mod_lt n (show 0 < a by omega); omega)⟩), rfl⟩ (by decide) (by decide)
          · refine w_iconst (v := 1) dX2_allows_84 (by decide) ?_
            refine w_goto (tgt := 89) dX2_allows_85 (by decide) ?_
            refine w_iret dX2_allows_89 rfl (by rfl) ⟨by first | exact rt_f (decide_eq_false (by have := n_le c_75; omega)) | exact rt_f (decide_eq_false (fun q => c_81 (by rw [q.2]; rfl))) | exact rt_t (decide_eq_true ⟨n_nle c_75, n_eq (b := 0) c_81 (by have := Nat.mod_lt n (show 0 < a by omega); omega)⟩), rfl⟩ (by decide) (by decide)
      · refine w_tblIn (off := 74) (tgt := 90) dX2_allows_16 (by decide) (by decide) (by decide) (by decide) ?_
        refine w_iload_n dX2_allows_90 rfl ?_
        refine w_iload_n dX2_allows_91 rfl ?_
        refine w_iconst (v := 2) dX2_allows_92 (by decide) ?_
        refine w_idiv dX2_allows_93 (by decide) ?_
        refine w_st (show _ = [.int (nI (n / 2)), .int (nI a)] from by rw [← pk_div (d := 2) (by omega) (by omega) (by omega)]; rfl) ?_
        refine w_icmp_gt (tgt := 101) dX2_allows_94 (by decide) (fun c_94 => ?_) (fun c_94 => ?_)
        · refine w_iconst (v := 0) dX2_allows_101 (by decide) ?_
          refine w_iret dX2_allows_102 rfl (by rfl) ⟨by first | exact rt_f (decide_eq_false (by have := n_lt c_94; omega)) | exact rt_t (decide_eq_true (n_nlt c_94)), rfl⟩ (by decide) (by decide)
        · refine w_iconst (v := 1) dX2_allows_97 (by decide) ?_
          refine w_goto (tgt := 102) dX2_allows_98 (by decide) ?_
          refine w_iret dX2_allows_102 rfl (by rfl) ⟨by first | exact rt_f (decide_eq_false (by have := n_lt c_94; omega)) | exact rt_t (decide_eq_true (n_nlt c_94)), rfl⟩ (by decide) (by decide)
      · refine w_tblIn (off := 87) (tgt := 103) dX2_allows_16 (by decide) (by decide) (by decide) (by decide) ?_
        refine w_iload_n dX2_allows_103 rfl ?_
        refine w_iload_n dX2_allows_104 rfl ?_
        refine w_iconst (v := 1) dX2_allows_105 (by decide) ?_
        refine w_isub dX2_allows_106 ?_
        refine w_iand dX2_allows_107 ?_
        refine w_if_ne (tgt := 115) dX2_allows_108 (by decide) (fun c_108 => ?_) (fun c_108 => ?_)
        · refine w_iconst (v := 0) dX2_allows_115 (by decide) ?_
          refine w_iret dX2_allows_116 rfl (by rfl) ⟨by first | exact rt_f (decide_eq_false c_108) | exact rt_t (decide_eq_true c_108), rfl⟩ (by decide) (by decide)
        · refine w_iconst (v := 1) dX2_allows_111 (by decide) ?_
          refine w_goto (tgt := 116) dX2_allows_112 (by decide) ?_
          refine w_iret dX2_allows_116 rfl (by rfl) ⟨by first | exact rt_f (decide_eq_false c_108) | exact rt_t (decide_eq_true c_108), rfl⟩ (by decide) (by decide)
      · refine w_tblOut (tgt := 117) dX2_allows_16 (by decide) (by decide) ?_
        refine w_iload_n dX2_allows_117 rfl ?_
        refine y_callS dX2_allows_118 lk_X2_26 [.int (nI a)] rfl (c_isSquare E l _ (by omega)) rfl ⟨⟨by decide, by decide⟩, by decide, by decide⟩ (lb rfl) ?_
        refine w_iret dX2_allows_121 rfl (nz_b _) ⟨rfl, rfl⟩ (by decide) (by decide)
    · refine w_iconst (v := 0) dX2_allows_10 (by decide) ?_
      refine w_iret dX2_allows_11 rfl (by rfl) ⟨rt_f (by first | exact okI_lo c_2 | exact okI_hi (by omega) c_7), rfl⟩ (by decide) (by decide)
end RV
end RU
