/-! HeapGames$Solver: what is read of it; prepare -/
def lecB (q t : Nat) : Bool := decide (dig q 0 ≤ dig t 0 ∧ dig q 1 ≤ dig t 1 ∧ dig q 2 ≤ dig t 2 ∧ dig q 3 ≤ dig t 3 ∧ q / 65536 ≤ t / 65536)
theorem lecB_iff {q t : Nat} : lecB q t = true ↔ lec q t := by rw [lec_iff]; unfold lecB; exact decide_eq_true_iff
/-- how many of lo .. lo + n - 1 -/
def cntR (f : Nat → Bool) (lo : Nat) : Nat → Nat
  | 0 => 0
  | n + 1 => cntR f lo n + if f (lo + n) then 1 else 0
theorem cntR_le (f : Nat → Bool) (lo : Nat) : ∀ n, cntR f lo n ≤ n
  | 0 => Nat.le_refl _
  | n + 1 => by rw [cntR]; have := cntR_le f lo n; split <;> omega
theorem cntR_skip {f : Nat → Bool} {lo n : Nat} : ∀ m, (∀ i, n ≤ i → i < n + m → f (lo + i) = false) → cntR f lo (n + m) = cntR f lo n
  | 0, _ => rfl
  | m + 1, h => by
    rw [show n + (m + 1) = (n + m) + 1 from rfl, cntR, h (n + m) (by omega) (by omega), cntR_skip m (fun i h1 h2 => h i h1 (by omega))]
    rfl
def lostF (c : Cf) (t : Nat) (p : Nat) : Bool := lecB p t && !(val c p).1
theorem and_hi {t : Nat} : nI t &&& (-65536 : Int32) = nI (65536 * (t / 65536)) := by
  apply b_ext
  intro i hi
  rw [b_and, b_hi16 i hi, bt_nI hi, bt_nI hi, show 65536 * (t / 65536) = 2 ^ 16 * (t / 2 ^ 16) + 0 from rfl, Nat.testBit_two_pow_mul_add _ (by decide)]
  by_cases h : i < 16
  · rw [if_pos h, decide_eq_false (by omega)]; simp
  · rw [if_neg h, decide_eq_true (by omega), Nat.testBit_div_two_pow, show i - 16 + 16 = i by omega]; simp
def wn (rs : List Nat) (mi : Bool) : Nat := pk4 rs + 65536 * rs.length + (if mi then 1048576 else 0)
theorem wn_or {rs : List Nat} {mi : Bool} (hr : ∀ x ∈ rs, x < 16) (hl : rs.length ≤ 4) : pk4 rs ||| rs.length * 2 ^ 16 ||| (if mi then 1048576 else 0) = wn rs mi := by
  have h1 : pk4 rs < 2 ^ 16 := by
    have := pk4_lt hr
    exact Nat.lt_of_lt_of_le this (Nat.pow_le_pow_right (by decide) hl : 16 ^ rs.length ≤ 16 ^ 4)
  rw [Nat.or_comm (pk4 rs), Nat.mul_comm, ← Nat.two_pow_add_eq_or_of_lt h1]
  unfold wn
  cases mi with
  | false => show _ ||| 0 = _ + 0; rw [Nat.or_zero]; omega
  | true =>
    show _ ||| 1048576 = _ + 1048576
    rw [Nat.or_comm, show (1048576 : Nat) = 2 ^ 20 * 1 from rfl, ← Nat.two_pow_add_eq_or_of_lt (by omega)]
    omega
theorem pk4_inj : ∀ {a b : List Nat}, (∀ x ∈ a, x < 16) → (∀ x ∈ b, x < 16) → a.length = b.length → pk4 a = pk4 b → a = b
  | [], [], _, _, _, _ => rfl
  | [], _ :: _, _, _, h, _ => by simp at h
  | _ :: _, [], _, _, h, _ => by simp at h
  | x :: xs, y :: ys, h1, h2, h3, h4 => by
    have a := h1 x (by simp)
    have b := h2 y (by simp)
    rw [pk4, pk4] at h4
    have e : x = y := by omega
    have e2 : pk4 xs = pk4 ys := by omega
    rw [e, pk4_inj (fun z hz => h1 z (by simp [hz])) (fun z hz => h2 z (by simp [hz])) (by simpa using h3) e2]
theorem pk4_16 {rs : List Nat} (hr : ∀ x ∈ rs, x < 16) (hl : rs.length ≤ 4) : pk4 rs < 65536 :=
  Nat.lt_of_lt_of_le (pk4_lt hr) (Nat.pow_le_pow_right (by decide) hl : 16 ^ rs.length ≤ 16 ^ 4)
theorem wn_inj {a b : List Nat} {m n : Bool} (ha : ∀ x ∈ a, x < 16) (hb : ∀ x ∈ b, x < 16) (hla : a.length ≤ 4) (hlb : b.length ≤ 4) (h : wn a m = wn b n) : a = b ∧ m = n := by
  have h1 := pk4_16 ha hla
  have h2 := pk4_16 hb hlb
  unfold wn at h
  have hm : m = n := by
    cases m <;> cases n <;> first | rfl | (simp at h; omega)
  subst hm
  have hl : a.length = b.length := by omega
  exact ⟨pk4_inj ha hb hl (by omega), rfl⟩
theorem wn_lt {rs : List Nat} {mi : Bool} (hr : ∀ x ∈ rs, x < 16) (hl : rs.length ≤ 4) : wn rs mi < 2 ^ 21 := by
  have h1 := pk4_16 hr hl
  unfold wn
  split <;> omega
/-- the rules of a text: kinds, sets, the shared amounts as bits -/
abbrev Ru : Type := (Nat → Nat) × (Nat → Nat → Bool) × Nat
def cfOf (ru : Ru) (rs : List Nat) (mi : Bool) : Cf := (rs.length, fun h n a => okA (ru.1 (rs.getD h 0)) (ru.2.1 (rs.getD h 0)) n a, fun a => ru.2.2.testBit a, mi)
def rsOK (rs : List Nat) : Prop := rs.length ≤ 4 ∧ ∀ x ∈ rs, x < 6
theorem rsOK.lt {rs : List Nat} (h : rsOK rs) : ∀ x ∈ rs, x < 16 := fun x hx => by have := h.2 x hx; omega
theorem rsOK.getD {rs : List Nat} (h : rsOK rs) (k : Nat) : rs.getD k 0 < 6 := by
  rcases Nat.lt_or_ge k rs.length with z | z
  · rw [List.getD_eq_getElem?_getD, List.getElem?_eq_getElem z]; exact h.2 _ (List.getElem_mem z)
  · rw [List.getD_eq_getElem?_getD, List.getElem?_eq_none z]; decide
/-- the solver, at most n stamps used -/
def sP (I : Nat → Nat → Int32) (ru : Ru) (n : Nat) : Prop := ∃ st T, st ≤ n ∧ I 47 5 = nI st ∧ (∀ p, p < 262144 → I 48 p = nI (T p) ∧ T p < (st + 1) * 8192) ∧
  (I 47 4 = -1 ∨ ∃ rs mi, rsOK rs ∧ I 47 4 = nI (wn rs mi) ∧ svOK I (cfOf ru rs mi) ∧ svT I (cfOf ru rs mi) st T)
/-- .. prepared for these heaps -/
def sQ (I : Nat → Nat → Int32) (ru : Ru) (rs : List Nat) (mi : Bool) (n : Nat) (T : Nat → Nat) : Prop := ∃ st, st ≤ n ∧ I 47 4 = nI (wn rs mi) ∧ svOK I (cfOf ru rs mi) ∧ svT I (cfOf ru rs mi) st T
def frP (I I' : Nat → Nat → Int32) : Prop := ∀ o, o ≠ 47 → o ≠ 49 → I' o = I o
/-- a game as the solver sees it -/
def gmP (I : Nat → Nat → Int32) (J : Nat → Nat → Int64) (g : Nat) (ru : Ru) (rs : List Nat) (mi : Bool) : Prop := rsOK rs ∧ I (g + 2) 0 = nI rs.length ∧ I (g + 2) 1 = nI (pk4 rs) ∧ I (g + 2) 3 = b2i mi ∧ I g 2 = nI ru.2.2 ∧ ru.2.2 < 65536 ∧
  ∀ k, k < 6 → I (g + 4 + 3 * k) 1 = nI (ru.1 k) ∧ ru.1 k ≤ 4 ∧ clS (J (g + 4 + 3 * k) 2) = ru.2.1 k
section SD
variable (E : GE) (l : Launch)
variable {I : Nat → Nat → Int32} {J : Nat → Nat → Int64} {R : Nat → Nat → Option Nat} {D : Nat → Nat → UInt64} {N : Nat} {ex : Bool}
theorem T_lt {c : Cf} {st p : Nat} {T : Nat → Nat} (h : svT I c st T) (hp : p < 262144) : T p < 2 ^ 31 := by
  have h1 := (h.1.2.2.2 p hp).2
  have h2 := h.1.2.2.1
  omega
theorem fnd' {c : Cf} (hc : c.m ≤ 4) {st p : Nat} {T : Nat → Nat} (h : svT I c st T) (hp : p < 262144) (hk : kn T st p) : T p / 64 % 64 = (val c p).2.1 ∧ T p % 64 = (val c p).2.2 ∧ (T p / 4096 % 2 = 1 ↔ (val c p).1 = true) := by
  have h1 := val_le hc p
  have h2 := wt_le hp
  exact fnd (by omega) (by omega) hk (h.2.1 p hp hk)
set_option maxRecDepth 100000 in
theorem c_Sv_valueAt (hv : isV R N) {c : Cf} (hc : c.m ≤ 4) {st : Nat} {T : Nat → Nat} (ht : svT I c st T) {p : Nat} (hp : p < 262144) (hk : kn T st p) : g_Ct E l mX3_valueAt 1 22 0 0 [.ref 47, .int (nI p)] (I, J, R, D, N, ex) (g_is (some (.int (nI (val c p).2.2))) (I, J, R, D, N, ex)) := by
  refine g_Ct.of (by decide +kernel) (lb rfl) ?_
  have h51 := hv.1
  refine w_aload_n dX3_valueAt_0 rfl ?_
  refine w_iload_n dX3_valueAt_1 rfl ?_
  refine y_callV dX3_valueAt_2 lk_X3_93 [.int (nI p)] rfl (c_foundK E l hv (c := c) ht.1 hp hk) (g_recv.obj (ci := 3) rfl (by decide) (show 47 < N by omega)) rfl ⟨⟨by decide, by decide⟩, by decide, by decide⟩ (lb rfl) ?_
  refine w_bipush (v := 63) dX3_valueAt_5 (by decide) ?_
  refine w_iand dX3_valueAt_7 ?_
  refine w_iret dX3_valueAt_8 rfl rfl ⟨rt_i (by rw [an63, (fnd' hc ht hp hk).2.1]), rfl⟩ (by decide) (by decide)
set_option maxRecDepth 100000 in
theorem c_Sv_lengthAt (hv : isV R N) {c : Cf} (hc : c.m ≤ 4) {st : Nat} {T : Nat → Nat} (ht : svT I c st T) {p : Nat} (hp : p < 262144) (hk : kn T st p) : g_Ct E l mX3_lengthAt 1 22 0 0 [.ref 47, .int (nI p)] (I, J, R, D, N, ex) (g_is (some (.int (nI (val c p).2.1))) (I, J, R, D, N, ex)) := by
  refine g_Ct.of (by decide +kernel) (lb rfl) ?_
  have h51 := hv.1
  refine w_aload_n dX3_lengthAt_0 rfl ?_
  refine w_iload_n dX3_lengthAt_1 rfl ?_
  refine y_callV dX3_lengthAt_2 lk_X3_93 [.int (nI p)] rfl (c_foundK E l hv (c := c) ht.1 hp hk) (g_recv.obj (ci := 3) rfl (by decide) (show 47 < N by omega)) rfl ⟨⟨by decide, by decide⟩, by decide, by decide⟩ (lb rfl) ?_
  refine w_bipush (v := 6) dX3_lengthAt_5 (by decide) ?_
  refine w_ishr dX3_lengthAt_7 ?_
  rw [sh6 (T_lt ht hp)]
  refine w_bipush (v := 63) dX3_lengthAt_8 (by decide) ?_
  refine w_iand dX3_lengthAt_10 ?_
  refine w_iret dX3_lengthAt_11 rfl rfl ⟨rt_i (by rw [an63, (fnd' hc ht hp hk).1]), rfl⟩ (by decide) (by decide)
set_option maxRecDepth 100000 in
theorem c_Sv_isWonAt (hv : isV R N) {c : Cf} (hc : c.m ≤ 4) {st : Nat} {T : Nat → Nat} (ht : svT I c st T) {p : Nat} (hp : p < 262144) (hk : kn T st p) : g_Ct E l mX3_isWonAt 1 22 0 0 [.ref 47, .int (nI p)] (I, J, R, D, N, ex) (g_is (some (.int (b2i (val c p).1))) (I, J, R, D, N, ex)) := by
  refine g_Ct.of (by decide +kernel) (lb rfl) ?_
  have h51 := hv.1
  have hf := (fnd' hc ht hp hk).2.2
  refine w_aload_n dX3_isWonAt_0 rfl ?_
  refine w_iload_n dX3_isWonAt_1 rfl ?_
  refine y_callV dX3_isWonAt_2 lk_X3_93 [.int (nI p)] rfl (c_foundK E l hv (c := c) ht.1 hp hk) (g_recv.obj (ci := 3) rfl (by decide) (show 47 < N by omega)) rfl ⟨⟨by decide, by decide⟩, by decide, by decide⟩ (lb rfl) ?_
  refine w_sipush (v := 4096) dX3_isWonAt_5 (by decide) ?_
  refine w_iand dX3_isWonAt_8 ?_
  rw [an12]
  refine w_if_eq (tgt := 16) dX3_isWonAt_9 (by decide) (fun c_9 => ?_) (fun c_9 => ?_)
  · refine w_iconst (v := 0) dX3_isWonAt_16 (by decide) ?_
    refine w_iret dX3_isWonAt_17 rfl (by rfl) (by first | exact ⟨rt_f (by rw [← Bool.not_eq_true]; intro z; rw [if_pos (hf.mpr z)] at c_9; exact absurd c_9 (by decide)), rfl⟩ | exact ⟨rt_t (hf.mp (Decidable.byContradiction fun z => c_9 (by rw [if_neg z]; rfl))), rfl⟩) (by decide) (by decide)
  · refine w_iconst (v := 1) dX3_isWonAt_12 (by decide) ?_
    refine w_goto (tgt := 17) dX3_isWonAt_13 (by decide) ?_
    refine w_iret dX3_isWonAt_17 rfl (by rfl) (by first | exact ⟨rt_f (by rw [← Bool.not_eq_true]; intro z; rw [if_pos (hf.mpr z)] at c_9; exact absurd c_9 (by decide)), rfl⟩ | exact ⟨rt_t (hf.mp (Decidable.byContradiction fun z => c_9 (by rw [if_neg z]; rfl))), rfl⟩) (by decide) (by decide)
set_option maxRecDepth 100000 in
theorem c_countLostBelow (hv : isV R N) {c : Cf} (hc : c.m ≤ 4) {st : Nat} {T : Nat → Nat} (ht : svT I c st T) {t : Nat} (hp : t < 262144) (hk : kn T st t) : g_Ct E l mX3_countLostBelow 2 45 0 0 [.ref 47, .int (nI t)] (I, J, R, D, N, ex) (g_is (some (.int (nI (cntR (lostF c t) (65536 * (t / 65536)) 65536)))) (I, J, R, D, N, ex)) := by
  refine g_Ct.of (by decide +kernel) (lb rfl) ?_
  have h51 := hv.1
  obtain ⟨A, B, C, D', Q, hA, hB, hC, hD, htm⟩ := mk5_ex t
  have hQ : Q < 4 := by rw [htm, mk5] at hp; omega
  have hQt : t / 65536 = Q := by rw [htm]; exact mk5_q hA hB hC hD
  have htot : (Q + 1) * chb t 4 = tot5 A B C D' Q := by rw [htm]; exact tot_chb hA hB hC hD
  have hchb : chb t 4 ≤ 65536 := chb_le t 4
  have hrk0 : rk5 A B C D' 0 0 0 0 Q + chb t 4 = tot5 A B C D' Q := by
    rw [← htot, Nat.succ_mul]
    congr 1
    have e : Q * chb t 4 = (A + 1) * ((B + 1) * ((C + 1) * ((D' + 1) * Q))) := by
      rw [htm, show chb (mk5 A B C D' Q) 4 = 1 * (dig (mk5 A B C D' Q) 0 + 1) * (dig (mk5 A B C D' Q) 1 + 1) * (dig (mk5 A B C D' Q) 2 + 1) * (dig (mk5 A B C D' Q) 3 + 1) from rfl, mk5_0 hA, mk5_1 hA hB, mk5_2 hA hB hC, mk5_3 hA hB hC hD, Nat.one_mul, Nat.mul_comm Q]
      simp only [Nat.mul_assoc]
    rw [e]
    simp [rk5]
  rw [hQt]
  generalize hF : cntR (lostF c t) (65536 * Q) 65536 = F
  have loop : ∀ (f a b cc d q n : Nat), rk5 A B C D' a b cc d q + f = tot5 A B C D' Q → f ≤ 65536 → a ≤ A → b ≤ B → cc ≤ C → d ≤ D' → q < 5 → mk5 a b cc d q = 65536 * Q + n → 
      g_Wp E l mX3_countLostBelow { frames := 2, cells := 0, slots := 0, locals := 45 } (g_Fin E (g_is (some (.int (nI F))) (I, J, R, D, N, ex)) 0 0) 0 0 13 [(4, .int (nI f)), (3, .int (nI (mk5 a b cc d q))), (2, .int (nI (cntR (lostF c t) (65536 * Q) n))), (0, .ref 47), (1, .int (nI t))] [] (I, J, R, D, N, ex) := by
    intro f
    induction f with
    | zero =>
      intro a b cc d q n hf hf6 ha hb hcc hd hq hn
      have hqq : ¬ q ≤ Q := by rw [← rk_lt ha hb hcc hd]; omega
      have hlast : cntR (lostF c t) (65536 * Q) n = F := by
        rw [← hF, show n = 65536 + (n - 65536) by unfold mk5 at hn; omega]
        refine cntR_skip _ (fun i h1 h2 => ?_)
        unfold lostF
        rw [show lecB (65536 * Q + i) t = false from by
          rw [← Bool.not_eq_true, lecB_iff]
          intro z
          have := z.2
          omega]
        rfl
      rw [hlast]
      refine w_iload dX3_countLostBelow_13 rfl ?_
      refine w_if_le (tgt := 41) dX3_countLostBelow_15 (by decide) (fun c_15 => ?_) (fun c_15 => absurd ((by decide)) c_15)
      refine w_iload_n dX3_countLostBelow_41 rfl ?_
      refine w_iret dX3_countLostBelow_42 rfl rfl ⟨rfl, rfl⟩ (by decide) (by decide)
    | succ f ih =>
      intro a b cc d q n hf hf6 ha hb hcc hd hq hn
      have hqq : q ≤ Q := by rw [← rk_lt ha hb hcc hd]; omega
      have hpos : mk5 a b cc d q < 262144 := by unfold mk5; omega
      have hlec : lec (mk5 a b cc d q) t := by rw [htm, mk5_lec hA hB hC hD (by omega) (by omega) (by omega) (by omega)]; exact ⟨ha, hb, hcc, hd, hqq⟩
      obtain ⟨a', b', c', d', q', e1, e2, e3, e4, e5, e6, e7, e8⟩ := fol_ex (q := q) ha hb hcc hd
      have hgt := fol_gt (A := A) (B := B) (C := C) (D := D') (a := a) (b := b) (c := cc) (d := d) (q := q) (by omega) (by omega) (by omega) (by omega)
      rw [e5] at hgt
      have hgap : ∀ x, lec x t → x < mk5 a' b' c' d' q' → x < mk5 a b cc d q ∨ x = mk5 a b cc d q := fun x hx hx2 => fol_gap hA hB hC hD ha hb hcc hd (by rw [← htm]; exact hx) (by rw [e5]; exact hx2)
      obtain ⟨m, hm⟩ : ∃ m, mk5 a' b' c' d' q' = 65536 * Q + (n + 1 + m) := ⟨mk5 a' b' c' d' q' - (65536 * Q + (n + 1)), by omega⟩
      have hskip : cntR (lostF c t) (65536 * Q) (n + 1 + m) = cntR (lostF c t) (65536 * Q) n + if (val c (mk5 a b cc d q)).1 then 0 else 1 := by
        rw [cntR_skip m (fun i h1 h2 => by
          unfold lostF
          rw [show lecB (65536 * Q + i) t = false from by
            rw [← Bool.not_eq_true, lecB_iff]
            intro z
            have := hgap _ z (by omega)
            omega]
          rfl), cntR, ← hn]
        unfold lostF
        rw [lecB_iff.mpr hlec]
        cases (val c (mk5 a b cc d q)).1 <;> rfl
      have hcl := cntR_le (lostF c t) (65536 * Q) n
      refine w_iload dX3_countLostBelow_13 rfl ?_
      refine w_if_le (tgt := 41) dX3_countLostBelow_15 (by decide) (fun c_15 => absurd c_15 ((nI_nle (by omega) (by omega)))) (fun c_15 => ?_)
      refine w_aload_n dX3_countLostBelow_18 rfl ?_
      refine w_iload_n dX3_countLostBelow_19 rfl ?_
      refine y_callV dX3_countLostBelow_20 lk_X3_130 [.int (nI (mk5 a b cc d q))] rfl (c_Sv_isWonAt E l hv hc ht hpos (ht.2.2 t hp hk _ hlec)) (g_recv.obj (ci := 3) rfl (by decide) (show 47 < N by omega)) rfl ⟨⟨by decide, by decide⟩, by decide, by decide⟩ (lb rfl) ?_
      refine w_if_ne (tgt := 29) dX3_countLostBelow_23 (by decide) (fun c_23 => ?_) (fun c_23 => ?_)
      · refine w_iload_n dX3_countLostBelow_29 rfl ?_
        refine w_iload_n dX3_countLostBelow_30 rfl ?_
        refine y_callS dX3_countLostBelow_31 lk_X3_109 [.int (nI (mk5 a b cc d q)), .int (nI t)] rfl (by have := c_followingBelow E l (I, J, R, D, N, ex) (a := a) (b := b) (c := cc) (d := d) (q := q) hA hB hC hD (by omega) (by omega) (by omega) (by omega) hq (show Q < 5 by omega); rw [e5, ← htm] at this; exact this) rfl ⟨⟨by decide, by decide⟩, by decide, by decide⟩ (lb rfl) ?_
        refine w_istore_n dX3_countLostBelow_34 (by decide) rfl ?_
        refine w_iinc (v := nI f) dX3_countLostBelow_35 rfl (nI_dec _) (by decide) rfl ?_
        refine w_goto (tgt := 13) dX3_countLostBelow_38 (by decide) ?_
        first | (have t9 := ih a' b' c' d' q' (n + 1 + m) (by omega) (by omega) e1 e2 e3 e4 (by omega) hm; rw [hskip, b2i_ne.mp c_23] at t9; exact w_lv [4, 3, 2, 0, 1] t9) | (have t9 := ih a' b' c' d' q' (n + 1 + m) (by omega) (by omega) e1 e2 e3 e4 (by omega) hm; rw [hskip, b2i_0.mp c_23] at t9; exact w_lv [4, 3, 2, 0, 1] t9)
      · refine w_iinc (v := nI (cntR (lostF c t) (65536 * Q) n + 1)) dX3_countLostBelow_26 rfl (nI_inc _) (by decide) rfl ?_
        refine w_iload_n dX3_countLostBelow_29 rfl ?_
        refine w_iload_n dX3_countLostBelow_30 rfl ?_
        refine y_callS dX3_countLostBelow_31 lk_X3_109 [.int (nI (mk5 a b cc d q)), .int (nI t)] rfl (by have := c_followingBelow E l (I, J, R, D, N, ex) (a := a) (b := b) (c := cc) (d := d) (q := q) hA hB hC hD (by omega) (by omega) (by omega) (by omega) hq (show Q < 5 by omega); rw [e5, ← htm] at this; exact this) rfl ⟨⟨by decide, by decide⟩, by decide, by decide⟩ (lb rfl) ?_
        refine w_istore_n dX3_countLostBelow_34 (by decide) rfl ?_
        refine w_iinc (v := nI f) dX3_countLostBelow_35 rfl (nI_dec _) (by decide) rfl ?_
        refine w_goto (tgt := 13) dX3_countLostBelow_38 (by decide) ?_
        first | (have t9 := ih a' b' c' d' q' (n + 1 + m) (by omega) (by omega) e1 e2 e3 e4 (by omega) hm; rw [hskip, b2i_ne.mp c_23] at t9; exact w_lv [4, 3, 2, 0, 1] t9) | (have t9 := ih a' b' c' d' q' (n + 1 + m) (by omega) (by omega) e1 e2 e3 e4 (by omega) hm; rw [hskip, b2i_0.mp c_23] at t9; exact w_lv [4, 3, 2, 0, 1] t9)
  refine w_iconst (v := 0) dX3_countLostBelow_0 (by decide) ?_
  refine w_istore_n dX3_countLostBelow_1 (by decide) rfl ?_
  refine w_iload_n dX3_countLostBelow_2 rfl ?_
  refine w_ldc dX3_countLostBelow_3 kc_X3_129 ?_
  refine w_iand dX3_countLostBelow_5 ?_
  rw [and_hi, hQt]
  refine w_istore_n dX3_countLostBelow_6 (by decide) rfl ?_
  refine w_iload_n dX3_countLostBelow_7 rfl ?_
  refine y_callS dX3_countLostBelow_8 lk_X3_100 [.int (nI t)] rfl (c_countHeapsBelow E l _ (by omega)) rfl ⟨⟨by decide, by decide⟩, by decide, by decide⟩ (lb rfl) ?_
  refine w_istore dX3_countLostBelow_11 (by decide) rfl ?_
  refine w_lv [4, 3, 2, 0, 1] ?_
  have t9 := loop (chb t 4) 0 0 0 0 Q 0 hrk0 hchb (by omega) (by omega) (by omega) (by omega) (by omega) (by unfold mk5; omega)
  rw [show mk5 0 0 0 0 Q = 65536 * Q by unfold mk5; omega] at t9
  exact t9
end SD
