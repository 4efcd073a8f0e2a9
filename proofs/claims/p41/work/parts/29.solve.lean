/-! HeapGames$Solver: what is found out -/
def lbit (x : Int64) (a : Nat) : Bool := x.toBitVec.getLsbD a
theorem lsh_bit {x : Int64} {a : Nat} (ha : a < 64) : (x >>> ((nI a).toInt64 &&& 63)) &&& 1 = 0 ↔ lbit x a = false := by
  rw [wb_c a ha]
  have e0 : ((x >>> lN a) &&& 1).toBitVec.getLsbD 0 = lbit x a := by
    rw [Int64.toBitVec_and, Int64.toBitVec_shiftRight]
    show ((x.toBitVec.sshiftRight ((lN a).toBitVec.smod 64).toNat) &&& 1#64).getLsbD 0 = _
    rw [wb_tb, wb_sm a ha, BitVec.getLsbD_and, BitVec.getLsbD_sshiftRight]
    simp [lbit, Nat.mod_eq_of_lt (show a < 2 ^ 64 by omega), ha]
  constructor
  · intro h
    rw [← e0, h]
    rfl
  · intro h
    rw [h] at e0
    apply Int64.toBitVec_inj.mp
    apply BitVec.eq_of_getLsbD_eq
    intro i hi
    cases i with
    | zero => rw [e0]; rfl
    | succ i => rw [Int64.toBitVec_and]; simp
theorem lbit_or {x : Int64} {v a : Nat} (hv : v < 64) (ha : a < 64) : lbit (x ||| (1 : Int64) <<< ((nI v).toInt64 &&& 63)) a = (lbit x a || decide (v = a)) := by
  rw [show (1 : Int64) = lN 1 from rfl, wb_shl 1 hv]
  unfold lbit
  rw [Int64.toBitVec_or, BitVec.getLsbD_or, wb_tb, BitVec.getLsbD_ofNat, Nat.one_mul, Nat.testBit_two_pow]
  simp [ha]
theorem lbit_0 (a : Nat) : lbit 0 a = false := by unfold lbit; simp
theorem lg_b0 {x : Int64} {a : Nat} (ha : a < 64) (h : lg_cmp ((x >>> ((nI a).toInt64 &&& 63)) &&& 1) 0 = 0) : lbit x a = false := (lsh_bit ha).mp ((lg0 _).mp h)
theorem lg_b1 {x : Int64} {a : Nat} (ha : a < 64) (h : ¬ lg_cmp ((x >>> ((nI a).toInt64 &&& 63)) &&& 1) 0 = 0) : lbit x a = true := by
  cases q : lbit x a with
  | true => rfl
  | false => exact absurd ((lg0 _).mpr ((lsh_bit ha).mpr q)) h
def tbOK (I : Nat → Nat → Int32) (st : Nat) (T : Nat → Nat) : Prop := I 47 5 = nI st ∧ 1 ≤ st ∧ st < 200000 ∧ ∀ p, p < 262144 → I 48 p = nI (T p) ∧ T p < (st + 1) * 8192
def kn (T : Nat → Nat) (st p : Nat) : Prop := T p / 8192 = st
def slv (c : Cf) (T : Nat → Nat) (st : Nat) : Prop := ∀ p, p < 262144 → kn T st p → T p % 8192 = enc (val c p)
theorem tbOK.fr {I I' : Nat → Nat → Int32} {st : Nat} {T : Nat → Nat} (h : tbOK I st T) (f : frX I I') : tbOK I' st T :=
  ⟨by rw [f.2 5 (by decide)]; exact h.1, h.2.1, h.2.2.1, fun p hp => by rw [f.1 48 (by decide) (by decide)]; exact h.2.2.2 p hp⟩
theorem enc_or {b : Bool} {n v : Nat} (hn : n < 64) (hv : v < 64) : (if b then 4096 else 0) ||| n * 2 ^ 6 ||| v = (if b then 4096 else 0) + 64 * n + v := by
  rw [Nat.or_assoc, Nat.mul_comm n, ← Nat.two_pow_add_eq_or_of_lt (show v < 2 ^ 6 from hv)]
  cases b with
  | true =>
    show 4096 ||| _ = 4096 + 64 * n + v
    rw [show (4096 : Nat) = 2 ^ 12 * 1 from rfl, ← Nat.two_pow_add_eq_or_of_lt (by omega)]
    omega
  | false =>
    show 0 ||| _ = 0 + 64 * n + v
    rw [Nat.zero_or]
    omega
theorem firstN_ext {p : Nat → Bool} : ∀ {f i : Nat}, p (i + f) = false → firstN p (f + 1) i = firstN p f i
  | 0, i, h => by
    unfold firstN
    rw [if_neg (by rw [show i = i + 0 from rfl, h]; decide)]
  | f + 1, i, h => by
    rw [firstN]
    rw [show firstN p (f + 1) i = if p i then firstN p f (i + 1) else i from rfl]
    rw [firstN_ext (f := f) (i := i + 1) (by rw [← h]; congr 1; omega)]
section SW
variable (E : GE) (l : Launch)
variable {I : Nat → Nat → Int32} {J : Nat → Nat → Int64} {R : Nat → Nat → Option Nat} {D : Nat → Nat → UInt64} {N : Nat} {ex : Bool}
set_option maxRecDepth 100000 in
theorem c_foundAt (hv : isV R N) {st : Nat} {T : Nat → Nat} (ht : tbOK I st T) {p : Nat} (hp : p < 262144) : g_Ct E l mX3_foundAt 0 0 0 0 [.ref 47, .int (nI p)] (I, J, R, D, N, ex) (g_is (some (.int (nI (if T p / 8192 = st then T p else 0)))) (I, J, R, D, N, ex)) := by
  refine g_Ct.of (by decide +kernel) (lb rfl) ?_
  have h51 := hv.1
  have hst := ht.2.2.1
  obtain ⟨hI, hT⟩ := ht.2.2.2 p hp
  refine w_iload_n dX3_foundAt_0 rfl ?_
  refine w_if_lt (tgt := 22) dX3_foundAt_1 (by decide) (fun c_1 => absurd c_1 ((nI_pos (by omega)))) (fun c_1 => ?_)
  refine w_iload_n dX3_foundAt_4 rfl ?_
  refine w_aload_n dX3_foundAt_5 rfl ?_
  refine x_getr (ci := 3) (k := 0) (a := 48) dX3_foundAt_6 rfl (by decide) (by decide) (by omega) fl_X3_10 (Or.inr ⟨_, rfl⟩) hv.2.1 ?_
  refine x_alen (c := 8) (L := 262144) dX3_foundAt_9 rfl (by decide) (by decide) (by omega) ?_
  refine w_icmp_ge (tgt := 22) dX3_foundAt_10 (by decide) (fun c_10 => absurd c_10 ((nI_ge (by omega) (by omega)))) (fun c_10 => ?_)
  refine w_aload_n dX3_foundAt_13 rfl ?_
  refine x_getr (ci := 3) (k := 0) (a := 48) dX3_foundAt_14 rfl (by decide) (by decide) (by omega) fl_X3_10 (Or.inr ⟨_, rfl⟩) hv.2.1 ?_
  refine w_iload_n dX3_foundAt_17 rfl ?_
  refine x_iald (j := p) dX3_foundAt_18 rfl (by omega) rfl (show p < 262144 from hp) ?_
  rw [hI]
  refine w_goto (tgt := 23) dX3_foundAt_19 (by decide) ?_
  refine w_istore_n dX3_foundAt_23 (by decide) rfl ?_
  refine w_iload_n dX3_foundAt_24 rfl ?_
  refine w_bipush (v := 13) dX3_foundAt_25 (by decide) ?_
  refine w_ishr dX3_foundAt_27 ?_
  rw [show nI (T p) >>> ((13 : Int32) &&& 31) = nI (T p / 2 ^ 13) from nx_shr (c := 13) (by omega) (by decide)]
  refine w_aload_n dX3_foundAt_28 rfl ?_
  refine x_geti (ci := 3) (k := 5) dX3_foundAt_29 rfl (by decide) (by decide) (by omega) fl_X3_26 rfl ?_
  rw [ht.1]
  refine w_icmp_ne (tgt := 39) dX3_foundAt_32 (by decide) (fun c_32 => ?_) (fun c_32 => ?_)
  · refine w_iconst (v := 0) dX3_foundAt_39 (by decide) ?_
    refine w_iret dX3_foundAt_40 rfl rfl (by first | exact ⟨rt_i (by rw [if_neg (show ¬ T p / 8192 = st from n_ne c_32)]; rfl), rfl⟩ | exact ⟨rt_i (by rw [if_pos (show T p / 8192 = st from n_eq c_32)]), rfl⟩) (by decide) (by decide)
  · refine w_iload_n dX3_foundAt_35 rfl ?_
    refine w_goto (tgt := 40) dX3_foundAt_36 (by decide) ?_
    refine w_iret dX3_foundAt_40 rfl rfl (by first | exact ⟨rt_i (by rw [if_neg (show ¬ T p / 8192 = st from n_ne c_32)]; rfl), rfl⟩ | exact ⟨rt_i (by rw [if_pos (show T p / 8192 = st from n_eq c_32)]), rfl⟩) (by decide) (by decide)
theorem c_foundK (hv : isV R N) {c : Cf} {st : Nat} {T : Nat → Nat} (ht : tbOK I st T) {p : Nat} (hp : p < 262144) (hk : kn T st p) : g_Ct E l mX3_foundAt 0 0 0 0 [.ref 47, .int (nI p)] (I, J, R, D, N, ex) (g_is (some (.int (nI (T p)))) (I, J, R, D, N, ex)) := by
  have h := c_foundAt E l hv ht hp (J := J) (D := D) (ex := ex)
  rw [if_pos (show T p / 8192 = st from hk)] at h
  exact h
set_option maxRecDepth 100000 in
theorem c_keep (hv : isV R N) {st : Nat} {T : Nat → Nat} (ht : tbOK I st T) {p e : Nat} (hp : p < 262144) (he : e < 8192) : g_Ct E l mX3_keep 0 0 0 0 [.ref 47, .int (nI p), .int (nI e)] (I, J, R, D, N, ex) (g_is none (up2 I 48 p (nI (8192 * st + e)), J, R, D, N, ex)) := by
  refine g_Ct.of (by decide +kernel) (lb rfl) ?_
  have h51 := hv.1
  have hst := ht.2.2.1
  refine w_iload_n dX3_keep_0 rfl ?_
  refine w_if_lt (tgt := 28) dX3_keep_1 (by decide) (fun c_1 => absurd c_1 ((nI_pos (by omega)))) (fun c_1 => ?_)
  refine w_iload_n dX3_keep_4 rfl ?_
  refine w_aload_n dX3_keep_5 rfl ?_
  refine x_getr (ci := 3) (k := 0) (a := 48) dX3_keep_6 rfl (by decide) (by decide) (by omega) fl_X3_10 (Or.inr ⟨_, rfl⟩) hv.2.1 ?_
  refine x_alen (c := 8) (L := 262144) dX3_keep_9 rfl (by decide) (by decide) (by omega) ?_
  refine w_icmp_ge (tgt := 28) dX3_keep_10 (by decide) (fun c_10 => absurd c_10 ((nI_ge (by omega) (by omega)))) (fun c_10 => ?_)
  refine w_aload_n dX3_keep_13 rfl ?_
  refine x_getr (ci := 3) (k := 0) (a := 48) dX3_keep_14 rfl (by decide) (by decide) (by omega) fl_X3_10 (Or.inr ⟨_, rfl⟩) hv.2.1 ?_
  refine w_iload_n dX3_keep_17 rfl ?_
  refine w_aload_n dX3_keep_18 rfl ?_
  refine x_geti (ci := 3) (k := 5) dX3_keep_19 rfl (by decide) (by decide) (by omega) fl_X3_26 rfl ?_
  rw [ht.1]
  refine w_bipush (v := 13) dX3_keep_22 (by decide) ?_
  refine w_ishl dX3_keep_24 ?_
  rw [show nI st <<< ((13 : Int32) &&& 31) = nI (st * 2 ^ 13) from nx_shl (c := 13) (by decide)]
  refine w_iload_n dX3_keep_25 rfl ?_
  refine w_ior dX3_keep_26 ?_
  rw [nx_or, Nat.mul_comm st, ← Nat.two_pow_add_eq_or_of_lt (show e < 2 ^ 13 from he)]
  refine x_iast (j := p) dX3_keep_27 rfl (by omega) rfl (show p < 262144 from hp) ?_
  refine w_vret dX3_keep_28 rfl ⟨rfl, rfl⟩ (by decide) (by decide)
set_option maxRecDepth 100000 in
theorem c_leastOutside (w : GW) (x : Int64) : g_Ct E l mX3_leastOutside 0 0 0 0 [.long x] w (g_is (some (.int (nI (firstN (lbit x) 63 0)))) w) := by
  refine g_Ct.of (by decide +kernel) (lb rfl) ?_
  generalize hQ : firstN (lbit x) 63 0 = Q
  have loop : ∀ f a : Nat, a + f = 63 → firstN (lbit x) f a = Q → g_Wp E l mX3_leastOutside { frames := 0, cells := 0, slots := 0, locals := 0 } (g_Fin E (g_is (some (.int (nI Q))) w) 0 0) 0 0 2 [(2, .int (nI a)), (0, .long x)] [] w := by
    intro f
    induction f with
    | zero =>
      intro a ha hq
      obtain rfl : a = 63 := by omega
      refine w_iload_n dX3_leastOutside_2 rfl ?_
      refine w_bipush (v := 63) dX3_leastOutside_3 (by decide) ?_
      refine w_icmp_ge (tgt := 24) dX3_leastOutside_5 (by decide) (fun c_5 => ?_) (fun c_5 => absurd ((by decide)) c_5)
      refine w_iload_n dX3_leastOutside_24 rfl ?_
      refine w_iret dX3_leastOutside_25 rfl rfl ⟨rt_i (by rw [← hq]; rfl), rfl⟩ (by decide) (by decide)
    | succ f ih =>
      intro a ha hq
      unfold firstN at hq
      refine w_iload_n dX3_leastOutside_2 rfl ?_
      refine w_bipush (v := 63) dX3_leastOutside_3 (by decide) ?_
      refine w_icmp_ge (tgt := 24) dX3_leastOutside_5 (by decide) (fun c_5 => absurd c_5 ((nI_ge (a := a) (b := 63) (by omega) (by omega)))) (fun c_5 => ?_)
      refine w_lload_n dX3_leastOutside_8 rfl ?_
      refine w_iload_n dX3_leastOutside_9 rfl ?_
      refine w_lshr dX3_leastOutside_10 ?_
      refine w_lconst (v := 1) dX3_leastOutside_11 (by decide) ?_
      refine w_land dX3_leastOutside_12 ?_
      refine w_lconst (v := 0) dX3_leastOutside_13 (by decide) ?_
      refine w_lcmp dX3_leastOutside_14 ?_
      refine w_if_eq (tgt := 24) dX3_leastOutside_15 (by decide) (fun c_15 => ?_) (fun c_15 => ?_)
      · refine w_iload_n dX3_leastOutside_24 rfl ?_
        refine w_iret dX3_leastOutside_25 rfl rfl ⟨rt_i (by rw [← hq, lg_b0 (by omega) c_15]; rfl), rfl⟩ (by decide) (by decide)
      · refine w_iinc (v := nI (a + 1)) dX3_leastOutside_18 rfl (nI_inc _) (by decide) rfl ?_
        refine w_goto (tgt := 2) dX3_leastOutside_21 (by decide) ?_
        exact ih (a + 1) (by omega) (by rw [← hq, lg_b1 (by omega) c_15]; rfl)
  refine w_iconst (v := 0) dX3_leastOutside_0 (by decide) ?_
  refine w_istore_n dX3_leastOutside_1 (by decide) rfl ?_
  exact loop 63 0 (by omega) hQ
theorem opv_snoc {c : Cf} {p i : Nat} (hi : i < (mvs c p).length) : (opv c p).take (i + 1) = (opv c p).take i ++ [val c (p - ((mvs c p)[i]).code)] := by
  have h : i < (opv c p).length := by rw [opv, List.length_map]; exact hi
  rw [List.take_succ_eq_append_getElem h]
  simp [opv]
/-- of a number that is found -/
theorem fnd {st x : Nat} {r : Rs} (h1 : r.2.1 < 64) (h2 : r.2.2 < 64) (hk : x / 8192 = st) (he : x % 8192 = enc r) : x / 64 % 64 = r.2.1 ∧ x % 64 = r.2.2 ∧ (x / 4096 % 2 = 1 ↔ r.1 = true) := by
  unfold enc at he
  cases hw : r.1 with
  | true =>
    rw [hw, if_pos rfl] at he
    simp
    omega
  | false =>
    rw [hw] at he
    simp at he ⊢
    omega
theorem an12 {x : Nat} : nI x &&& 4096 = nI (if x / 4096 % 2 = 1 then 4096 else 0) := by
  show _ &&& nI 4096 = _
  rw [nx_and]
  congr 1
  apply Nat.eq_of_testBit_eq
  intro i
  rw [Nat.testBit_and, show (4096 : Nat) = 2 ^ 12 from rfl, Nat.testBit_two_pow]
  by_cases h : x / 2 ^ 12 % 2 = 1
  · rw [if_pos h, Nat.testBit_two_pow]
    by_cases hi : 12 = i
    · subst hi
      rw [Nat.testBit_eq_decide_div_mod_eq, decide_eq_true h]
      rfl
    · simp [hi]
  · rw [if_neg h, Nat.zero_testBit]
    by_cases hi : 12 = i
    · subst hi
      rw [Nat.testBit_eq_decide_div_mod_eq, decide_eq_false h]
      rfl
    · simp [hi]
theorem an63 {x : Nat} : nI x &&& 63 = nI (x % 64) := by
  show _ &&& nI 63 = _
  rw [nx_and, show (63 : Nat) = 2 ^ 6 - 1 from rfl, Nat.and_two_pow_sub_one_eq_mod]
theorem sh6 {x : Nat} (hx : x < 2 ^ 31) : nI x >>> ((6 : Int32) &&& 31) = nI (x / 64) := nx_shr (c := 6) hx (by decide)
set_option maxRecDepth 100000 in
theorem c_solve (hv : isV R N) {c : Cf} (hc : c.ok) (hs : svOK I c) {st : Nat} {T : Nat → Nat} (ht : tbOK I st T) (hsl : slv c T st) {p : Nat} (hp : p < 262144) (hk : ∀ x ∈ mvs c p, kn T st (p - x.code)) :
    g_Ct E l mX3_solve 3 70 0 0 [.ref 47, .int (nI p)] (I, J, R, D, N, ex) (g_ri (fun x I' => x = nI (enc (val c p)) ∧ frX I I') J R D N ex) := by
  refine g_Ct.of (by decide +kernel) (lb rfl) ?_
  have h51 := hv.1
  have hm4 := hc.1
  have hval := val_eq hm4 p
  have hval' : val c p = comb c.mi (opv c p) := hval
  have hole : (opv c p).length = (mvs c p).length := by rw [opv, List.length_map]
  have loop : ∀ (f i : Nat) (I' : Nat → Nat → Int32) (V : Int64), i + f = (mvs c p).length → (mvs c p).length ≤ 81 → nxOK I' p (mvs c p) → frX I I' → (∀ v, v < 64 → lbit V v = hitO ((opv c p).take i) v) → lostMin ((opv c p).take i) ≤ 64 → allMax ((opv c p).take i) ≤ 63 →
      g_Wp E l mX3_solve { frames := 3, cells := 0, slots := 0, locals := 70 } (g_Fin E (g_ri (fun x I' => x = nI (enc (val c p)) ∧ frX I I') J R D N ex) 0 0) 0 0 18 [(7, .int (nI i)), (6, .int (nI (allMax ((opv c p).take i)))), (5, .int (nI (lostMin ((opv c p).take i)))), (3, .long V), (2, .int (nI (mvs c p).length)), (0, .ref 47), (1, .int (nI p))] [] (I', J, R, D, N, ex) := by
    intro f
    induction f with
    | zero =>
      intro i I' V hi h81 h1 h2 h3 h4 h5
      obtain rfl : i = (mvs c p).length := by omega
      rw [List.take_of_length_le (by omega)] at h3 h4 h5 ⊢
      have h8 : I' 47 8 = b2i c.mi := by rw [h2.2 8 (by decide)]; exact hs.2.2.1
      by_cases hnil : (mvs c p).length = 0
      · have hv0 : val c p = (c.mi, 0, 0) := by
          rw [hval', comb, if_pos (List.eq_nil_of_length_eq_zero (by omega))]
        rw [hnil]
        refine w_iload dX3_solve_18 rfl ?_
        refine w_iload_n dX3_solve_20 rfl ?_
        refine w_icmp_ge (tgt := 89) dX3_solve_21 (by decide) (fun c_21 => ?_) (fun c_21 => absurd ((by decide)) c_21)
        refine w_iload_n dX3_solve_89 rfl ?_
        refine w_if_ne (tgt := 108) dX3_solve_90 (by decide) (fun c_90 => absurd (rfl) c_90) (fun c_90 => ?_)
        refine w_aload_n dX3_solve_93 rfl ?_
        refine x_getz (ci := 3) (k := 8) dX3_solve_94 rfl (by decide) (by decide) (by omega) fl_X3_53 rfl ?_
        rw [h8]
        refine w_if_eq (tgt := 106) dX3_solve_97 (by decide) (fun c_97 => ?_) (fun c_97 => ?_)
        · refine w_iconst (v := 0) dX3_solve_106 (by decide) ?_
          refine w_iret dX3_solve_107 rfl rfl (by first | exact ⟨_, _, rfl, ⟨by rw [hv0, b2i_0.mp c_97]; rfl, h2⟩, rfl⟩ | exact ⟨_, _, rfl, ⟨by rw [hv0, b2i_ne.mp c_97]; rfl, h2⟩, rfl⟩) (by decide) (by decide)
        · refine w_sipush (v := 4096) dX3_solve_100 (by decide) ?_
          refine w_goto (tgt := 107) dX3_solve_103 (by decide) ?_
          refine w_iret dX3_solve_107 rfl rfl (by first | exact ⟨_, _, rfl, ⟨by rw [hv0, b2i_0.mp c_97]; rfl, h2⟩, rfl⟩ | exact ⟨_, _, rfl, ⟨by rw [hv0, b2i_ne.mp c_97]; rfl, h2⟩, rfl⟩) (by decide) (by decide)
      · have hne : opv c p ≠ [] := fun q => hnil (by rw [← hole, q]; rfl)
        have hmex : firstN (lbit V) 63 0 = firstN (hitO (opv c p)) 64 0 := by
          rw [firstN_ext (f := 63) (i := 0) (p := hitO (opv c p)) (by
            rw [← Bool.not_eq_true]
            intro q
            obtain ⟨x, hx, h6⟩ := List.any_eq_true.mp q
            have := (opv_lt hm4 hp hx).2
            have := of_decide_eq_true h6
            omega)]
          exact firstN_cong 63 0 (fun j _ hj => h3 j (by omega))
        have hvw : val c p = (decide (lostMin (opv c p) < 64), 1 + (if lostMin (opv c p) < 64 then lostMin (opv c p) else allMax (opv c p)), firstN (hitO (opv c p)) 64 0) := by
          rw [hval', comb, if_neg hne]
        have hvl := val_le hm4 p
        have hwt := wt_le hp
        rw [hvw] at hvl
        have hlen64 : 1 + (if lostMin (opv c p) < 64 then lostMin (opv c p) else allMax (opv c p)) < 64 := Nat.lt_of_le_of_lt hvl.1 (by omega)
        have hmx64 : firstN (hitO (opv c p)) 64 0 < 64 := Nat.lt_of_le_of_lt hvl.2 (by omega)
        by_cases hw : lostMin (opv c p) < 64
        · rw [if_pos hw] at hlen64
          refine w_iload dX3_solve_18 rfl ?_
          refine w_iload_n dX3_solve_20 rfl ?_
          refine w_icmp_ge (tgt := 89) dX3_solve_21 (by decide) (fun c_21 => ?_) (fun c_21 => absurd ((nI_le (by omega) (by omega))) c_21)
          refine w_iload_n dX3_solve_89 rfl ?_
          refine w_if_ne (tgt := 108) dX3_solve_90 (by decide) (fun c_90 => ?_) (fun c_90 => absurd c_90 ((nI_ne0 (by omega) (by omega))))
          refine w_iload dX3_solve_108 rfl ?_
          refine w_bipush (v := 64) dX3_solve_110 (by decide) ?_
          refine w_icmp_ge (tgt := 119) dX3_solve_112 (by decide) (fun c_112 => absurd c_112 ((nI_ge (a := lostMin (opv c p)) (b := 64) (by omega) (by omega)))) (fun c_112 => ?_)
          refine w_iconst (v := 1) dX3_solve_115 (by decide) ?_
          refine w_goto (tgt := 120) dX3_solve_116 (by decide) ?_
          refine w_istore dX3_solve_120 (by decide) rfl ?_
          refine w_iconst (v := 1) dX3_solve_122 (by decide) ?_
          refine w_iload dX3_solve_123 rfl ?_
          refine w_if_eq (tgt := 133) dX3_solve_125 (by decide) (fun c_125 => absurd c_125 ((by decide))) (fun c_125 => ?_)
          refine w_iload dX3_solve_128 rfl ?_
          refine w_goto (tgt := 135) dX3_solve_130 (by decide) ?_
          refine w_iadd dX3_solve_135 ?_
          rw [show (1 : Int32) + nI (lostMin (opv c p)) = nI (1 + lostMin (opv c p)) from nI_add 1 _]
          refine w_istore dX3_solve_136 (by decide) rfl ?_
          refine w_iload dX3_solve_138 rfl ?_
          refine w_if_eq (tgt := 149) dX3_solve_140 (by decide) (fun c_140 => absurd c_140 ((by decide))) (fun c_140 => ?_)
          refine w_sipush (v := 4096) dX3_solve_143 (by decide) ?_
          refine w_goto (tgt := 150) dX3_solve_146 (by decide) ?_
          refine w_iload dX3_solve_150 rfl ?_
          refine w_bipush (v := 6) dX3_solve_152 (by decide) ?_
          refine w_ishl dX3_solve_154 ?_
          rw [show nI (1 + lostMin (opv c p)) <<< ((6 : Int32) &&& 31) = nI ((1 + lostMin (opv c p)) * 2 ^ 6) from nx_shl (c := 6) (by decide)]
          refine w_ior dX3_solve_155 ?_
          rw [show (4096 : Int32) ||| nI ((1 + lostMin (opv c p)) * 2 ^ 6) = nI (4096 ||| (1 + lostMin (opv c p)) * 2 ^ 6) from nx_or 4096 _]
          refine w_lload_n dX3_solve_156 rfl ?_
          refine y_callS dX3_solve_157 lk_X3_125 [.long V] rfl (c_leastOutside E l _ _) rfl ⟨⟨by decide, by decide⟩, by decide, by decide⟩ (lb rfl) ?_
          rw [hmex]
          refine w_ior dX3_solve_160 ?_
          rw [nx_or]
          refine w_iret dX3_solve_161 rfl rfl ⟨_, _, rfl, ⟨by rw [hvw, enc]; have q := enc_or (b := true) hlen64 hmx64; rw [if_pos rfl] at q; rw [q]; simp [hw], h2⟩, rfl⟩ (by decide) (by decide)
        · rw [if_neg hw] at hlen64
          have hw64 : lostMin (opv c p) = 64 := by omega
          refine w_iload dX3_solve_18 rfl ?_
          refine w_iload_n dX3_solve_20 rfl ?_
          refine w_icmp_ge (tgt := 89) dX3_solve_21 (by decide) (fun c_21 => ?_) (fun c_21 => absurd ((nI_le (by omega) (by omega))) c_21)
          refine w_iload_n dX3_solve_89 rfl ?_
          refine w_if_ne (tgt := 108) dX3_solve_90 (by decide) (fun c_90 => ?_) (fun c_90 => absurd c_90 ((nI_ne0 (by omega) (by omega))))
          refine w_iload dX3_solve_108 rfl ?_
          refine w_bipush (v := 64) dX3_solve_110 (by decide) ?_
          refine w_icmp_ge (tgt := 119) dX3_solve_112 (by decide) (fun c_112 => ?_) (fun c_112 => absurd ((nI_le (a := 64) (b := lostMin (opv c p)) (by omega) (by omega))) c_112)
          refine w_iconst (v := 0) dX3_solve_119 (by decide) ?_
          refine w_istore dX3_solve_120 (by decide) rfl ?_
          refine w_iconst (v := 1) dX3_solve_122 (by decide) ?_
          refine w_iload dX3_solve_123 rfl ?_
          refine w_if_eq (tgt := 133) dX3_solve_125 (by decide) (fun c_125 => ?_) (fun c_125 => absurd (rfl) c_125)
          refine w_iload dX3_solve_133 rfl ?_
          refine w_iadd dX3_solve_135 ?_
          rw [show (1 : Int32) + nI (allMax (opv c p)) = nI (1 + allMax (opv c p)) from nI_add 1 _]
          refine w_istore dX3_solve_136 (by decide) rfl ?_
          refine w_iload dX3_solve_138 rfl ?_
          refine w_if_eq (tgt := 149) dX3_solve_140 (by decide) (fun c_140 => ?_) (fun c_140 => absurd (rfl) c_140)
          refine w_iconst (v := 0) dX3_solve_149 (by decide) ?_
          refine w_iload dX3_solve_150 rfl ?_
          refine w_bipush (v := 6) dX3_solve_152 (by decide) ?_
          refine w_ishl dX3_solve_154 ?_
          rw [show nI (1 + allMax (opv c p)) <<< ((6 : Int32) &&& 31) = nI ((1 + allMax (opv c p)) * 2 ^ 6) from nx_shl (c := 6) (by decide)]
          refine w_ior dX3_solve_155 ?_
          rw [show (0 : Int32) ||| nI ((1 + allMax (opv c p)) * 2 ^ 6) = nI (0 ||| (1 + allMax (opv c p)) * 2 ^ 6) from nx_or 0 _]
          refine w_lload_n dX3_solve_156 rfl ?_
          refine y_callS dX3_solve_157 lk_X3_125 [.long V] rfl (c_leastOutside E l _ _) rfl ⟨⟨by decide, by decide⟩, by decide, by decide⟩ (lb rfl) ?_
          rw [hmex]
          refine w_ior dX3_solve_160 ?_
          rw [nx_or]
          refine w_iret dX3_solve_161 rfl rfl ⟨_, _, rfl, ⟨by rw [hvw, enc]; have q := enc_or (b := false) hlen64 hmx64; rw [if_neg (by decide)] at q; rw [q]; simp [hw], h2⟩, rfl⟩ (by decide) (by decide)
    | succ f ih =>
      intro i I' V hi h81 h1 h2 h3 h4 h5
      have hil : i < (mvs c p).length := by omega
      have hmem : (mvs c p)[i] ∈ mvs c p := List.getElem_mem hil
      obtain ⟨hc1, hc2, _, _⟩ := mv_wt hm4 (mem_mvs hmem)
      generalize hq : p - ((mvs c p)[i]).code = q
      have hq2 : q < 262144 := by omega
      have hkn := hk _ hmem
      rw [hq] at hkn
      have hmr : val c q ∈ opv c p := by rw [← hq]; exact List.mem_map.mpr ⟨_, hmem, rfl⟩
      have hlt := opv_lt hm4 hp hmr
      obtain ⟨hf1, hf2, hf3⟩ := fnd (r := val c q) (by omega) (by omega) hkn (hsl q hq2 hkn)
      have hsn := opv_snoc (c := c) (p := p) hil
      rw [hq] at hsn
      have hTl : T q < 2 ^ 31 := by have := (ht.2.2.2 q hq2).2; have := ht.2.2.1; omega
      have hV : ∀ v, v < 64 → lbit (V ||| (1 : Int64) <<< ((nI (val c q).2.2).toInt64 &&& 63)) v = hitO ((opv c p).take (i + 1)) v := by
        intro v hv
        rw [lbit_or (by omega) hv, h3 v hv, hsn, hitO_snoc]
      refine w_iload dX3_solve_18 rfl ?_
      refine w_iload_n dX3_solve_20 rfl ?_
      refine w_icmp_ge (tgt := 89) dX3_solve_21 (by decide) (fun c_21 => absurd c_21 ((nI_ge (by omega) (by omega)))) (fun c_21 => ?_)
      refine w_aload_n dX3_solve_24 rfl ?_
      refine w_aload_n dX3_solve_25 rfl ?_
      refine w_iload dX3_solve_26 rfl ?_
      refine y_callV dX3_solve_28 lk_X3_119 [.int (nI i)] rfl (c_nextAt E l hv (by omega)) (g_recv.obj (ci := 3) rfl (by decide) (show 47 < N by omega)) rfl ⟨⟨by decide, by decide⟩, by decide, by decide⟩ (lb rfl) ?_
      rw [h1.2 i hil, hq]
      refine y_callV dX3_solve_31 lk_X3_93 [.int (nI q)] rfl (c_foundK E l hv (c := c) (ht.fr h2) hq2 hkn) (g_recv.obj (ci := 3) rfl (by decide) (show 47 < N by omega)) rfl ⟨⟨by decide, by decide⟩, by decide, by decide⟩ (lb rfl) ?_
      refine w_istore dX3_solve_34 (by decide) rfl ?_
      refine w_iload dX3_solve_36 rfl ?_
      refine w_bipush (v := 6) dX3_solve_38 (by decide) ?_
      refine w_ishr dX3_solve_40 ?_
      rw [sh6 hTl]
      refine w_bipush (v := 63) dX3_solve_41 (by decide) ?_
      refine w_iand dX3_solve_43 ?_
      rw [an63, hf1]
      refine w_istore dX3_solve_44 (by decide) rfl ?_
      refine w_lload_n dX3_solve_46 rfl ?_
      refine w_lconst (v := 1) dX3_solve_47 (by decide) ?_
      refine w_iload dX3_solve_48 rfl ?_
      refine w_bipush (v := 63) dX3_solve_50 (by decide) ?_
      refine w_iand dX3_solve_52 ?_
      rw [an63, hf2]
      refine w_lshl dX3_solve_53 ?_
      refine w_lor dX3_solve_54 ?_
      refine w_lstore_n dX3_solve_55 (by decide) rfl ?_
      refine w_iload dX3_solve_56 rfl ?_
      refine w_sipush (v := 4096) dX3_solve_58 (by decide) ?_
      refine w_iand dX3_solve_61 ?_
      rw [an12]
      refine w_if_ne (tgt := 74) dX3_solve_62 (by decide) (fun c_62 => ?_) (fun c_62 => ?_)
      · refine w_iload dX3_solve_74 rfl ?_
        refine w_iload dX3_solve_76 rfl ?_
        refine w_mmax dX3_solve_78 lk_X3_122.2.2.1 (by decide) (lb rfl) (by decide) (by decide) ?_
        rw [mm_max2 (by omega) (by omega)]
        refine w_istore dX3_solve_81 (by decide) rfl ?_
        refine w_iinc (v := nI (i + 1)) dX3_solve_83 rfl (nI_inc _) (by decide) rfl ?_
        refine w_goto (tgt := 18) dX3_solve_86 (by decide) ?_
        first
        | (have hw : (val c q).1 = true := (by refine hf3.mp (Decidable.byContradiction fun z => c_62 ?_); rw [if_neg z]; rfl); refine w_lv [7, 6, 5, 3, 2, 0, 1] ?_; have e1 : allMax ((opv c p).take (i + 1)) = max (allMax ((opv c p).take i)) (val c q).2.1 := (by rw [hsn, allMax_snoc]); have e2 : lostMin ((opv c p).take (i + 1)) = lostMin ((opv c p).take i) := (by rw [hsn, lostMin_snoc, if_pos hw]); have t := ih (i + 1) I' _ (by omega) h81 h1 h2 hV (by omega) (by omega); rw [e1, e2] at t; exact t)
        | (have hw : (val c q).1 = false := (by rw [← Bool.not_eq_true]; intro z; rw [if_pos (hf3.mpr z)] at c_62; exact absurd c_62 (by decide)); refine w_lv [7, 6, 5, 3, 2, 0, 1] ?_; have e1 : allMax ((opv c p).take (i + 1)) = max (allMax ((opv c p).take i)) (val c q).2.1 := (by rw [hsn, allMax_snoc]); have e2 : lostMin ((opv c p).take (i + 1)) = min (lostMin ((opv c p).take i)) (val c q).2.1 := (by rw [hsn, lostMin_snoc, hw]; rfl); have t := ih (i + 1) I' _ (by omega) h81 h1 h2 hV (by omega) (by omega); rw [e1, e2] at t; exact t)
      · refine w_iload dX3_solve_65 rfl ?_
        refine w_iload dX3_solve_67 rfl ?_
        refine w_mmin dX3_solve_69 lk_X3_88.2.2.1 (by decide) (lb rfl) (by decide) (by decide) ?_
        rw [mm_min2 (by omega) (by omega)]
        refine w_istore dX3_solve_72 (by decide) rfl ?_
        refine w_iload dX3_solve_74 rfl ?_
        refine w_iload dX3_solve_76 rfl ?_
        refine w_mmax dX3_solve_78 lk_X3_122.2.2.1 (by decide) (lb rfl) (by decide) (by decide) ?_
        rw [mm_max2 (by omega) (by omega)]
        refine w_istore dX3_solve_81 (by decide) rfl ?_
        refine w_iinc (v := nI (i + 1)) dX3_solve_83 rfl (nI_inc _) (by decide) rfl ?_
        refine w_goto (tgt := 18) dX3_solve_86 (by decide) ?_
        first
        | (have hw : (val c q).1 = true := (by refine hf3.mp (Decidable.byContradiction fun z => c_62 ?_); rw [if_neg z]; rfl); refine w_lv [7, 6, 5, 3, 2, 0, 1] ?_; have e1 : allMax ((opv c p).take (i + 1)) = max (allMax ((opv c p).take i)) (val c q).2.1 := (by rw [hsn, allMax_snoc]); have e2 : lostMin ((opv c p).take (i + 1)) = lostMin ((opv c p).take i) := (by rw [hsn, lostMin_snoc, if_pos hw]); have t := ih (i + 1) I' _ (by omega) h81 h1 h2 hV (by omega) (by omega); rw [e1, e2] at t; exact t)
        | (have hw : (val c q).1 = false := (by rw [← Bool.not_eq_true]; intro z; rw [if_pos (hf3.mpr z)] at c_62; exact absurd c_62 (by decide)); refine w_lv [7, 6, 5, 3, 2, 0, 1] ?_; have e1 : allMax ((opv c p).take (i + 1)) = max (allMax ((opv c p).take i)) (val c q).2.1 := (by rw [hsn, allMax_snoc]); have e2 : lostMin ((opv c p).take (i + 1)) = min (lostMin ((opv c p).take i)) (val c q).2.1 := (by rw [hsn, lostMin_snoc, hw]; rfl); have t := ih (i + 1) I' _ (by omega) h81 h1 h2 hV (by omega) (by omega); rw [e1, e2] at t; exact t)
  have h81 : (mvs c p).length ≤ 81 := by
    have a := mvT_len hc p c.m (Nat.le_refl _)
    have b := mvB_len hc p c.m
    have d := pairs_le c.m hc.1 c.m (Nat.le_refl _)
    unfold mvs mvP
    rw [List.length_append, List.length_append]
    split
    · rw [List.length_singleton]; omega
    · rw [List.length_nil]; omega
  refine w_aload_n dX3_solve_0 rfl ?_
  refine w_iload_n dX3_solve_1 rfl ?_
  refine v_callV dX3_solve_2 lk_X3_116 [.int (nI p)] rfl (c_listNext E l hv hc hs hp) (g_recv.obj (ci := 3) rfl (by decide) (show 47 < N by omega)) rfl ⟨⟨by decide, by decide⟩, by decide, by decide⟩ (lb rfl) (fun x_2 I' h_2 => ?_)
  obtain ⟨e1, e2, e3⟩ := h_2
  rw [e1]
  refine w_istore_n dX3_solve_5 (by decide) rfl ?_
  refine w_lconst (v := 0) dX3_solve_6 (by decide) ?_
  refine w_lstore_n dX3_solve_7 (by decide) rfl ?_
  refine w_bipush (v := 64) dX3_solve_8 (by decide) ?_
  refine w_istore dX3_solve_10 (by decide) rfl ?_
  refine w_iconst (v := 0) dX3_solve_12 (by decide) ?_
  refine w_istore dX3_solve_13 (by decide) rfl ?_
  refine w_iconst (v := 0) dX3_solve_15 (by decide) ?_
  refine w_istore dX3_solve_16 (by decide) rfl ?_
  refine w_lv [7, 6, 5, 3, 2, 0, 1] (loop (mvs c p).length 0 I' 0 (by omega) h81 e2 e3 (fun v hv => lbit_0 v) (show (64 : Nat) ≤ 64 from Nat.le_refl _) (Nat.zero_le 63))
end SW
