/-! ROWS: calls that return nothing and change ints and longs; HeapGamesModel: tokens -/
def g_rk (P : (Nat → Nat → Int32) → (Nat → Nat → Int64) → Prop) (R : Nat → Nat → Option Nat) (D : Nat → Nat → UInt64) (N : Nat) (ex : Bool) : GZ := fun o w => ∃ I J, o = .inr none ∧ P I J ∧ w = (I, J, R, D, N, ex)
section GT7
variable {E : GE} {l : Launch} {μ : GM} {Rm : Room} {Φ : List Frame → Array Value → State → State → Prop} {uc us pc : Nat} {ls : List (Nat × Value)} {st rest : List Value} {Z : GZ} {mc ms : Nat}
variable {R : Nat → Nat → Option Nat} {D : Nat → Nat → UInt64} {n : Nat} {ex : Bool}
variable {idx m f2 q2 mc2 ms2 : Nat} {μ2 : GM} {as : List Value} {w w2 : GW} {r : Option Value} {X : String}
theorem k_callV {P : (Nat → Nat → Int32) → (Nat → Nat → Int64) → Prop} {o : Nat} (hd : decode μ.2.1 pc = .ok (.invokevirtual idx, 3)) (hk : g_lkV μ.1.cls idx m μ2) (As : List Value) (hst : st = As.reverse ++ .ref o :: rest) (hC : g_Ct E l μ2 f2 q2 mc2 ms2 (.ref o :: As) w (g_rk P R D n ex)) (hrv : g_recv E l w o μ2.1.cls) (hn : As.length = m) (hR8 : (f2 + 1 ≤ Rm.frames ∧ 8 + (μ2.2.2.1 + 11) + q2 ≤ Rm.locals) ∧ uc + mc2 ≤ Rm.cells ∧ us + ms2 ≤ Rm.slots) (hr8 : (rest.map fun v => v.category).sum ≤ 8)
    (kr : ∀ I' J', P I' J' → g_Wp E l μ Rm Φ (uc + mc2) (us + ms2) (pc + 3) ls rest (I', J', R, D, n, ex)) : g_Wp E l μ Rm Φ uc us pc ls st w :=
  w_callV hd hk hC hrv hst hn hR8 hr8 (fun v w' h => by obtain ⟨I', J', h1, h2, h3⟩ := h; cases h1; subst h3; exact kr I' J' h2) (fun X w' h => by obtain ⟨I', J', h1, h2, h3⟩ := h; cases h1)
theorem k_callI {P : (Nat → Nat → Int32) → (Nat → Nat → Int64) → Prop} {o : Nat} (hd : decode μ.2.1 pc = .ok (.invokespecial idx, 3)) (hk : g_lkI μ.1.cls idx m μ2) (As : List Value) (hst : st = As.reverse ++ .ref o :: rest) (hC : g_Ct E l μ2 f2 q2 mc2 ms2 (.ref o :: As) w (g_rk P R D n ex)) (hn : As.length = m) (hR8 : (f2 + 1 ≤ Rm.frames ∧ 8 + (μ2.2.2.1 + 11) + q2 ≤ Rm.locals) ∧ uc + mc2 ≤ Rm.cells ∧ us + ms2 ≤ Rm.slots) (hr8 : (rest.map fun v => v.category).sum ≤ 8)
    (kr : ∀ I' J', P I' J' → g_Wp E l μ Rm Φ (uc + mc2) (us + ms2) (pc + 3) ls rest (I', J', R, D, n, ex)) : g_Wp E l μ Rm Φ uc us pc ls st w :=
  w_callI hd hk hC hst hn hR8 hr8 (fun v w' h => by obtain ⟨I', J', h1, h2, h3⟩ := h; cases h1; subst h3; exact kr I' J' h2) (fun X w' h => by obtain ⟨I', J', h1, h2, h3⟩ := h; cases h1)
end GT7
theorem lN_add9 (a b : Nat) : lN a + lN b = lN (a + b) := by
  apply Int64.toBitVec_inj.mp
  show BitVec.ofNat 64 a + BitVec.ofNat 64 b = BitVec.ofNat 64 (a + b)
  exact (BitVec.ofNat_add a b).symm
theorem lN_mul9 (a b : Nat) : lN a * lN b = lN (a * b) := by
  apply Int64.toBitVec_inj.mp
  show BitVec.ofNat 64 a * BitVec.ofNat 64 b = BitVec.ofNat 64 (a * b)
  exact (BitVec.ofNat_mul a b).symm
theorem tI_l : ∀ t, t < 256 → (nI t).toInt64 = lN t := by decide +kernel
theorem w27 {w t : Nat} (h1 : 97 ≤ t) (h2 : t < 256) : (27 : Int64) * lN w + (nI t).toInt64 - 97 + 1 = lN (27 * w + (t - 96)) := by
  rw [tI_l t h2, show (27 : Int64) = lN 27 from rfl, lN_mul9, lN_add9, show 27 * w + t = (27 * w + (t - 97)) + 97 by omega, ← lN_add9, show (97 : Int64) = lN 97 from rfl, Int64.add_sub_cancel, show (1 : Int64) = lN 1 from rfl, lN_add9]
  congr 1
  omega
theorem n10 {v t : Nat} (h1 : 48 ≤ t) : (10 : Int32) * nI v + nI t - 48 = nI (10 * v + (t - 48)) := by
  rw [show (10 : Int32) = nI 10 from rfl, pk_mul, nI_add, show (48 : Int32) = nI 48 from rfl, pk_sub (by omega)]
  congr 1
  omega
def mtx (I : Nat → Nat → Int32) (tx : Nat → Nat) (L : Nat) : Prop := I 79 23 = nI L ∧ L ≤ 400 ∧ ∀ i, i < L → tx i < 256 ∧ I 96 i = nI (tx i)
def bAt (tx : Nat → Nat) (L i : Nat) : Int32 := if i < L then nI (tx i) else -1
def mwF : Nat → Nat → Nat
  | 0, _ => 0
  | f + 1, c => 27 * mwF f (c / 256) + (c % 256 - 96)
def mw (c : Nat) : Nat := mwF 8 c
def wvF (tx : Nat → Nat) (s : Nat) : Nat → Nat
  | 0 => 0
  | j + 1 => if j < 8 then 27 * wvF tx s j + (tx (s + j) - 96) else wvF tx s j
def nvF (tx : Nat → Nat) (s : Nat) : Nat → Nat
  | 0 => 0
  | j + 1 => if j < 2 then 10 * nvF tx s j + (tx (s + j) - 48) else nvF tx s j
theorem mwF_0 : ∀ f, mwF f 0 = 0
  | 0 => rfl
  | f + 1 => by rw [mwF, show 0 / 256 = 0 from rfl, mwF_0 f]
theorem mw_na {tx : Nat → Nat} {s : Nat} : ∀ n f, n ≤ f → n ≤ 8 → (∀ j, j < n → tx (s + j) < 256) → mwF f (naF tx s n) = wvF tx s n
  | 0, f, _, _, _ => mwF_0 f
  | n + 1, 0, h, _, _ => by omega
  | n + 1, f + 1, h, h8, ht => by
    have t := ht n (by omega)
    have ih := mw_na (tx := tx) (s := s) n f (by omega) (by omega) (fun j hj => ht j (by omega))
    rw [naF, mwF, wvF, if_pos (by omega), show (naF tx s n * 256 + tx (s + n)) / 256 = naF tx s n by omega, ih, show (naF tx s n * 256 + tx (s + n)) % 256 = tx (s + n) by omega]
theorem nv_nm {tx : Nat → Nat} {s : Nat} : ∀ n, n ≤ 2 → nvF tx s n = nmF tx s n
  | 0, _ => rfl
  | n + 1, h => by rw [nvF, nmF, if_pos (by omega), nv_nm n (by omega)]
/-- the model's token -/
def mtk (tx : Nat → Nat) (L a : Nat) : Nat := if tkK tx L a = 1 then (if 8 < tkN tx L a then 4 else 1) else if tkK tx L a = 2 then (if 2 < tkN tx L a then 4 else 2) else tkK tx L a
theorem mtk_1 {tx : Nat → Nat} {L a : Nat} : mtk tx L a = 1 ↔ isNm tx L a = true := by
  unfold mtk isNm
  rw [decide_eq_true_iff]
  split
  · split <;> omega
  · split
    · split <;> omega
    · omega
theorem mtk_2 {tx : Nat → Nat} {L a : Nat} : mtk tx L a = 2 ↔ isNu tx L a = true := by
  unfold mtk isNu
  rw [decide_eq_true_iff]
  split
  · split <;> omega
  · split
    · split <;> omega
    · omega
theorem mtk_3 {tx : Nat → Nat} {L a : Nat} : mtk tx L a = 3 ↔ tkK tx L a = 3 := by
  unfold mtk
  split
  · split <;> omega
  · split
    · split <;> omega
    · omega
theorem mtk_0 {tx : Nat → Nat} {L a : Nat} : mtk tx L a = 0 ↔ tkK tx L a = 0 := by
  unfold mtk
  split
  · split <;> omega
  · split
    · split <;> omega
    · omega
theorem mtk_le (tx : Nat → Nat) (L a : Nat) : mtk tx L a ≤ 4 := by
  have := kb_le tx L (tkS tx L a)
  have h : tkK tx L a ≤ 4 := this
  unfold mtk
  split
  · split <;> omega
  · split
    · split <;> omega
    · omega
def mtC (I : Nat → Nat → Int32) (J : Nat → Nat → Int64) (tx : Nat → Nat) (L a : Nat) : Prop := I 79 24 = nI (tkS tx L a) ∧ I 79 25 = nI (tkE tx L a) ∧ I 79 26 = nI (mtk tx L a) ∧ (mtk tx L a = 1 → J 79 33 = lN (mw (cdT tx L a))) ∧ (mtk tx L a = 2 → I 79 27 = nI (nmT tx L a))
def frN (I I' : Nat → Nat → Int32) (J J' : Nat → Nat → Int64) : Prop := (∀ o, o ≠ 79 → I' o = I o) ∧ (∀ k, (k < 24 ∨ 27 < k) → I' 79 k = I 79 k) ∧ ∀ o k, ¬ (o = 79 ∧ k = 33) → J' o k = J o k
theorem frN.refl (I : Nat → Nat → Int32) (J : Nat → Nat → Int64) : frN I I J J := ⟨fun _ _ => rfl, fun _ _ => rfl, fun _ _ _ => rfl⟩
theorem frN.trans {I I' I'' : Nat → Nat → Int32} {J J' J'' : Nat → Nat → Int64} (h : frN I I' J J') (h' : frN I' I'' J' J'') : frN I I'' J J'' := ⟨fun o a => (h'.1 o a).trans (h.1 o a), fun k a => (h'.2.1 k a).trans (h.2.1 k a), fun o k a => (h'.2.2 o k a).trans (h.2.2 o k a)⟩
theorem frN.up {I I' : Nat → Nat → Int32} {J J' : Nat → Nat → Int64} (h : frN I I' J J') {k : Nat} (hk : 24 ≤ k ∧ k ≤ 27) (v : Int32) : frN I (up2 I' 79 k v) J J' := ⟨fun o a => by rw [← h.1 o a]; funext j; exact up2_n _ _ (by simp [a]), fun j a => by rw [← h.2.1 j a]; exact up2_n _ _ (by omega), h.2.2⟩
theorem mtx.n {I I' : Nat → Nat → Int32} {J J' : Nat → Nat → Int64} {tx : Nat → Nat} {L : Nat} (h : mtx I tx L) (f : frN I I' J J') : mtx I' tx L := ⟨by rw [f.2.1 23 (by decide)]; exact h.1, h.2.1, fun i hi => by rw [f.1 96 (by decide)]; exact h.2.2 i hi⟩
theorem bAt_l {tx : Nat → Nat} {L i : Nat} (h : ∀ i, i < L → tx i < 256) : (¬ bAt tx L i < 97 ∧ ¬ (122 : Int32) < bAt tx L i) ↔ kb tx L i = 1 := by
  unfold bAt kb
  by_cases hi : i < L
  · have := h i hi
    rw [if_pos hi, if_pos hi]
    constructor
    · rintro ⟨h1, h2⟩
      have a1 := n_nlt (a := tx i) (b := 97) h1
      have a2 := n_nlt (a := 122) (b := tx i) h2
      rw [if_pos ⟨a1, a2⟩]
    · intro h1
      split at h1
      · rename_i q
        exact ⟨nI_nlt (a := tx i) (b := 97) (by omega) (by omega), nI_nlt (a := 122) (b := tx i) (by omega) (by omega)⟩
      · exfalso; revert h1; repeat' split
        all_goals omega
  · rw [if_neg hi, if_neg hi]
    constructor
    · rintro ⟨h1, _⟩; exact absurd (show (-1 : Int32) < 97 by decide) h1
    · intro h1; cases h1
theorem bAt_d {tx : Nat → Nat} {L i : Nat} (h : ∀ i, i < L → tx i < 256) : (¬ bAt tx L i < 48 ∧ ¬ (57 : Int32) < bAt tx L i) ↔ kb tx L i = 2 := by
  unfold bAt kb
  by_cases hi : i < L
  · have := h i hi
    rw [if_pos hi, if_pos hi]
    constructor
    · rintro ⟨h1, h2⟩
      have a1 := n_nlt (a := tx i) (b := 48) h1
      have a2 := n_nlt (a := 57) (b := tx i) h2
      rw [if_neg (by omega), if_pos ⟨a1, a2⟩]
    · intro h1
      split at h1
      · cases h1
      · split at h1
        · rename_i q
          exact ⟨nI_nlt (a := tx i) (b := 48) (by omega) (by omega), nI_nlt (a := 57) (b := tx i) (by omega) (by omega)⟩
        · exfalso; revert h1; repeat' split
          all_goals omega
  · rw [if_neg hi, if_neg hi]
    constructor
    · rintro ⟨h1, _⟩; exact absurd (show (-1 : Int32) < 48 by decide) h1
    · intro h1; cases h1
section MTk
variable (E : GE) (l : Launch)
variable {I : Nat → Nat → Int32} {J : Nat → Nat → Int64} {R : Nat → Nat → Option Nat} {D : Nat → Nat → UInt64} {N : Nat} {ex : Bool} {tx : Nat → Nat} {L a : Nat}
set_option maxRecDepth 100000 in
theorem m_byteAt (hR : lkM R N) (hr : mtx I tx L) {i : Nat} (hi : i < 1000) : g_Ct E l mX7_byteAt 0 0 0 0 [.ref 79, .int (nI i)] (I, J, R, D, N, ex) (g_is (some (.int (bAt tx L i))) (I, J, R, D, N, ex)) := by
  refine g_Ct.of (by decide +kernel) (lb rfl) ?_
  have hN := hR.1
  have hL := hr.2.1
  unfold bAt
  by_cases hil : i < L
  · rw [if_pos hil]
    refine w_iload_n dX7_byteAt_0 rfl ?_
    refine w_aload_n dX7_byteAt_1 rfl ?_
    refine x_geti (ci := 7) (k := 23) dX7_byteAt_2 rfl (by decide) (by decide) (by omega) fl_X7_119 rfl ?_
    rw [hr.1]
    refine w_icmp_ge (tgt := 17) dX7_byteAt_5 (by decide) (fun c_5 => absurd c_5 ((nI_ge (by omega) (by omega)))) (fun c_5 => ?_)
    refine w_aload_n dX7_byteAt_8 rfl ?_
    refine x_getr (ci := 7) (k := 21) (a := 96) dX7_byteAt_9 rfl (by decide) (by decide) (by omega) fl_X7_60 (Or.inr ⟨_, rfl⟩) hR.2.2.2.2.2.2.2.2.2.2.2.2.2.2.2.2.2.1 ?_
    refine w_iload_n dX7_byteAt_12 rfl ?_
    refine x_iald (j := i) dX7_byteAt_13 rfl (by omega) rfl (show i < 400 by omega) ?_
    rw [(hr.2.2 i hil).2]
    refine w_goto (tgt := 18) dX7_byteAt_14 (by decide) ?_
    refine w_iret dX7_byteAt_18 rfl rfl ⟨rfl, rfl⟩ (by decide) (by decide)
  · rw [if_neg hil]
    refine w_iload_n dX7_byteAt_0 rfl ?_
    refine w_aload_n dX7_byteAt_1 rfl ?_
    refine x_geti (ci := 7) (k := 23) dX7_byteAt_2 rfl (by decide) (by decide) (by omega) fl_X7_119 rfl ?_
    rw [hr.1]
    refine w_icmp_ge (tgt := 17) dX7_byteAt_5 (by decide) (fun c_5 => ?_) (fun c_5 => absurd ((nI_le (by omega) (by omega))) c_5)
    refine w_iconst (v := (-1)) dX7_byteAt_17 (by decide) ?_
    refine w_iret dX7_byteAt_18 rfl rfl ⟨rfl, rfl⟩ (by decide) (by decide)
set_option maxRecDepth 100000 in
theorem m_readsWord (hR : lkM R N) (hr : mtx I tx L) {s e : Nat} (h24 : I 79 24 = nI s) (h25 : I 79 25 = nI s) (hse : s ≤ e) (heL : e ≤ L) (hk : ∀ j, s ≤ j → j < e → kb tx L j = 1) (hke : kb tx L e ≠ 1) : g_Ct E l mX7_readsWord 1 21 0 0 [.ref 79] (I, J, R, D, N, ex) (g_rk (fun I' J' => frN I I' J J' ∧ I' 79 24 = nI s ∧ I' 79 25 = nI e ∧ I' 79 26 = nI (if 8 < e - s then 4 else 1) ∧ J' 79 33 = lN (wvF tx s (e - s))) R D N ex) := by
  refine g_Ct.of (by decide +kernel) (lb rfl) ?_
  have hN := hR.1
  have hL := hr.2.1
  have ht := fun i hi => (hr.2.2 i hi).1
  have loop : ∀ (f i : Nat) (I' : Nat → Nat → Int32) (J' : Nat → Nat → Int64), i + f = e → s ≤ i → frN I I' J J' → I' 79 24 = nI s → I' 79 25 = nI i → J' 79 33 = lN (wvF tx s (i - s)) → g_Wp E l mX7_readsWord { frames := 1, cells := 0, slots := 0, locals := 21 } (g_Fin E (g_rk (fun I' J' => frN I I' J J' ∧ I' 79 24 = nI s ∧ I' 79 25 = nI e ∧ I' 79 26 = nI (if 8 < e - s then 4 else 1) ∧ J' 79 33 = lN (wvF tx s (e - s))) R D N ex) 0 0) 0 0 5 [(0, .ref 79)] [] (I', J', R, D, N, ex) := by
    intro f
    induction f with
    | zero =>
      intro i I' J' hi his g1 g2 g3 g4
      obtain rfl : i = e := by omega
      by_cases h8 : 8 < i - s
      · rw [if_pos h8]
        refine w_aload_n dX7_readsWord_5 rfl ?_
        refine w_aload_n dX7_readsWord_6 rfl ?_
        refine x_geti (ci := 7) (k := 25) dX7_readsWord_7 rfl (by decide) (by decide) (by omega) fl_X7_126 rfl ?_
        rw [g3]
        refine y_callV dX7_readsWord_10 lk_X7_129 [.int (nI i)] rfl (m_byteAt E l hR (hr.n g1) (show i < 1000 by omega)) (g_recv.obj (ci := 7) rfl (by decide) (show 79 < N by omega)) rfl ⟨⟨by decide, by decide⟩, by decide, by decide⟩ (lb rfl) ?_
        refine y_callS dX7_readsWord_13 lk_X7_133 [.int (bAt tx L i)] rfl (m_isLetter E l _ _) rfl ⟨⟨by decide, by decide⟩, by decide, by decide⟩ (lb rfl) ?_
        rw [decide_eq_false (fun q => hke ((bAt_l ht).mp q))]
        refine w_if_eq (tgt := 81) dX7_readsWord_16 (by decide) (fun c_16 => ?_) (fun c_16 => absurd (rfl) c_16)
        refine w_aload_n dX7_readsWord_81 rfl ?_
        refine w_aload_n dX7_readsWord_82 rfl ?_
        refine x_geti (ci := 7) (k := 25) dX7_readsWord_83 rfl (by decide) (by decide) (by omega) fl_X7_126 rfl ?_
        rw [g3]
        refine w_aload_n dX7_readsWord_86 rfl ?_
        refine x_geti (ci := 7) (k := 24) dX7_readsWord_87 rfl (by decide) (by decide) (by omega) fl_X7_136 rfl ?_
        rw [g2]
        refine w_isub dX7_readsWord_90 ?_
        rw [pk_sub (by omega)]
        refine w_bipush (v := 8) dX7_readsWord_91 (by decide) ?_
        refine w_icmp_le (tgt := 100) dX7_readsWord_93 (by decide) (fun c_93 => absurd c_93 ((fun q => absurd (n_le (b := 8) q) (by omega)))) (fun c_93 => ?_)
        refine w_iconst (v := 4) dX7_readsWord_96 (by decide) ?_
        refine w_goto (tgt := 101) dX7_readsWord_97 (by decide) ?_
        refine x_puti (ci := 7) (k := 26) dX7_readsWord_101 rfl (by decide) (by decide) (by omega) fl_X7_143 rfl rfl ?_
        refine w_vret dX7_readsWord_104 rfl ⟨_, _, rfl, ⟨g1.up (by decide) _, by rw [up2_n _ _ (by simp)]; exact g2, by rw [up2_n _ _ (by simp)]; exact g3, up2_s .., g4⟩, rfl⟩ (by decide) (by decide)
      · rw [if_neg h8]
        refine w_aload_n dX7_readsWord_5 rfl ?_
        refine w_aload_n dX7_readsWord_6 rfl ?_
        refine x_geti (ci := 7) (k := 25) dX7_readsWord_7 rfl (by decide) (by decide) (by omega) fl_X7_126 rfl ?_
        rw [g3]
        refine y_callV dX7_readsWord_10 lk_X7_129 [.int (nI i)] rfl (m_byteAt E l hR (hr.n g1) (show i < 1000 by omega)) (g_recv.obj (ci := 7) rfl (by decide) (show 79 < N by omega)) rfl ⟨⟨by decide, by decide⟩, by decide, by decide⟩ (lb rfl) ?_
        refine y_callS dX7_readsWord_13 lk_X7_133 [.int (bAt tx L i)] rfl (m_isLetter E l _ _) rfl ⟨⟨by decide, by decide⟩, by decide, by decide⟩ (lb rfl) ?_
        rw [decide_eq_false (fun q => hke ((bAt_l ht).mp q))]
        refine w_if_eq (tgt := 81) dX7_readsWord_16 (by decide) (fun c_16 => ?_) (fun c_16 => absurd (rfl) c_16)
        refine w_aload_n dX7_readsWord_81 rfl ?_
        refine w_aload_n dX7_readsWord_82 rfl ?_
        refine x_geti (ci := 7) (k := 25) dX7_readsWord_83 rfl (by decide) (by decide) (by omega) fl_X7_126 rfl ?_
        rw [g3]
        refine w_aload_n dX7_readsWord_86 rfl ?_
        refine x_geti (ci := 7) (k := 24) dX7_readsWord_87 rfl (by decide) (by decide) (by omega) fl_X7_136 rfl ?_
        rw [g2]
        refine w_isub dX7_readsWord_90 ?_
        rw [pk_sub (by omega)]
        refine w_bipush (v := 8) dX7_readsWord_91 (by decide) ?_
        refine w_icmp_le (tgt := 100) dX7_readsWord_93 (by decide) (fun c_93 => ?_) (fun c_93 => absurd ((nI_le (a := i - s) (b := 8) (by omega) (by omega))) c_93)
        refine w_iconst (v := 1) dX7_readsWord_100 (by decide) ?_
        refine x_puti (ci := 7) (k := 26) dX7_readsWord_101 rfl (by decide) (by decide) (by omega) fl_X7_143 rfl rfl ?_
        refine w_vret dX7_readsWord_104 rfl ⟨_, _, rfl, ⟨g1.up (by decide) _, by rw [up2_n _ _ (by simp)]; exact g2, by rw [up2_n _ _ (by simp)]; exact g3, up2_s .., g4⟩, rfl⟩ (by decide) (by decide)
    | succ f ih =>
      intro i I' J' hi his g1 g2 g3 g4
      have hki := hk i his (by omega)
      obtain ⟨b1, b2, b3⟩ := kb_1 hki
      have bai : bAt tx L i = nI (tx i) := if_pos b1
      have nxt : ∀ (J'' : Nat → Nat → Int64), (∀ o k, ¬ (o = 79 ∧ k = 33) → J'' o k = J' o k) → J'' 79 33 = lN (wvF tx s (i + 1 - s)) → g_Wp E l mX7_readsWord { frames := 1, cells := 0, slots := 0, locals := 21 } (g_Fin E (g_rk (fun I' J' => frN I I' J J' ∧ I' 79 24 = nI s ∧ I' 79 25 = nI e ∧ I' 79 26 = nI (if 8 < e - s then 4 else 1) ∧ J' 79 33 = lN (wvF tx s (e - s))) R D N ex) 0 0) 0 0 68 [(0, .ref 79)] [] (I', J'', R, D, N, ex) := by
        intro J'' q1 q2
        refine w_aload_n dX7_readsWord_68 rfl ?_
        refine w_dup dX7_readsWord_69 rfl ?_
        refine x_geti (ci := 7) (k := 25) dX7_readsWord_70 rfl (by decide) (by decide) (by omega) fl_X7_126 rfl ?_
        rw [g3]
        refine w_iconst (v := 1) dX7_readsWord_73 (by decide) ?_
        refine w_iadd dX7_readsWord_74 ?_
        rw [nI_1]
        refine x_puti (ci := 7) (k := 25) dX7_readsWord_75 rfl (by decide) (by decide) (by omega) fl_X7_126 rfl rfl ?_
        refine w_goto (tgt := 5) dX7_readsWord_78 (by decide) ?_
        exact w_lv [0] (ih (i + 1) _ J'' (by omega) (by omega) ((g1.trans ⟨fun _ _ => rfl, fun _ _ => rfl, q1⟩).up (by decide) _) (by rw [up2_n _ _ (by simp)]; exact g2) (up2_s ..) q2)
      have e9 : i + 1 - s = (i - s) + 1 := by omega
      by_cases h8 : i - s < 8
      · refine w_aload_n dX7_readsWord_5 rfl ?_
        refine w_aload_n dX7_readsWord_6 rfl ?_
        refine x_geti (ci := 7) (k := 25) dX7_readsWord_7 rfl (by decide) (by decide) (by omega) fl_X7_126 rfl ?_
        rw [g3]
        refine y_callV dX7_readsWord_10 lk_X7_129 [.int (nI i)] rfl (m_byteAt E l hR (hr.n g1) (show i < 1000 by omega)) (g_recv.obj (ci := 7) rfl (by decide) (show 79 < N by omega)) rfl ⟨⟨by decide, by decide⟩, by decide, by decide⟩ (lb rfl) ?_
        refine y_callS dX7_readsWord_13 lk_X7_133 [.int (bAt tx L i)] rfl (m_isLetter E l _ _) rfl ⟨⟨by decide, by decide⟩, by decide, by decide⟩ (lb rfl) ?_
        rw [decide_eq_true ((bAt_l ht).mpr hki)]
        refine w_if_eq (tgt := 81) dX7_readsWord_16 (by decide) (fun c_16 => absurd c_16 ((by decide))) (fun c_16 => ?_)
        refine w_aload_n dX7_readsWord_19 rfl ?_
        refine w_aload_n dX7_readsWord_20 rfl ?_
        refine x_geti (ci := 7) (k := 25) dX7_readsWord_21 rfl (by decide) (by decide) (by omega) fl_X7_126 rfl ?_
        rw [g3]
        refine w_aload_n dX7_readsWord_24 rfl ?_
        refine x_geti (ci := 7) (k := 24) dX7_readsWord_25 rfl (by decide) (by decide) (by omega) fl_X7_136 rfl ?_
        rw [g2]
        refine w_isub dX7_readsWord_28 ?_
        rw [pk_sub (by omega)]
        refine w_bipush (v := 8) dX7_readsWord_29 (by decide) ?_
        refine w_icmp_ge (tgt := 61) dX7_readsWord_31 (by decide) (fun c_31 => absurd c_31 ((nI_ge (a := i - s) (b := 8) (by omega) (by omega)))) (fun c_31 => ?_)
        refine w_ldc2 dX7_readsWord_34 kl_X7_139 ?_
        refine w_aload_n dX7_readsWord_37 rfl ?_
        refine x_getj (ci := 7) (k := 33) dX7_readsWord_38 rfl (by decide) (by decide) (by omega) fl_X7_122 rfl ?_
        rw [g4]
        refine w_lmul dX7_readsWord_41 ?_
        refine w_aload_n dX7_readsWord_42 rfl ?_
        refine w_aload_n dX7_readsWord_43 rfl ?_
        refine x_geti (ci := 7) (k := 25) dX7_readsWord_44 rfl (by decide) (by decide) (by omega) fl_X7_126 rfl ?_
        rw [g3]
        refine y_callV dX7_readsWord_47 lk_X7_129 [.int (nI i)] rfl (m_byteAt E l hR (hr.n g1) (show i < 1000 by omega)) (g_recv.obj (ci := 7) rfl (by decide) (show 79 < N by omega)) rfl ⟨⟨by decide, by decide⟩, by decide, by decide⟩ (lb rfl) ?_
        rw [bai]
        refine w_i2l dX7_readsWord_50 ?_
        refine w_ladd dX7_readsWord_51 ?_
        refine w_ldc2 dX7_readsWord_52 kl_X7_141 ?_
        refine w_lsub dX7_readsWord_55 ?_
        refine w_lconst (v := 1) dX7_readsWord_56 (by decide) ?_
        refine w_ladd dX7_readsWord_57 ?_
        refine w_st (show _ = [.long (lN (wvF tx s (i + 1 - s))), .ref 79] from by rw [e9, wvF, if_pos h8, show s + (i - s) = i by omega]; exact congrArg (fun v => [Value.long v, Value.ref 79]) (w27 b2 (by omega))) ?_
        refine w_goto (tgt := 65) dX7_readsWord_58 (by decide) ?_
        refine x_putj (ci := 7) (k := 33) dX7_readsWord_65 rfl (by decide) (by decide) (by omega) fl_X7_122 rfl rfl ?_
        exact w_lv [0] (nxt _ (fun o k q => up2_n _ _ q) (up2_s ..))
      · refine w_aload_n dX7_readsWord_5 rfl ?_
        refine w_aload_n dX7_readsWord_6 rfl ?_
        refine x_geti (ci := 7) (k := 25) dX7_readsWord_7 rfl (by decide) (by decide) (by omega) fl_X7_126 rfl ?_
        rw [g3]
        refine y_callV dX7_readsWord_10 lk_X7_129 [.int (nI i)] rfl (m_byteAt E l hR (hr.n g1) (show i < 1000 by omega)) (g_recv.obj (ci := 7) rfl (by decide) (show 79 < N by omega)) rfl ⟨⟨by decide, by decide⟩, by decide, by decide⟩ (lb rfl) ?_
        refine y_callS dX7_readsWord_13 lk_X7_133 [.int (bAt tx L i)] rfl (m_isLetter E l _ _) rfl ⟨⟨by decide, by decide⟩, by decide, by decide⟩ (lb rfl) ?_
        rw [decide_eq_true ((bAt_l ht).mpr hki)]
        refine w_if_eq (tgt := 81) dX7_readsWord_16 (by decide) (fun c_16 => absurd c_16 ((by decide))) (fun c_16 => ?_)
        refine w_aload_n dX7_readsWord_19 rfl ?_
        refine w_aload_n dX7_readsWord_20 rfl ?_
        refine x_geti (ci := 7) (k := 25) dX7_readsWord_21 rfl (by decide) (by decide) (by omega) fl_X7_126 rfl ?_
        rw [g3]
        refine w_aload_n dX7_readsWord_24 rfl ?_
        refine x_geti (ci := 7) (k := 24) dX7_readsWord_25 rfl (by decide) (by decide) (by omega) fl_X7_136 rfl ?_
        rw [g2]
        refine w_isub dX7_readsWord_28 ?_
        rw [pk_sub (by omega)]
        refine w_bipush (v := 8) dX7_readsWord_29 (by decide) ?_
        refine w_icmp_ge (tgt := 61) dX7_readsWord_31 (by decide) (fun c_31 => ?_) (fun c_31 => absurd ((nI_le (a := 8) (b := i - s) (by omega) (by omega))) c_31)
        refine w_aload_n dX7_readsWord_61 rfl ?_
        refine x_getj (ci := 7) (k := 33) dX7_readsWord_62 rfl (by decide) (by decide) (by omega) fl_X7_122 rfl ?_
        rw [g4]
        refine x_putj (ci := 7) (k := 33) dX7_readsWord_65 rfl (by decide) (by decide) (by omega) fl_X7_122 rfl rfl ?_
        exact w_lv [0] (nxt _ (fun o k q => up2_n _ _ q) (by rw [up2_s, e9, wvF, if_neg h8]))
  refine w_aload_n dX7_readsWord_0 rfl ?_
  refine w_lconst (v := 0) dX7_readsWord_1 (by decide) ?_
  refine x_putj (ci := 7) (k := 33) dX7_readsWord_2 rfl (by decide) (by decide) (by omega) fl_X7_122 rfl rfl ?_
  exact w_lv [0] (loop (e - s) s I _ (by omega) (Nat.le_refl s) ⟨fun _ _ => rfl, fun _ _ => rfl, fun o k q => up2_n _ _ q⟩ h24 h25 (by rw [up2_s, Nat.sub_self]; rfl))
set_option maxRecDepth 100000 in
theorem m_readsNumber (hR : lkM R N) (hr : mtx I tx L) {s e : Nat} (h24 : I 79 24 = nI s) (h25 : I 79 25 = nI s) (hse : s ≤ e) (heL : e ≤ L) (hk : ∀ j, s ≤ j → j < e → kb tx L j = 2) (hke : kb tx L e ≠ 2) : g_Ct E l mX7_readsNumber 1 21 0 0 [.ref 79] (I, J, R, D, N, ex) (g_rv (fun I' => frN I I' J J ∧ I' 79 24 = nI s ∧ I' 79 25 = nI e ∧ I' 79 26 = nI (if 2 < e - s then 4 else 2) ∧ I' 79 27 = nI (nvF tx s (e - s))) J R D N ex) := by
  refine g_Ct.of (by decide +kernel) (lb rfl) ?_
  have hN := hR.1
  have hL := hr.2.1
  have ht := fun i hi => (hr.2.2 i hi).1
  have loop : ∀ (f i : Nat) (I' : Nat → Nat → Int32), i + f = e → s ≤ i → frN I I' J J → I' 79 24 = nI s → I' 79 25 = nI i → I' 79 27 = nI (nvF tx s (i - s)) → g_Wp E l mX7_readsNumber { frames := 1, cells := 0, slots := 0, locals := 21 } (g_Fin E (g_rv (fun I' => frN I I' J J ∧ I' 79 24 = nI s ∧ I' 79 25 = nI e ∧ I' 79 26 = nI (if 2 < e - s then 4 else 2) ∧ I' 79 27 = nI (nvF tx s (e - s))) J R D N ex) 0 0) 0 0 5 [(0, .ref 79)] [] (I', J, R, D, N, ex) := by
    intro f
    induction f with
    | zero =>
      intro i I' hi his g1 g2 g3 g4
      obtain rfl : i = e := by omega
      by_cases h8 : 2 < i - s
      · rw [if_pos h8]
        refine w_aload_n dX7_readsNumber_5 rfl ?_
        refine w_aload_n dX7_readsNumber_6 rfl ?_
        refine x_geti (ci := 7) (k := 25) dX7_readsNumber_7 rfl (by decide) (by decide) (by omega) fl_X7_126 rfl ?_
        rw [g3]
        refine y_callV dX7_readsNumber_10 lk_X7_129 [.int (nI i)] rfl (m_byteAt E l hR (hr.n g1) (show i < 1000 by omega)) (g_recv.obj (ci := 7) rfl (by decide) (show 79 < N by omega)) rfl ⟨⟨by decide, by decide⟩, by decide, by decide⟩ (lb rfl) ?_
        refine y_callS dX7_readsNumber_13 lk_X7_149 [.int (bAt tx L i)] rfl (m_isDigit E l _ _) rfl ⟨⟨by decide, by decide⟩, by decide, by decide⟩ (lb rfl) ?_
        rw [decide_eq_false (fun q => hke ((bAt_d ht).mp q))]
        refine w_if_eq (tgt := 75) dX7_readsNumber_16 (by decide) (fun c_16 => ?_) (fun c_16 => absurd (rfl) c_16)
        refine w_aload_n dX7_readsNumber_75 rfl ?_
        refine w_aload_n dX7_readsNumber_76 rfl ?_
        refine x_geti (ci := 7) (k := 25) dX7_readsNumber_77 rfl (by decide) (by decide) (by omega) fl_X7_126 rfl ?_
        rw [g3]
        refine w_aload_n dX7_readsNumber_80 rfl ?_
        refine x_geti (ci := 7) (k := 24) dX7_readsNumber_81 rfl (by decide) (by decide) (by omega) fl_X7_136 rfl ?_
        rw [g2]
        refine w_isub dX7_readsNumber_84 ?_
        rw [pk_sub (by omega)]
        refine w_iconst (v := 2) dX7_readsNumber_85 (by decide) ?_
        refine w_icmp_le (tgt := 93) dX7_readsNumber_86 (by decide) (fun c_86 => absurd c_86 ((fun q => absurd (n_le (b := 2) q) (by omega)))) (fun c_86 => ?_)
        refine w_iconst (v := 4) dX7_readsNumber_89 (by decide) ?_
        refine w_goto (tgt := 94) dX7_readsNumber_90 (by decide) ?_
        refine x_puti (ci := 7) (k := 26) dX7_readsNumber_94 rfl (by decide) (by decide) (by omega) fl_X7_143 rfl rfl ?_
        refine w_vret dX7_readsNumber_97 rfl ⟨_, rfl, ⟨g1.up (by decide) _, by rw [up2_n _ _ (by simp)]; exact g2, by rw [up2_n _ _ (by simp)]; exact g3, up2_s .., by rw [up2_n _ _ (by simp)]; exact g4⟩, rfl⟩ (by decide) (by decide)
      · rw [if_neg h8]
        refine w_aload_n dX7_readsNumber_5 rfl ?_
        refine w_aload_n dX7_readsNumber_6 rfl ?_
        refine x_geti (ci := 7) (k := 25) dX7_readsNumber_7 rfl (by decide) (by decide) (by omega) fl_X7_126 rfl ?_
        rw [g3]
        refine y_callV dX7_readsNumber_10 lk_X7_129 [.int (nI i)] rfl (m_byteAt E l hR (hr.n g1) (show i < 1000 by omega)) (g_recv.obj (ci := 7) rfl (by decide) (show 79 < N by omega)) rfl ⟨⟨by decide, by decide⟩, by decide, by decide⟩ (lb rfl) ?_
        refine y_callS dX7_readsNumber_13 lk_X7_149 [.int (bAt tx L i)] rfl (m_isDigit E l _ _) rfl ⟨⟨by decide, by decide⟩, by decide, by decide⟩ (lb rfl) ?_
        rw [decide_eq_false (fun q => hke ((bAt_d ht).mp q))]
        refine w_if_eq (tgt := 75) dX7_readsNumber_16 (by decide) (fun c_16 => ?_) (fun c_16 => absurd (rfl) c_16)
        refine w_aload_n dX7_readsNumber_75 rfl ?_
        refine w_aload_n dX7_readsNumber_76 rfl ?_
        refine x_geti (ci := 7) (k := 25) dX7_readsNumber_77 rfl (by decide) (by decide) (by omega) fl_X7_126 rfl ?_
        rw [g3]
        refine w_aload_n dX7_readsNumber_80 rfl ?_
        refine x_geti (ci := 7) (k := 24) dX7_readsNumber_81 rfl (by decide) (by decide) (by omega) fl_X7_136 rfl ?_
        rw [g2]
        refine w_isub dX7_readsNumber_84 ?_
        rw [pk_sub (by omega)]
        refine w_iconst (v := 2) dX7_readsNumber_85 (by decide) ?_
        refine w_icmp_le (tgt := 93) dX7_readsNumber_86 (by decide) (fun c_86 => ?_) (fun c_86 => absurd ((nI_le (a := i - s) (b := 2) (by omega) (by omega))) c_86)
        refine w_iconst (v := 2) dX7_readsNumber_93 (by decide) ?_
        refine x_puti (ci := 7) (k := 26) dX7_readsNumber_94 rfl (by decide) (by decide) (by omega) fl_X7_143 rfl rfl ?_
        refine w_vret dX7_readsNumber_97 rfl ⟨_, rfl, ⟨g1.up (by decide) _, by rw [up2_n _ _ (by simp)]; exact g2, by rw [up2_n _ _ (by simp)]; exact g3, up2_s .., by rw [up2_n _ _ (by simp)]; exact g4⟩, rfl⟩ (by decide) (by decide)
    | succ f ih =>
      intro i I' hi his g1 g2 g3 g4
      have hki := hk i his (by omega)
      obtain ⟨b1, b2, b3⟩ := kb_2 hki
      have bai : bAt tx L i = nI (tx i) := if_pos b1
      have e9 : i + 1 - s = (i - s) + 1 := by omega
      have nxt : g_Wp E l mX7_readsNumber { frames := 1, cells := 0, slots := 0, locals := 21 } (g_Fin E (g_rv (fun I' => frN I I' J J ∧ I' 79 24 = nI s ∧ I' 79 25 = nI e ∧ I' 79 26 = nI (if 2 < e - s then 4 else 2) ∧ I' 79 27 = nI (nvF tx s (e - s))) J R D N ex) 0 0) 0 0 59 [(0, .ref 79)] [.int (nI (nvF tx s (i + 1 - s))), .ref 79] (I', J, R, D, N, ex) := by
        refine x_puti (ci := 7) (k := 27) dX7_readsNumber_59 rfl (by decide) (by decide) (by omega) fl_X7_146 rfl rfl ?_
        refine w_aload_n dX7_readsNumber_62 rfl ?_
        refine w_dup dX7_readsNumber_63 rfl ?_
        refine x_geti (ci := 7) (k := 25) dX7_readsNumber_64 rfl (by decide) (by decide) (by omega) fl_X7_126 rfl ?_
        refine w_st (show _ = [.int (nI i), .ref 79] from by rw [up2_n _ _ (by simp), g3]) ?_
        refine w_iconst (v := 1) dX7_readsNumber_67 (by decide) ?_
        refine w_iadd dX7_readsNumber_68 ?_
        rw [nI_1]
        refine x_puti (ci := 7) (k := 25) dX7_readsNumber_69 rfl (by decide) (by decide) (by omega) fl_X7_126 rfl rfl ?_
        refine w_goto (tgt := 5) dX7_readsNumber_72 (by decide) ?_
        exact w_lv [0] (ih (i + 1) _ (by omega) (by omega) ((g1.up (by decide) _).up (by decide) _) (by rw [up2_n _ _ (by simp), up2_n _ _ (by simp)]; exact g2) (up2_s ..) (by rw [up2_n _ _ (by simp), up2_s]))
      by_cases h8 : i - s < 2
      · refine w_aload_n dX7_readsNumber_5 rfl ?_
        refine w_aload_n dX7_readsNumber_6 rfl ?_
        refine x_geti (ci := 7) (k := 25) dX7_readsNumber_7 rfl (by decide) (by decide) (by omega) fl_X7_126 rfl ?_
        rw [g3]
        refine y_callV dX7_readsNumber_10 lk_X7_129 [.int (nI i)] rfl (m_byteAt E l hR (hr.n g1) (show i < 1000 by omega)) (g_recv.obj (ci := 7) rfl (by decide) (show 79 < N by omega)) rfl ⟨⟨by decide, by decide⟩, by decide, by decide⟩ (lb rfl) ?_
        refine y_callS dX7_readsNumber_13 lk_X7_149 [.int (bAt tx L i)] rfl (m_isDigit E l _ _) rfl ⟨⟨by decide, by decide⟩, by decide, by decide⟩ (lb rfl) ?_
        rw [decide_eq_true ((bAt_d ht).mpr hki)]
        refine w_if_eq (tgt := 75) dX7_readsNumber_16 (by decide) (fun c_16 => absurd c_16 ((by decide))) (fun c_16 => ?_)
        refine w_aload_n dX7_readsNumber_19 rfl ?_
        refine w_aload_n dX7_readsNumber_20 rfl ?_
        refine x_geti (ci := 7) (k := 25) dX7_readsNumber_21 rfl (by decide) (by decide) (by omega) fl_X7_126 rfl ?_
        rw [g3]
        refine w_aload_n dX7_readsNumber_24 rfl ?_
        refine x_geti (ci := 7) (k := 24) dX7_readsNumber_25 rfl (by decide) (by decide) (by omega) fl_X7_136 rfl ?_
        rw [g2]
        refine w_isub dX7_readsNumber_28 ?_
        rw [pk_sub (by omega)]
        refine w_iconst (v := 2) dX7_readsNumber_29 (by decide) ?_
        refine w_icmp_ge (tgt := 55) dX7_readsNumber_30 (by decide) (fun c_30 => absurd c_30 ((nI_ge (a := i - s) (b := 2) (by omega) (by omega)))) (fun c_30 => ?_)
        refine w_bipush (v := 10) dX7_readsNumber_33 (by decide) ?_
        refine w_aload_n dX7_readsNumber_35 rfl ?_
        refine x_geti (ci := 7) (k := 27) dX7_readsNumber_36 rfl (by decide) (by decide) (by omega) fl_X7_146 rfl ?_
        rw [g4]
        refine w_imul dX7_readsNumber_39 ?_
        refine w_aload_n dX7_readsNumber_40 rfl ?_
        refine w_aload_n dX7_readsNumber_41 rfl ?_
        refine x_geti (ci := 7) (k := 25) dX7_readsNumber_42 rfl (by decide) (by decide) (by omega) fl_X7_126 rfl ?_
        rw [g3]
        refine y_callV dX7_readsNumber_45 lk_X7_129 [.int (nI i)] rfl (m_byteAt E l hR (hr.n g1) (show i < 1000 by omega)) (g_recv.obj (ci := 7) rfl (by decide) (show 79 < N by omega)) rfl ⟨⟨by decide, by decide⟩, by decide, by decide⟩ (lb rfl) ?_
        rw [bai]
        refine w_iadd dX7_readsNumber_48 ?_
        refine w_bipush (v := 48) dX7_readsNumber_49 (by decide) ?_
        refine w_isub dX7_readsNumber_51 ?_
        refine w_st (show _ = [.int (nI (nvF tx s (i + 1 - s))), .ref 79] from by rw [e9, nvF, if_pos h8, show s + (i - s) = i by omega]; exact congrArg (fun v => [Value.int v, Value.ref 79]) (n10 b2)) ?_
        refine w_goto (tgt := 59) dX7_readsNumber_52 (by decide) ?_
        exact w_lv [0] nxt
      · rw [e9, nvF, if_neg h8] at nxt
        refine w_aload_n dX7_readsNumber_5 rfl ?_
        refine w_aload_n dX7_readsNumber_6 rfl ?_
        refine x_geti (ci := 7) (k := 25) dX7_readsNumber_7 rfl (by decide) (by decide) (by omega) fl_X7_126 rfl ?_
        rw [g3]
        refine y_callV dX7_readsNumber_10 lk_X7_129 [.int (nI i)] rfl (m_byteAt E l hR (hr.n g1) (show i < 1000 by omega)) (g_recv.obj (ci := 7) rfl (by decide) (show 79 < N by omega)) rfl ⟨⟨by decide, by decide⟩, by decide, by decide⟩ (lb rfl) ?_
        refine y_callS dX7_readsNumber_13 lk_X7_149 [.int (bAt tx L i)] rfl (m_isDigit E l _ _) rfl ⟨⟨by decide, by decide⟩, by decide, by decide⟩ (lb rfl) ?_
        rw [decide_eq_true ((bAt_d ht).mpr hki)]
        refine w_if_eq (tgt := 75) dX7_readsNumber_16 (by decide) (fun c_16 => absurd c_16 ((by decide))) (fun c_16 => ?_)
        refine w_aload_n dX7_readsNumber_19 rfl ?_
        refine w_aload_n dX7_readsNumber_20 rfl ?_
        refine x_geti (ci := 7) (k := 25) dX7_readsNumber_21 rfl (by decide) (by decide) (by omega) fl_X7_126 rfl ?_
        rw [g3]
        refine w_aload_n dX7_readsNumber_24 rfl ?_
        refine x_geti (ci := 7) (k := 24) dX7_readsNumber_25 rfl (by decide) (by decide) (by omega) fl_X7_136 rfl ?_
        rw [g2]
        refine w_isub dX7_readsNumber_28 ?_
        rw [pk_sub (by omega)]
        refine w_iconst (v := 2) dX7_readsNumber_29 (by decide) ?_
        refine w_icmp_ge (tgt := 55) dX7_readsNumber_30 (by decide) (fun c_30 => ?_) (fun c_30 => absurd ((nI_le (a := 2) (b := i - s) (by omega) (by omega))) c_30)
        refine w_aload_n dX7_readsNumber_55 rfl ?_
        refine x_geti (ci := 7) (k := 27) dX7_readsNumber_56 rfl (by decide) (by decide) (by omega) fl_X7_146 rfl ?_
        rw [g4]
        exact w_lv [0] nxt
  refine w_aload_n dX7_readsNumber_0 rfl ?_
  refine w_iconst (v := 0) dX7_readsNumber_1 (by decide) ?_
  refine x_puti (ci := 7) (k := 27) dX7_readsNumber_2 rfl (by decide) (by decide) (by omega) fl_X7_146 rfl rfl ?_
  exact w_lv [0] (loop (e - s) s _ (by omega) (Nat.le_refl s) ((frN.refl I J).up (by decide) _) (by rw [up2_n _ _ (by simp)]; exact h24) (by rw [up2_n _ _ (by simp)]; exact h25) (by rw [up2_s, Nat.sub_self]; rfl))
end MTk
