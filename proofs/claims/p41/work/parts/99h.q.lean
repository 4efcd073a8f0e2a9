/-! the class's calls as the law makes them: they answer and stand again -/
theorem q_mono {P Q : Int32 → (Nat → Nat → Int32) → Prop} {J : Nat → Nat → Int64} {R : Nat → Nat → Option Nat} {D : Nat → Nat → UInt64} {N : Nat} {ex : Bool} (h : ∀ x I', P x I' → Q x I') : ∀ o w', g_ri P J R D N ex o w' → g_ri Q J R D N ex o w' := fun _ _ hz => by
  obtain ⟨x, I', h1, h2, h3⟩ := hz
  exact ⟨x, I', h1, h x I' h2, h3⟩
/-- the answer, nothing of the law's changed, it stands -/
def qA (v : Int32) (I : Nat → Nat → Int32) (J : Nat → Nat → Int64) (sw : Bool) (A : AS) (m : Nat) (x : Int32) (I' : Nat → Nat → Int32) : Prop := x = v ∧ frM I I' ∧ rC I' J sw A m
section QQ
variable (E : GE) (l : Launch)
variable {I : Nat → Nat → Int32} {J : Nat → Nat → Int64} {R : Nat → Nat → Option Nat} {D : Nat → Nat → UInt64} {N : Nat} {ex : Bool} {sw : Bool} {A : AS} {n : Nat}
abbrev psM (A : AS) : Nat := (mvs A.cf A.st.pos).length
abbrev psO (A : AS) : List Rs := opv A.cf A.st.pos
theorem psO_len (A : AS) : (psO A).length = psM A := List.length_map ..
theorem q_moves (hl : lk R N sw) (h : rC I J sw A n) (hn5 : n < 99000) : g_Ct E l mX6_moves 5 112 0 0 [.ref 0] (I, J, R, D, N, ex) (g_ri (qA (nI (psM A)) I J sw A (n + 1)) J R D N ex) :=
  (c_moves E l hl h (by omega)).mono (q_mono fun _ _ q => ⟨q.1, q.2.1.m, h.pr q.2.1 q.2.2⟩)
theorem q_value (hl : lk R N sw) (h : rC I J sw A n) (hn5 : n < 99000) : g_Ct E l mX6_positionValue 6 142 0 0 [.ref 0] (I, J, R, D, N, ex) (g_ri (qA (nI (val A.cf A.st.pos).2.2) I J sw A (n + 1)) J R D N ex) :=
  (c_positionValue E l hl h (by omega)).mono (q_mono fun _ _ q => ⟨q.1, q.2.1.m, h.rd q.2.1 q.2.2⟩)
theorem q_isWon (hl : lk R N sw) (h : rC I J sw A n) (hn5 : n < 99000) : g_Ct E l mX6_isWon 6 142 0 0 [.ref 0] (I, J, R, D, N, ex) (g_ri (qA (b2i (val A.cf A.st.pos).1) I J sw A (n + 1)) J R D N ex) :=
  (c_isWon E l hl h (by omega)).mono (q_mono fun _ _ q => ⟨q.1, q.2.1.m, h.rd q.2.1 q.2.2⟩)
theorem q_length (hl : lk R N sw) (h : rC I J sw A n) (hn5 : n < 99000) : g_Ct E l mX6_length 6 142 0 0 [.ref 0] (I, J, R, D, N, ex) (g_ri (qA (nI (val A.cf A.st.pos).2.1) I J sw A (n + 1)) J R D N ex) :=
  (c_length E l hl h (by omega)).mono (q_mono fun _ _ q => ⟨q.1, q.2.1.m, h.rd q.2.1 q.2.2⟩)
theorem q_winning (hl : lk R N sw) (h : rC I J sw A n) (hn5 : n < 99000) : g_Ct E l mX6_winning 6 142 0 0 [.ref 0] (I, J, R, D, N, ex) (g_ri (qA (nI (wnF (psO A) (psM A))) I J sw A (n + 1)) J R D N ex) :=
  (c_winning E l hl h (by omega)).mono (q_mono fun _ _ q => ⟨q.1, q.2.1.m, h.rd q.2.1 q.2.2⟩)
theorem q_best (hl : lk R N sw) (h : rC I J sw A n) (hn5 : n < 99000) : g_Ct E l mX6_best 6 142 0 0 [.ref 0] (I, J, R, D, N, ex) (g_ri (qA (o2i (bsF (psO A) (psM A))) I J sw A (n + 1)) J R D N ex) :=
  (c_best E l hl h (by omega)).mono (q_mono fun _ _ q => ⟨q.1, q.2.2.1.m, h.rd q.2.2.1 q.2.2.2⟩)
theorem q_size (hl : lk R N sw) (h : rC I J sw A n) (hn5 : n < 99000) {w : Nat} (hw : w < 10) : g_Ct E l mX6_size 6 132 0 0 [.ref 0, .int (nI w)] (I, J, R, D, N, ex) (g_ri (qA (szS A w) I J sw A (n + 1)) J R D N ex) :=
  (c_size E l hl h (by omega) hw).mono (q_mono fun _ _ q => ⟨q.1, q.2.1.m, h.sv q.2.1 q.2.2⟩)
theorem mv4 {i : Nat} (hi : i < psM A) : mvA A i 4 = nI ((psO A).getD i dR).2.2 := by
  unfold mvA
  rw [opv_getD hi, List.getElem?_eq_getElem hi]
  rfl
theorem mv5 {i : Nat} (hi : i < psM A) : mvA A i 5 = if ((psO A).getD i dR).1 then 0 else 1 := by
  unfold mvA
  rw [opv_getD hi, List.getElem?_eq_getElem hi]
  rfl
theorem mv6 {i : Nat} (hi : i < psM A) : mvA A i 6 = nI ((psO A).getD i dR).2.1 := by
  unfold mvA
  rw [opv_getD hi, List.getElem?_eq_getElem hi]
  rfl
theorem q_move4 (hl : lk R N sw) (h : rC I J sw A n) (hn5 : n < 99000) {i : Nat} (hi : i < psM A) : g_Ct E l mX6_move 6 142 0 0 [.ref 0, .int (nI i), .int (nI 4)] (I, J, R, D, N, ex) (g_ri (qA (nI ((psO A).getD i dR).2.2) I J sw A (n + 2)) J R D N ex) :=
  (c_move E l hl h (by omega) hi (w := 4) (by decide)).mono (q_mono fun _ _ q => ⟨q.1.trans (mv4 hi), q.2.1.m, h.pr q.2.1 q.2.2⟩)
theorem q_move5 (hl : lk R N sw) (h : rC I J sw A n) (hn5 : n < 99000) {i : Nat} (hi : i < psM A) : g_Ct E l mX6_move 6 142 0 0 [.ref 0, .int (nI i), .int (nI 5)] (I, J, R, D, N, ex) (g_ri (qA (if ((psO A).getD i dR).1 then 0 else 1) I J sw A (n + 2)) J R D N ex) :=
  (c_move E l hl h (by omega) hi (w := 5) (by decide)).mono (q_mono fun _ _ q => ⟨q.1.trans (mv5 hi), q.2.1.m, h.pr q.2.1 q.2.2⟩)
theorem q_move6 (hl : lk R N sw) (h : rC I J sw A n) (hn5 : n < 99000) {i : Nat} (hi : i < psM A) : g_Ct E l mX6_move 6 142 0 0 [.ref 0, .int (nI i), .int (nI 6)] (I, J, R, D, N, ex) (g_ri (qA (nI ((psO A).getD i dR).2.1) I J sw A (n + 2)) J R D N ex) :=
  (c_move E l hl h (by omega) hi (w := 6) (by decide)).mono (q_mono fun _ _ q => ⟨q.1.trans (mv6 hi), q.2.1.m, h.pr q.2.1 q.2.2⟩)
end QQ
/-- what is found out of a position, by its moves -/
theorem rC.m4 {I : Nat → Nat → Int32} {J : Nat → Nat → Int64} {sw : Bool} {A : AS} {n : Nat} (h : rC I J sw A n) : A.cf.m ≤ 4 ∧ A.st.pos < 262144 ∧ psM A ≤ 81 := by
  have hok := h.2.2.2.2.1
  exact ⟨by rw [cf_m]; exact hok.1, hok.pos, mvs_81 (cf_ok h.2.1 (hok.rs h.1.2)) _⟩
theorem rC.bd {I : Nat → Nat → Int32} {J : Nat → Nat → Int64} {sw : Bool} {A : AS} {n : Nat} (h : rC I J sw A n) : (∀ x ∈ psO A, x.2.1 < 63) ∧ ∀ x ∈ psO A, x.2.2 < 63 :=
  ⟨fun _ hx => (opv_lt h.m4.1 h.m4.2.1 hx).1, fun _ hx => (opv_lt h.m4.1 h.m4.2.1 hx).2⟩
theorem psO_nil {A : AS} : psO A = [] ↔ psM A = 0 := by
  rw [← psO_len A, List.length_eq_zero_iff]
theorem ps_val {I : Nat → Nat → Int32} {J : Nat → Nat → Int64} {sw : Bool} {A : AS} {n : Nat} (h : rC I J sw A n) {v : Nat} (h1 : ∀ j, j < v → htF (psO A) j (psM A) = true) (h2 : htF (psO A) v (psM A) = false) : (val A.cf A.st.pos).2.2 = v := by
  rw [val_opv h.m4.1]
  by_cases h0 : psO A = []
  · have hM := psO_nil.mp h0
    have hv : v = 0 := by
      rcases Nat.eq_zero_or_pos v with q | q
      · exact q
      · have := h1 0 q
        rw [hM] at this
        cases this
    rw [hv]
    show (comb A.cf.mi (psO A)).2.2 = 0
    rw [h0]
    rfl
  · rw [← psO_len A] at h1 h2
    exact comb_val h.bd.2 h0 _ h1 h2
theorem ps_end {A : AS} (hm : A.cf.m ≤ 4) (h0 : psM A = 0) : (val A.cf A.st.pos).1 = A.st.mi ∧ (val A.cf A.st.pos).2.1 = 0 := by
  rw [val_opv hm]
  have e : opv A.cf A.st.pos = [] := psO_nil.mpr h0
  rw [e]
  exact ⟨rfl, rfl⟩
theorem ps_won {I : Nat → Nat → Int32} {J : Nat → Nat → Int64} {sw : Bool} {A : AS} {n : Nat} (h : rC I J sw A n) (h0 : psM A ≠ 0) : (val A.cf A.st.pos).1 = decide (0 < wnF (psO A) (psM A)) ∧ (val A.cf A.st.pos).2.1 = 1 + (if 0 < wnF (psO A) (psM A) then lmF (psO A) (psM A) else mxF (psO A) (psM A)) := by
  have hne : psO A ≠ [] := fun q => h0 (psO_nil.mp q)
  rw [val_opv h.m4.1, ← psO_len A]
  exact ⟨comb_won h.bd.1 hne _, comb_len h.bd.1 hne _⟩
theorem ps_best {I : Nat → Nat → Int32} {J : Nat → Nat → Int64} {sw : Bool} {A : AS} {n : Nat} (h : rC I J sw A n) (h0 : psM A ≠ 0) : ∃ b, bsF (psO A) (psM A) = some b ∧ b < psM A ∧ ((psO A).getD b dR).2.1 + 1 = (val A.cf A.st.pos).2.1 ∧ ((psO A).getD b dR).1 = !(val A.cf A.st.pos).1 := by
  obtain ⟨w1, w2⟩ := ps_won h h0
  obtain ⟨b, hb⟩ := bsF_pos (os := psO A) (i := psM A) (by omega)
  have hl := psO_len A
  have hw := wn_lm h.bd.1 (psM A) (by omega)
  refine ⟨b, hb, bsF_lt hb, ?_⟩
  rw [w1, w2]
  rcases bs_ok h.bd.1 (psM A) b (by omega) hb with ⟨q1, q2, q3⟩ | ⟨q1, q2, q3⟩
  · have hp := hw.mpr q3
    rw [if_pos hp, decide_eq_true hp]
    exact ⟨by omega, q1⟩
  · have hp : ¬ 0 < wnF (psO A) (psM A) := fun q => by have := hw.mp q; omega
    rw [if_neg hp, decide_eq_false hp]
    exact ⟨by omega, q1⟩
