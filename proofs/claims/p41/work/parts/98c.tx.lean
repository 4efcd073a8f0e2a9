/-! the text of the law is read -/
/-- from a on the text is u, and ends there -/
def Rm (tx : Nat → Nat) (L : Nat) : List Nat → Nat → Prop
  | [], a => L = a
  | c :: u, a => tx a = c ∧ Rm tx L u (a + 1)
def kc (c : Nat) : Nat := if 97 ≤ c ∧ c ≤ 122 then 1 else if 48 ≤ c ∧ c ≤ 57 then 2 else if c = 59 then 3 else 4
def nk (κ : Nat) (u : List Nat) : Prop := match u with
  | [] => True
  | c :: _ => kc c ≠ κ
theorem nk1_sp (u : List Nat) : nk 1 (32 :: u) := (by decide : kc 32 ≠ 1)
theorem nk2_sp (u : List Nat) : nk 2 (32 :: u) := (by decide : kc 32 ≠ 2)
theorem nk1_se (u : List Nat) : nk 1 (59 :: u) := (by decide : kc 59 ≠ 1)
theorem nk2_se (u : List Nat) : nk 2 (59 :: u) := (by decide : kc 59 ≠ 2)
def allK (κ : Nat) (w : List Nat) : Bool := w.all (fun c => decide (kc c = κ))
section RD
variable {tx : Nat → Nat} {L κ : Nat}
theorem Rm_len : ∀ {u : List Nat} {a : Nat}, Rm tx L u a → L = a + u.length
  | [], a, h => h
  | c :: u, a, h => by have := Rm_len h.2; rw [List.length_cons]; omega
theorem Rm_app : ∀ {w u : List Nat} {a : Nat}, Rm tx L (w ++ u) a → Rm tx L u (a + w.length) ∧ ∀ j, j < w.length → tx (a + j) = w.getD j 0
  | [], u, a, h => ⟨h, fun j hj => absurd hj (Nat.not_lt_zero j)⟩
  | c :: w, u, a, h => by
    obtain ⟨h1, h2⟩ : tx a = c ∧ Rm tx L (w ++ u) (a + 1) := h
    obtain ⟨h3, h4⟩ := Rm_app h2
    refine ⟨by rw [List.length_cons, show a + (w.length + 1) = a + 1 + w.length by omega]; exact h3, fun j hj => ?_⟩
    cases j with
    | zero => exact h1
    | succ j =>
      have hj' : j < w.length := by rw [List.length_cons] at hj; omega
      rw [show a + (j + 1) = a + 1 + j by omega, h4 j hj']
      rfl
theorem Rm_of : ∀ {u : List Nat} {a : Nat}, L = a + u.length → (∀ i, i < u.length → tx (a + i) = u.getD i 0) → Rm tx L u a
  | [], a, h, _ => h
  | c :: u, a, h, hi => by
    refine ⟨hi 0 (by rw [List.length_cons]; omega), Rm_of (by rw [List.length_cons] at h; omega) (fun i h2 => ?_)⟩
    have := hi (i + 1) (by rw [List.length_cons]; omega)
    rw [show a + (i + 1) = a + 1 + i by omega] at this
    exact this
theorem kb_kc {a : Nat} (h : a < L) : kb tx L a = kc (tx a) := if_pos h
theorem kb_L (tx : Nat → Nat) (L : Nat) : kb tx L L = 0 := if_neg (Nat.lt_irrefl L)
theorem kc_pos (c : Nat) : 1 ≤ kc c := by unfold kc; repeat' split
                                          all_goals decide
theorem kb_nk {u : List Nat} {a : Nat} (h : Rm tx L u a) (hκ : 1 ≤ κ) (hu : nk κ u) : kb tx L a ≠ κ := by
  cases u with
  | nil =>
    have e : L = a := h
    subst e
    rw [kb_L]
    omega
  | cons c u =>
    have hl := Rm_len h
    rw [List.length_cons] at hl
    rw [kb_kc (by omega), h.1]
    exact hu
theorem runE_r (hκ : 1 ≤ κ) {u : List Nat} (hu : nk κ u) : ∀ {w : List Nat} {f a : Nat}, allK κ w = true → Rm tx L (w ++ u) a → w.length ≤ f → runE tx L κ f a = a + w.length
  | [], f, a, _, h, _ => by
    cases f with
    | zero => rfl
    | succ f =>
      rw [runE, if_neg (kb_nk h hκ hu)]
      rfl
  | c :: w, f, a, hw, h, hf => by
    rw [List.length_cons] at hf
    obtain ⟨f, rfl⟩ : ∃ g, f = g + 1 := ⟨f - 1, by omega⟩
    have hl := Rm_len h
    rw [List.length_append, List.length_cons] at hl
    obtain ⟨h1, h2⟩ : tx a = c ∧ Rm tx L (w ++ u) (a + 1) := h
    unfold allK at hw
    rw [List.all_cons, Bool.and_eq_true] at hw
    rw [runE, if_pos (by rw [kb_kc (by omega), h1]; exact of_decide_eq_true hw.1), runE_r hκ hu (w := w) hw.2 h2 (by omega), List.length_cons]
    omega
theorem sp_eq {a : Nat} (h : tx a = 32) (hl : a < L) : tkS tx L a = tkS tx L (a + 1) ∧ tkK tx L a = tkK tx L (a + 1) ∧ tkE tx L a = tkE tx L (a + 1) := by
  have e : tkS tx L a = tkS tx L (a + 1) := by
    unfold tkS
    rw [show L - a = (L - (a + 1)) + 1 by omega, skp, if_pos h]
  have e2 : tkK tx L a = tkK tx L (a + 1) := by unfold tkK; rw [e]
  exact ⟨e, e2, by unfold tkE; rw [e2, e]⟩
/-- a word or a number -/
theorem tok0 (hκ : κ = 1 ∨ κ = 2) {w u : List Nat} {a : Nat} (hw : allK κ w = true) (hne : 0 < w.length) (hu : nk κ u) (h : Rm tx L (w ++ u) a) :
    tkS tx L a = a ∧ tkK tx L a = κ ∧ tkE tx L a = a + w.length ∧ Rm tx L u (a + w.length) ∧ ∀ j, j < w.length → tx (a + j) = w.getD j 0 := by
  obtain ⟨r1, r2⟩ := Rm_app h
  have hl := Rm_len h
  rw [List.length_append] at hl
  cases w with
  | nil => exact absurd hne (Nat.lt_irrefl 0)
  | cons c w =>
    rw [List.length_cons] at hl
    obtain ⟨h1, h2⟩ : tx a = c ∧ Rm tx L (w ++ u) (a + 1) := h
    have hw2 := hw
    unfold allK at hw2
    rw [List.all_cons, Bool.and_eq_true] at hw2
    have hc : kc c = κ := of_decide_eq_true hw2.1
    have hS : tkS tx L a = a := by
      unfold tkS
      rw [show L - a = (L - (a + 1)) + 1 by omega, skp, if_neg]
      intro q
      rw [h1] at q
      rw [q] at hc
      have : kc 32 = 4 := rfl
      omega
    have hK : tkK tx L a = κ := by unfold tkK; rw [hS, kb_kc (by omega), h1, hc]
    refine ⟨hS, hK, ?_, r1, r2⟩
    unfold tkE
    rw [hK, hS, if_neg (by omega), if_pos hκ, runE_r (by omega) hu (w := w) hw2.2 h2 (by omega), List.length_cons]
    omega
/-- behind a space -/
theorem tok1 (hκ : κ = 1 ∨ κ = 2) {w u : List Nat} {a : Nat} (hw : allK κ w = true) (hne : 0 < w.length) (hu : nk κ u) (h : Rm tx L (32 :: (w ++ u)) a) :
    tkS tx L a = a + 1 ∧ tkK tx L a = κ ∧ tkE tx L a = a + 1 + w.length ∧ Rm tx L u (a + 1 + w.length) ∧ ∀ j, j < w.length → tx (a + 1 + j) = w.getD j 0 := by
  have hl := Rm_len h
  rw [List.length_cons] at hl
  obtain ⟨e1, e2, e3⟩ := sp_eq (tx := tx) (L := L) (a := a) h.1 (by omega)
  rw [e1, e2, e3]
  exact tok0 hκ hw hne hu h.2
theorem tok_semi {u : List Nat} {a : Nat} (h : Rm tx L (59 :: u) a) : tkK tx L a = 3 ∧ tkE tx L a = a + 1 := by
  have hl := Rm_len h
  rw [List.length_cons] at hl
  have hS : tkS tx L a = a := by
    unfold tkS
    rw [show L - a = (L - (a + 1)) + 1 by omega, skp, if_neg (by rw [h.1]; decide)]
  have hK : tkK tx L a = 3 := by unfold tkK; rw [hS, kb_kc (by omega), h.1]; rfl
  refine ⟨hK, ?_⟩
  unfold tkE
  rw [hK, hS, if_neg (by decide), if_neg (by decide)]
theorem tok_end {a : Nat} (h : Rm tx L [] a) : tkK tx L a = 0 := by
  have e : L = a := h
  subst e
  have hS : tkS tx L L = L := by unfold tkS; rw [Nat.sub_self]; rfl
  unfold tkK
  rw [hS, kb_L]
/-- words -/
def eqL (w : List Nat) (i : Nat) : Nat → Bool
  | 0 => true
  | n + 1 => eqL w i n && decide (sx (w.getD n 0) = wb i n)
def isWl (w : List Nat) (i : Nat) : Bool := decide (w.length = wl i) && eqL w i (wl i)
def kdL (w : List Nat) : Int32 := if isWl w 5 then 0 else if isWl w 6 then 1 else if isWl w 7 then 2 else if isWl w 8 then 3 else if isWl w 9 then 4 else -1
theorem eqW_L {w : List Nat} {s i : Nat} : ∀ {n : Nat}, (∀ j, j < n → tx (s + j) = w.getD j 0) → eqW tx s i n = eqL w i n
  | 0, _ => rfl
  | n + 1, h => by rw [eqW, eqL, eqW_L (n := n) (fun j hj => h j (by omega)), h n (by omega)]
theorem isW_L {w : List Nat} {a s i : Nat} (hS : tkS tx L a = s) (hK : tkK tx L a = 1) (hE : tkE tx L a = s + w.length) (hj : ∀ j, j < w.length → tx (s + j) = w.getD j 0) : isW tx L a i = isWl w i := by
  unfold isW isWl tkN
  rw [hS, hK, hE, Nat.add_sub_cancel_left]
  by_cases h : w.length = wl i
  · rw [decide_eq_true (⟨rfl, h⟩ : 1 = 1 ∧ w.length = wl i), decide_eq_true h, eqW_L (fun j q => hj j (by omega))]
  · rw [decide_eq_false (fun q : 1 = 1 ∧ w.length = wl i => h q.2), decide_eq_false h, Bool.false_and, Bool.false_and]
theorem kdS_L {w : List Nat} {a s : Nat} (hS : tkS tx L a = s) (hK : tkK tx L a = 1) (hE : tkE tx L a = s + w.length) (hj : ∀ j, j < w.length → tx (s + j) = w.getD j 0) : kdS tx L a = kdL w := by
  unfold kdS kdL
  rw [isW_L hS hK hE hj, isW_L hS hK hE hj, isW_L hS hK hE hj, isW_L hS hK hE hj, isW_L hS hK hE hj]
/-- a name of one letter -/
theorem name1 {x a : Nat} {u : List Nat} (hx : kc x = 1) (hu : nk 1 u) (h : Rm tx L (32 :: ([x] ++ u)) a) : isNm tx L a = true ∧ cdT tx L a = x ∧ Rm tx L u (tkE tx L a) := by
  obtain ⟨h1, h2, h3, h4, h5⟩ := tok1 (w := [x]) (Or.inl rfl) (by unfold allK; simp [hx]) (show 0 < 1 by decide) hu h
  have e : tkN tx L a = 1 := by unfold tkN; rw [h3, h1]; show a + 1 + 1 - (a + 1) = 1; omega
  refine ⟨decide_eq_true ⟨h2, by rw [e]; decide⟩, ?_, by rw [h3]; exact h4⟩
  unfold cdT
  rw [e, h1]
  show 0 * 256 + tx (a + 1 + 0) = x
  rw [h5 0 (show 0 < 1 by decide)]
  show 0 * 256 + x = x
  omega
/-- a number below 100 -/
def dgl (v : Nat) : List Nat := if v < 10 then [48 + v] else [48 + v / 10, 48 + v % 10]
theorem kc_dg {d : Nat} (h : d < 10) : kc (48 + d) = 2 := by
  unfold kc
  rw [if_neg (by omega), if_pos (by omega)]
theorem dgl_k {v : Nat} (hv : v < 100) : allK 2 (dgl v) = true := by
  unfold dgl allK
  split
  · simp [kc_dg (show v < 10 by omega)]
  · simp [kc_dg (show v / 10 < 10 by omega), kc_dg (show v % 10 < 10 by omega)]
theorem dgl_l (v : Nat) : 0 < (dgl v).length ∧ (dgl v).length ≤ 2 := by unfold dgl; split <;> simp
theorem num1 {v a : Nat} {u : List Nat} (hv : v < 100) (hu : nk 2 u) (h : Rm tx L (32 :: (dgl v ++ u)) a) : tkK tx L a = 2 ∧ isNu tx L a = true ∧ nmT tx L a = v ∧ Rm tx L u (tkE tx L a) := by
  obtain ⟨h1, h2, h3, h4, h5⟩ := tok1 (Or.inr rfl) (dgl_k hv) (dgl_l v).1 hu h
  have e : tkN tx L a = (dgl v).length := by unfold tkN; rw [h3, h1]; omega
  refine ⟨h2, decide_eq_true ⟨h2, by rw [e]; exact (dgl_l v).2⟩, ?_, by rw [h3]; exact h4⟩
  unfold nmT
  rw [e, h1]
  unfold dgl at h5 ⊢
  by_cases h10 : v < 10
  · rw [if_pos h10] at h5 ⊢
    show 10 * 0 + (tx (a + 1 + 0) - 48) = v
    rw [h5 0 (show 0 < 1 by decide)]
    show 10 * 0 + (48 + v - 48) = v
    omega
  · rw [if_neg h10] at h5 ⊢
    show 10 * (10 * 0 + (tx (a + 1 + 0) - 48)) + (tx (a + 1 + 1) - 48) = v
    rw [h5 0 (show 0 < 2 by decide), h5 1 (show 1 < 2 by decide)]
    show 10 * (10 * 0 + (48 + v / 10 - 48)) + (48 + v % 10 - 48) = v
    omega
/-- amounts -/
def amsT : List Nat → List Nat
  | [] => []
  | v :: r => 32 :: (dgl v ++ amsT r)
def upL : Nat → List Nat → Prop
  | _, [] => True
  | b, v :: r => b < v ∧ upL v r
theorem nk_ams (r u : List Nat) : nk 2 (amsT r ++ 59 :: u) := by
  cases r with
  | nil => show kc 59 ≠ 2; decide
  | cons v r => show kc 32 ≠ 2; decide
theorem amR_all {most : Nat} (hm : most < 100) {u : List Nat} : ∀ {vs acc : List Nat} {f a b : Nat}, Rm tx L (amsT vs ++ 59 :: u) a → upL b vs → (∀ v ∈ vs, 1 ≤ v ∧ v ≤ most) → (∀ v ∈ acc, v ≤ b) → acc.length + vs.length ≤ 8 → 0 < acc.length + vs.length → vs.length < f →
    ∃ e, amR tx L most f a acc = .inr (acc ++ vs, e) ∧ Rm tx L (59 :: u) e
  | [], acc, f, a, b, h, _, _, _, _, h0, hf => by
    obtain ⟨f, rfl⟩ : ∃ g, f = g + 1 := ⟨f - 1, by have : (0 : Nat) < f := hf; omega⟩
    refine ⟨a, ?_, h⟩
    rw [amR, if_pos ⟨by have : 0 < acc.length + 0 := h0; omega, by rw [(tok_semi h).1]; decide⟩, List.append_nil]
  | v :: r, acc, f, a, b, h, hu, hv, ha, h8, h0, hf => by
    rw [List.length_cons] at hf h8 h0
    obtain ⟨f, rfl⟩ : ∃ g, f = g + 1 := ⟨f - 1, by omega⟩
    obtain ⟨u1, u2⟩ := hu
    obtain ⟨v1, v2⟩ := hv v (by simp)
    have h' : Rm tx L (32 :: (dgl v ++ (amsT r ++ 59 :: u))) a := by
      have e : amsT (v :: r) ++ 59 :: u = 32 :: (dgl v ++ (amsT r ++ 59 :: u)) := by show (32 :: (dgl v ++ amsT r)) ++ 59 :: u = _; simp
      rw [e] at h
      exact h
    obtain ⟨n1, n2, n3, n4⟩ := num1 (by omega) (nk_ams r u) h'
    obtain ⟨e, q1, q2⟩ := amR_all hm (vs := r) (acc := acc ++ [v]) (f := f) (b := v) n4 u2 (fun x hx => hv x (by simp [hx])) (fun x hx => by
      rcases List.mem_append.mp hx with q | q
      · have := ha x q; omega
      · rw [List.mem_singleton] at q; omega) (by rw [List.length_append]; show acc.length + 1 + r.length ≤ 8; omega) (by rw [List.length_append]; show 0 < acc.length + 1 + r.length; omega) (by omega)
    refine ⟨e, ?_, q2⟩
    rw [amR, if_neg (fun q => q.2 n1), n2, if_neg (by decide), n3, if_neg (by omega), if_neg (fun q => by have := ha v q; omega), if_neg (by omega), q1, List.append_assoc]
    rfl
/-- one statement -/
def Step (tx : Nat → Nat) (L : Nat) (S : List Nat) (P P' : PS) : Prop := ∀ (a : Nat) (u : List Nat), Rm tx L (S ++ u) a → tkK tx L a ≠ 0 ∧ ∃ e, rdSt tx L a P = .inr (P', e) ∧ Rm tx L (59 :: u) e
def wRu : List Nat := [114, 117, 108, 101]
def wHe : List Nat := [104, 101, 97, 112]
def wSh : List Nat := [115, 104, 97, 114, 101, 100]
def wPa : List Nat := [112, 97, 115, 115, 101, 115]
def wMi : List Nat := [109, 105, 115, 101, 114, 101]
def wTa : List Nat := [116, 97, 107, 101]
def wDi : List Nat := [100, 105, 118, 105, 115, 111, 114, 115]
def wHa : List Nat := [104, 97, 108, 102]
def wPo : List Nat := [112, 111, 119, 101, 114, 115]
def wSq : List Nat := [115, 113, 117, 97, 114, 101, 115]
theorem step_kind {x : Nat} {w : List Nat} {kk : Nat} {P : PS} (hx : kc x = 1) (hw : w = wDi ∧ kk = 1 ∨ w = wHa ∧ kk = 2 ∨ w = wPo ∧ kk = 3 ∨ w = wSq ∧ kk = 4) (h6 : P.ru.length < 6) (hf : fnR P x = none) :
    Step tx L (wRu ++ (32 :: ([x] ++ (32 :: (w ++ [59]))))) P (P.ru ++ [(x, kk, [])], P.2) := by
  intro a u h
  have e : (wRu ++ (32 :: ([x] ++ (32 :: (w ++ [59]))))) ++ u = wRu ++ (32 :: ([x] ++ (32 :: (w ++ 59 :: u)))) := by simp
  rw [e] at h
  obtain ⟨a1, a2, a3, a4, a5⟩ := tok0 (κ := 1) (Or.inl rfl) (w := wRu) (by decide) (by decide) (nk1_sp _) h
  rw [← a3] at a4
  obtain ⟨b1, b2, b3⟩ := name1 hx (nk1_sp _) a4
  have hk : allK 1 w = true ∧ 0 < w.length ∧ kdL w = nI kk ∧ 1 ≤ kk ∧ kk ≤ 4 := by rcases hw with ⟨rfl, rfl⟩ | ⟨rfl, rfl⟩ | ⟨rfl, rfl⟩ | ⟨rfl, rfl⟩ <;> decide +kernel
  obtain ⟨c1, c2, c3, c4, c5⟩ := tok1 (κ := 1) (Or.inl rfl) hk.1 hk.2.1 (nk1_se _) b3
  have hkd := kdS_L c1 c2 c3 c5
  rw [← c3] at c4
  refine ⟨by rw [a2]; decide, _, ?_, c4⟩
  unfold rdSt
  rw [isW_L (i := 0) a1 a2 a3 a5, if_pos (by decide +kernel)]
  unfold rdRu
  rw [if_neg (by omega), b1, if_neg (by decide), b2, hf, if_neg (fun q => q rfl), hkd, hk.2.2.1]
  obtain ⟨-, -, -, k1, k4⟩ := hk
  rw [if_neg (by rcases (show kk = 1 ∨ kk = 2 ∨ kk = 3 ∨ kk = 4 by omega) with rfl | rfl | rfl | rfl <;> decide), if_neg (by rcases (show kk = 1 ∨ kk = 2 ∨ kk = 3 ∨ kk = 4 by omega) with rfl | rfl | rfl | rfl <;> decide)]
  rw [show (nI kk).toInt.toNat = kk by rw [nI_toInt (by omega), Int.toNat_natCast]]
theorem step_take {x : Nat} {vs : List Nat} {P : PS} (hx : kc x = 1) (h6 : P.ru.length < 6) (hf : fnR P x = none) (hu : upL 0 vs) (hv : ∀ v ∈ vs, 1 ≤ v ∧ v ≤ 60) (h8 : vs.length ≤ 8) (h0 : 0 < vs.length) :
    Step tx L (wRu ++ (32 :: ([x] ++ (32 :: (wTa ++ (amsT vs ++ [59])))))) P (P.ru ++ [(x, 0, vs)], P.2) := by
  intro a u h
  have e : (wRu ++ (32 :: ([x] ++ (32 :: (wTa ++ (amsT vs ++ [59])))))) ++ u = wRu ++ (32 :: ([x] ++ (32 :: (wTa ++ (amsT vs ++ 59 :: u))))) := by simp
  rw [e] at h
  obtain ⟨a1, a2, a3, a4, a5⟩ := tok0 (κ := 1) (Or.inl rfl) (w := wRu) (by decide) (by decide) (nk1_sp _) h
  rw [← a3] at a4
  obtain ⟨b1, b2, b3⟩ := name1 hx (nk1_sp _) a4
  have hnk : nk 1 (amsT vs ++ 59 :: u) := by
    cases vs with
    | nil => exact absurd h0 (Nat.lt_irrefl 0)
    | cons v r => show kc 32 ≠ 1; decide
  obtain ⟨c1, c2, c3, c4, c5⟩ := tok1 (κ := 1) (Or.inl rfl) (w := wTa) (by decide) (by decide) hnk b3
  have hkd := kdS_L c1 c2 c3 c5
  have hk0 : kdL wTa = 0 := by decide +kernel
  rw [← c3] at c4
  obtain ⟨e9, q1, q2⟩ := amR_all (most := 60) (by decide) (vs := vs) (acc := []) (f := 9) (b := 0) c4 hu hv (fun v hv => (List.not_mem_nil hv).elim) (by rw [List.length_nil]; omega) (by rw [List.length_nil]; omega) (by omega)
  refine ⟨by rw [a2]; decide, e9, ?_, q2⟩
  unfold rdSt
  rw [isW_L (i := 0) a1 a2 a3 a5, if_pos (by decide +kernel)]
  unfold rdRu
  rw [if_neg (by omega), b1, if_neg (by decide), b2, hf, if_neg (fun q => q rfl), hkd, hk0, if_neg (by decide), if_pos rfl, q1]
  rfl
theorem step_heap {x v r : Nat} {P : PS} (hx : kc x = 1) (hv : v ≤ 15) (h4 : P.hs.length < 4) (hf : fnR P x = some r) :
    Step tx L (wHe ++ (32 :: ([x] ++ (32 :: (dgl v ++ [59]))))) P (P.ru, P.hs ++ [(r, v)], P.2.2) := by
  intro a u h
  have e : (wHe ++ (32 :: ([x] ++ (32 :: (dgl v ++ [59]))))) ++ u = wHe ++ (32 :: ([x] ++ (32 :: (dgl v ++ 59 :: u)))) := by simp
  rw [e] at h
  obtain ⟨a1, a2, a3, a4, a5⟩ := tok0 (κ := 1) (Or.inl rfl) (w := wHe) (by decide) (by decide) (nk1_sp _) h
  rw [← a3] at a4
  obtain ⟨b1, b2, b3⟩ := name1 hx (nk1_sp _) a4
  obtain ⟨c1, c2, c3, c4⟩ := num1 (v := v) (by omega) (nk2_se _) b3
  refine ⟨by rw [a2]; decide, _, ?_, c4⟩
  unfold rdSt
  rw [isW_L (i := 0) a1 a2 a3 a5, isW_L (i := 1) a1 a2 a3 a5, if_neg (by decide +kernel), if_pos (by decide +kernel)]
  unfold rdHe
  rw [if_neg (by omega), b1, if_neg (by decide), b2, hf]
  show (if isNu tx L (tkE tx L (tkE tx L a)) = false then _ else if 15 < nmT tx L (tkE tx L (tkE tx L a)) then _ else _) = _
  rw [c2, if_neg (by decide), c3, if_neg (by omega)]
theorem step_shared {vs : List Nat} {P : PS} (hs : P.sh = []) (hu : upL 0 vs) (hv : ∀ v ∈ vs, 1 ≤ v ∧ v ≤ 15) (h8 : vs.length ≤ 8) (h0 : 0 < vs.length) :
    Step tx L (wSh ++ (amsT vs ++ [59])) P (P.ru, P.hs, P.ps, P.hp, P.mi, vs) := by
  intro a u h
  have e : (wSh ++ (amsT vs ++ [59])) ++ u = wSh ++ (amsT vs ++ 59 :: u) := by simp
  rw [e] at h
  have hnk : nk 1 (amsT vs ++ 59 :: u) := by
    cases vs with
    | nil => exact absurd h0 (Nat.lt_irrefl 0)
    | cons v r => show kc 32 ≠ 1; decide
  obtain ⟨a1, a2, a3, a4, a5⟩ := tok0 (κ := 1) (Or.inl rfl) (w := wSh) (by decide) (by decide) hnk h
  rw [← a3] at a4
  obtain ⟨e9, q1, q2⟩ := amR_all (most := 15) (by decide) (vs := vs) (acc := []) (f := 9) (b := 0) a4 hu hv (fun v hv => (List.not_mem_nil hv).elim) (by rw [List.length_nil]; omega) (by rw [List.length_nil]; omega) (by omega)
  refine ⟨by rw [a2]; decide, e9, ?_, q2⟩
  unfold rdSt
  rw [isW_L (i := 0) a1 a2 a3 a5, isW_L (i := 1) a1 a2 a3 a5, isW_L (i := 2) a1 a2 a3 a5, if_neg (by decide +kernel), if_neg (by decide +kernel), if_pos (by decide +kernel)]
  unfold rdSh
  rw [if_neg (fun q => q hs), q1]
  rfl
theorem step_passes {v : Nat} {P : PS} (hp : P.hp = false) (hv : v ≤ 3) : Step tx L (wPa ++ (32 :: (dgl v ++ [59]))) P (P.ru, P.hs, v, true, P.mi, P.sh) := by
  intro a u h
  have e : (wPa ++ (32 :: (dgl v ++ [59]))) ++ u = wPa ++ (32 :: (dgl v ++ 59 :: u)) := by simp
  rw [e] at h
  obtain ⟨a1, a2, a3, a4, a5⟩ := tok0 (κ := 1) (Or.inl rfl) (w := wPa) (by decide) (by decide) (nk1_sp _) h
  rw [← a3] at a4
  obtain ⟨c1, c2, c3, c4⟩ := num1 (v := v) (by omega) (nk2_se _) a4
  refine ⟨by rw [a2]; decide, _, ?_, c4⟩
  unfold rdSt
  rw [isW_L (i := 0) a1 a2 a3 a5, isW_L (i := 1) a1 a2 a3 a5, isW_L (i := 2) a1 a2 a3 a5, isW_L (i := 3) a1 a2 a3 a5, if_neg (by decide +kernel), if_neg (by decide +kernel), if_neg (by decide +kernel), if_pos (by decide +kernel)]
  unfold rdPa
  rw [hp, if_neg (by decide), c2, if_neg (by decide), c3, if_neg (by omega)]
theorem step_misere {P : PS} (hm : P.mi = false) : Step tx L (wMi ++ [59]) P (P.ru, P.hs, P.ps, P.hp, true, P.sh) := by
  intro a u h
  have e : (wMi ++ [59]) ++ u = wMi ++ 59 :: u := by simp
  rw [e] at h
  obtain ⟨a1, a2, a3, a4, a5⟩ := tok0 (κ := 1) (Or.inl rfl) (w := wMi) (by decide) (by decide) (nk1_se _) h
  rw [← a3] at a4
  refine ⟨by rw [a2]; decide, _, ?_, a4⟩
  unfold rdSt
  rw [isW_L (i := 0) a1 a2 a3 a5, isW_L (i := 1) a1 a2 a3 a5, isW_L (i := 2) a1 a2 a3 a5, isW_L (i := 3) a1 a2 a3 a5, isW_L (i := 4) a1 a2 a3 a5, if_neg (by decide +kernel), if_neg (by decide +kernel), if_neg (by decide +kernel), if_neg (by decide +kernel), if_pos (by decide +kernel)]
  unfold rdMi
  rw [hm, if_neg (by decide)]
/-- statements one behind another: from P to Q -/
def Steps9 (tx : Nat → Nat) (L : Nat) (T : List Nat) (P Q : PS) : Prop := ∀ (a : Nat) (u : List Nat) (f : Nat), Rm tx L (T ++ u) a → T.length + u.length ≤ f → ∃ f' e, rdTx tx L f a P = rdTx tx L f' e Q ∧ Rm tx L u e ∧ u.length ≤ f'
theorem Steps9.nil (P : PS) : Steps9 tx L [] P P := fun a u f h hf => ⟨f, a, rfl, h, by rw [List.length_nil] at hf; omega⟩
theorem Steps9.one {S : List Nat} {P P' : PS} (h : Step tx L S P P') (hl : 0 < S.length) : Steps9 tx L S P P' := by
  intro a u f hr hf
  obtain ⟨k1, e, k2, k3⟩ := h a u hr
  obtain ⟨f, rfl⟩ : ∃ g, f = g + 1 := ⟨f - 1, by omega⟩
  obtain ⟨s1, s2⟩ := tok_semi k3
  refine ⟨f, e + 1, ?_, k3.2, by omega⟩
  rw [rdTx, if_neg k1, k2]
  show (if tkK tx L e ≠ 3 then _ else rdTx tx L f (tkE tx L e) P') = _
  rw [if_neg (fun q => q s1), s2]
theorem Steps9.app {T1 T2 : List Nat} {P Q R : PS} (h1 : Steps9 tx L T1 P Q) (h2 : Steps9 tx L T2 Q R) : Steps9 tx L (T1 ++ T2) P R := by
  intro a u f hr hf
  rw [List.append_assoc] at hr
  rw [List.length_append] at hf
  obtain ⟨f1, e1, q1, q2, q3⟩ := h1 a (T2 ++ u) f hr (by rw [List.length_append]; omega)
  rw [List.length_append] at q3
  obtain ⟨f2, e2, r1, r2, r3⟩ := h2 e1 u f1 q2 q3
  exact ⟨f2, e2, q1.trans r1, r2, r3⟩
theorem Steps9.read {T : List Nat} {Q : PS} (h : Steps9 tx T.length T PS.nil Q) (ht : ∀ i, i < T.length → tx i = T.getD i 0) : rdF tx T.length = .inr Q := by
  obtain ⟨f, e, q1, q2, -⟩ := h 0 [] (T.length + 1) (by rw [List.append_nil]; exact Rm_of (by omega) (fun i hi => by rw [Nat.zero_add]; exact ht i hi)) (by rw [List.length_nil]; omega)
  unfold rdF
  rw [q1]
  cases f with
  | zero => rfl
  | succ f => rw [rdTx, if_pos (tok_end q2)]
/-- the rules are called a, b, c .. -/
def nmP (P : PS) (m : Nat) : Prop := P.ru.length = m ∧ ∀ k, k < m → P.nm k = 97 + k
theorem perF_none {q : Nat → Bool} : ∀ {f s : Nat}, (∀ j, s ≤ j → j < s + f → q j = false) → perF q f s = none
  | 0, s, _ => rfl
  | f + 1, s, h => by rw [perF, if_neg (by rw [h s (Nat.le_refl _) (by omega)]; decide), perF_none (fun j h1 h2 => h j (by omega) (by omega))]
theorem perF_at {q : Nat → Bool} {m : Nat} (hm : q m = true) : ∀ {f s : Nat}, s ≤ m → m < s + f → (∀ j, s ≤ j → j < m → q j = false) → perF q f s = some m
  | 0, s, h1, h2, _ => by omega
  | f + 1, s, h1, h2, h => by
    rw [perF]
    by_cases e : s = m
    · subst e; rw [if_pos hm]
    · rw [if_neg (by rw [h s (Nat.le_refl _) (by omega)]; decide)]
      exact perF_at hm (by omega) (by omega) (fun j a b => h j (by omega) b)
theorem nmP.new {P : PS} {m : Nat} (h : nmP P m) : fnR P (97 + m) = none := by
  unfold fnR
  rw [h.1]
  exact perF_none (fun j _ h2 => decide_eq_false (by rw [h.2 j (by omega)]; omega))
theorem nmP.old {P : PS} {m j : Nat} (h : nmP P m) (hj : j < m) : fnR P (97 + j) = some j := by
  unfold fnR
  rw [h.1]
  exact perF_at (decide_eq_true (h.2 j hj)) (Nat.zero_le _) (by omega) (fun i _ h2 => decide_eq_false (by rw [h.2 i (by omega)]; omega))
theorem nmP.add {P : PS} {m kk : Nat} {vs : List Nat} (h : nmP P m) : nmP (P.ru ++ [(97 + m, kk, vs)], P.2) (m + 1) := by
  refine ⟨by show (P.ru ++ [_]).length = m + 1; rw [List.length_append, h.1]; rfl, fun k hk => ?_⟩
  show ((P.ru ++ [(97 + m, kk, vs)]).getD k (0, 0, [])).1 = 97 + k
  rcases Nat.lt_or_ge k m with q | q
  · have := h.2 k q
    unfold PS.nm at this
    rw [← this, List.getD_eq_getElem?_getD, List.getD_eq_getElem?_getD, List.getElem?_append_left (by have := h.1; omega)]
  · obtain rfl : k = m := by omega
    rw [List.getD_eq_getElem?_getD, List.getElem?_append_right (by have := h.1; omega), h.1, Nat.sub_self]
    rfl
theorem kc_let {k : Nat} (h : k < 26) : kc (97 + k) = 1 := by unfold kc; rw [if_pos (by omega)]
end RD
