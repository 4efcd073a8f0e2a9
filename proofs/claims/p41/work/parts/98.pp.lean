/-! what the moves of a position tell -/
abbrev dR : Rs := (false, 0, 0)
def lmF (os : List Rs) : Nat → Nat
  | 0 => 1000
  | i + 1 => if (os.getD i dR).1 then lmF os i else min (lmF os i) (os.getD i dR).2.1
def mxF (os : List Rs) : Nat → Nat
  | 0 => 0
  | i + 1 => max (mxF os i) (os.getD i dR).2.1
def htF (os : List Rs) (v : Nat) : Nat → Bool
  | 0 => false
  | i + 1 => htF os v i || decide ((os.getD i dR).2.2 = v)
section PP
variable {os : List Rs}
theorem tk_s {i : Nat} (h : i < os.length) : os.take (i + 1) = os.take i ++ [os.getD i dR] := by
  rw [List.take_succ, List.getD_eq_getElem?_getD, List.getElem?_eq_getElem h]
  rfl
theorem getD_mem {i : Nat} (h : i < os.length) : os.getD i dR ∈ os := by
  rw [List.getD_eq_getElem?_getD, List.getElem?_eq_getElem h]
  exact List.getElem_mem h
theorem htF_eq (v : Nat) : ∀ i, i ≤ os.length → htF os v i = hitO (os.take i) v
  | 0, _ => rfl
  | i + 1, h => by rw [htF, htF_eq v i (by omega), tk_s (by omega), hitO_snoc]
theorem mxF_eq : ∀ i, i ≤ os.length → mxF os i = allMax (os.take i)
  | 0, _ => rfl
  | i + 1, h => by rw [mxF, mxF_eq i (by omega), tk_s (by omega), allMax_snoc]
theorem lmF_eq (hb : ∀ x ∈ os, x.2.1 < 63) : ∀ i, i ≤ os.length → (lmF os i = lostMin (os.take i) ∧ lostMin (os.take i) < 63) ∨ (lmF os i = 1000 ∧ lostMin (os.take i) = 64)
  | 0, _ => Or.inr ⟨rfl, rfl⟩
  | i + 1, h => by
    have h1 := hb _ (getD_mem (os := os) (i := i) (by omega))
    rw [lmF, tk_s (by omega), lostMin_snoc]
    rcases lmF_eq hb i (by omega) with ⟨e1, e2⟩ | ⟨e1, e2⟩
    · split
      · exact Or.inl ⟨e1, e2⟩
      · left; omega
    · split
      · exact Or.inr ⟨e1, e2⟩
      · left; omega
theorem wn_lm (hb : ∀ x ∈ os, x.2.1 < 63) : ∀ i, i ≤ os.length → (0 < wnF os i ↔ lmF os i < 1000)
  | 0, _ => by simp [wnF, lmF]
  | i + 1, h => by
    have h1 := hb _ (getD_mem (os := os) (i := i) (by omega))
    have h2 := wn_lm hb i (by omega)
    rw [wnF, lmF]
    split
    · rw [Nat.add_zero]; exact h2
    · constructor
      · intro _; omega
      · intro _; omega
theorem comb_won (hb : ∀ x ∈ os, x.2.1 < 63) (hne : os ≠ []) (mi : Bool) : (comb mi os).1 = decide (0 < wnF os os.length) := by
  have h := lmF_eq hb os.length (Nat.le_refl _)
  have h2 := wn_lm hb os.length (Nat.le_refl _)
  rw [List.take_length] at h
  unfold comb
  rw [if_neg hne]
  show decide (lostMin os < 64) = _
  rw [decide_eq_decide, h2]
  omega
theorem comb_len (hb : ∀ x ∈ os, x.2.1 < 63) (hne : os ≠ []) (mi : Bool) : (comb mi os).2.1 = 1 + (if 0 < wnF os os.length then lmF os os.length else mxF os os.length) := by
  have h := lmF_eq hb os.length (Nat.le_refl _)
  have h2 := wn_lm hb os.length (Nat.le_refl _)
  have h3 := mxF_eq (os := os) os.length (Nat.le_refl _)
  rw [List.take_length] at h h3
  unfold comb
  rw [if_neg hne]
  show 1 + (if lostMin os < 64 then lostMin os else allMax os) = _
  by_cases hw : 0 < wnF os os.length
  · rw [if_pos hw, if_pos (by omega)]; omega
  · rw [if_neg hw, if_neg (by omega)]; omega
/-- the least value that no option has, of so many places -/
theorem comb_val (hb : ∀ x ∈ os, x.2.2 < 63) (hne : os ≠ []) (mi : Bool) {m : Nat} (h1 : ∀ j, j < m → htF os j os.length = true) (h2 : htF os m os.length = false) : (comb mi os).2.2 = m := by
  have e : ∀ v, htF os v os.length = hitO os v := fun v => by rw [htF_eq v _ (Nat.le_refl _), List.take_length]
  have hm : m < 64 := by
    rcases Nat.lt_or_ge m 64 with q | q
    · exact q
    · exfalso
      have h3 := h1 63 (by omega)
      rw [e] at h3
      unfold hitO at h3
      rw [List.any_eq_true] at h3
      obtain ⟨x, hx, h4⟩ := h3
      have := hb x hx
      have := of_decide_eq_true h4
      omega
  unfold comb
  rw [if_neg hne]
  show firstN (hitO os) 64 0 = m
  exact firstN_uniq _ (fun j _ hj => by rw [← e]; exact h1 j hj) (by rw [← e]; exact h2) (Nat.zero_le _) (by omega)
theorem comb_nil (mi : Bool) : comb mi [] = (mi, 0, 0) := rfl
theorem htF_big (hb : ∀ x ∈ os, x.2.2 < 63) {v : Nat} (hv : 63 ≤ v) : ∀ i, i ≤ os.length → htF os v i = false
  | 0, _ => rfl
  | i + 1, h => by
    have h1 := hb _ (getD_mem (os := os) (i := i) (by omega))
    rw [htF, htF_big hb hv i (by omega), Bool.false_or]
    exact decide_eq_false (by omega)
theorem bs_ok (hb : ∀ x ∈ os, x.2.1 < 63) : ∀ i b, i ≤ os.length → bsF os i = some b →
    ((os.getD b dR).1 = false ∧ (os.getD b dR).2.1 = lmF os i ∧ lmF os i < 1000) ∨ ((os.getD b dR).1 = true ∧ lmF os i = 1000 ∧ (os.getD b dR).2.1 = mxF os i)
  | 0, b, _, h => by cases h
  | i + 1, b, hi, h => by
    have h1 := hb _ (getD_mem (os := os) (i := i) (by omega))
    rw [bsF] at h
    rw [lmF, mxF]
    cases hx : (os.getD i dR).1 with
    | false =>
      rw [if_neg (by decide)]
      cases hc : bsF os i with
      | none =>
        rw [hc] at h
        cases h
        rw [hx]
        have hi0 : i = 0 := by
          rcases Nat.eq_zero_or_pos i with q | q
          · exact q
          · obtain ⟨b, hb'⟩ := bsF_pos (os := os) q
            rw [hc] at hb'; cases hb'
        subst hi0
        exact Or.inl ⟨rfl, by show _ = min 1000 _; omega, by show min 1000 _ < _; omega⟩
      | some y =>
        rw [hc] at h
        rcases bs_ok hb i y (by omega) hc with ⟨q1, q2, q3⟩ | ⟨q1, q2, q3⟩
        · have hbt : btr (os.getD i dR) (os.getD y dR) = decide ((os.getD i dR).2.1 < (os.getD y dR).2.1) := by unfold btr; rw [hx, q1]; rfl
          have h' : (if btr (os.getD i dR) (os.getD y dR) then some i else some y) = some b := h
          rw [hbt] at h'
          by_cases hl : (os.getD i dR).2.1 < (os.getD y dR).2.1
          · rw [if_pos (decide_eq_true hl)] at h'
            cases h'
            exact Or.inl ⟨hx, by omega, by omega⟩
          · rw [if_neg (by simpa using hl)] at h'
            cases h'
            exact Or.inl ⟨q1, by omega, by omega⟩
        · have hbt : btr (os.getD i dR) (os.getD y dR) = true := by unfold btr; rw [hx, q1]; rfl
          have h' : (if btr (os.getD i dR) (os.getD y dR) then some i else some y) = some b := h
          rw [hbt, if_pos rfl] at h'
          cases h'
          exact Or.inl ⟨hx, by omega, by omega⟩
    | true =>
      rw [if_pos rfl]
      cases hc : bsF os i with
      | none =>
        rw [hc] at h
        cases h
        have hi0 : i = 0 := by
          rcases Nat.eq_zero_or_pos i with q | q
          · exact q
          · obtain ⟨b, hb'⟩ := bsF_pos (os := os) q
            rw [hc] at hb'; cases hb'
        subst hi0
        exact Or.inr ⟨hx, rfl, by show _ = max 0 _; omega⟩
      | some y =>
        rw [hc] at h
        rcases bs_ok hb i y (by omega) hc with ⟨q1, q2, q3⟩ | ⟨q1, q2, q3⟩
        · have hbt : btr (os.getD i dR) (os.getD y dR) = false := by unfold btr; rw [hx, q1]; rfl
          have h' : (if btr (os.getD i dR) (os.getD y dR) then some i else some y) = some b := h
          rw [hbt, if_neg (by decide)] at h'
          cases h'
          exact Or.inl ⟨q1, q2, q3⟩
        · have hbt : btr (os.getD i dR) (os.getD y dR) = decide ((os.getD y dR).2.1 < (os.getD i dR).2.1) := by unfold btr; rw [hx, q1]; rfl
          have h' : (if btr (os.getD i dR) (os.getD y dR) then some i else some y) = some b := h
          rw [hbt] at h'
          by_cases hl : (os.getD y dR).2.1 < (os.getD i dR).2.1
          · rw [if_pos (decide_eq_true hl)] at h'
            cases h'
            exact Or.inr ⟨hx, q2, by omega⟩
          · rw [if_neg (by simpa using hl)] at h'
            cases h'
            exact Or.inr ⟨q1, q2, by omega⟩
end PP
