/-! ROWS: the objects numbered anew from m on: what was there is told of no more, the next thing made is number n9 -/
def g_mv (E : GE) (h m n9 : Nat) : GE := (E.1, E.2.1, E.2.2.1, (E.2.2.2.1.1, (fun o => if o < m then E.2.2.2.1.2.1 o else h + (o - n9)), (fun o => if o < m then E.2.2.2.1.2.2 o else decide (n9 ≤ o))), E.2.2.2.2)
def cutI (m : Nat) (I : Nat → Nat → Int32) : Nat → Nat → Int32 := fun o k => if o < m then I o k else 0
def cutJ (m : Nat) (J : Nat → Nat → Int64) : Nat → Nat → Int64 := fun o k => if o < m then J o k else 0
def cutR (m : Nat) (R : Nat → Nat → Option Nat) : Nat → Nat → Option Nat := fun o k => if o < m then R o k else none
def cutD (m : Nat) (D : Nat → Nat → UInt64) : Nat → Nat → UInt64 := fun o k => if o < m then D o k else 0
def g_bd (m : Nat) (R : Nat → Nat → Option Nat) : Prop := ∀ o k c, o < m → R o k = some c → c < m
def g_okv (m : Nat) (v : Value) : Bool := match v with
  | .ref a => decide (a < m ∨ 1000 ≤ a)
  | _ => true
section MV
variable {E : GE} {h m n9 : Nat}
theorem mv_ad {o : Nat} (ho : o < m ∨ 1000 ≤ o) : g_ad (g_mv E h m n9) o = g_ad E o := by
  unfold g_ad
  by_cases h1 : o < 1000
  · rw [if_pos h1, if_pos h1]
    show (if o < m then E.2.2.2.1.2.1 o else _) = _
    rw [if_pos (by omega)]
  · rw [if_neg h1, if_neg h1]
    rfl
theorem mv_adn {o : Nat} (h1 : m ≤ o) (h2 : o < 1000) : g_ad (g_mv E h m n9) o = h + (o - n9) := by
  unfold g_ad
  rw [if_pos h2]
  show (if o < m then E.2.2.2.1.2.1 o else _) = _
  rw [if_neg (by omega)]
theorem mv_lv {o : Nat} (ho : o < m) : g_lv (g_mv E h m n9) o ↔ g_lv E o := by
  unfold g_lv
  show (_ ∨ (if o < m then E.2.2.2.1.2.2 o else decide (n9 ≤ o)) = true) ↔ _
  rw [if_pos ho]
theorem mv_new {o : Nat} (h1 : m ≤ o) (h2 : n9 ≤ o) : g_lv (g_mv E h m n9) o := by
  refine Or.inr ?_
  show (if o < m then E.2.2.2.1.2.2 o else decide (n9 ≤ o)) = true
  rw [if_neg (by omega)]
  exact decide_eq_true h2
theorem mv_cv {v : Value} (hv : g_okv m v = true) : cv (g_mv E h m n9) v = cv E v := by
  cases v with
  | ref a => exact congrArg Value.ref (mv_ad (of_decide_eq_true hv))
  | _ => rfl
theorem mv_val {w : GW} {ty : FieldType} {o k : Nat} (hb : g_bd m w.2.2.1) (ho : o < m) : cv (g_mv E h m n9) (g_val w ty o k) = cv E (g_val w ty o k) := by
  refine mv_cv ?_
  have hr : g_okv m (va_rf (w.2.2.1 o k)) = true := by
    cases hc : w.2.2.1 o k with
    | none => rfl
    | some c => exact decide_eq_true (Or.inl (hb o k c ho hc))
  cases ty with
  | object C => exact hr
  | array C => exact hr
  | _ => rfl
theorem mv_at {w w' : GW} {H : Heap} {o : Nat} (hb : g_bd m w.2.2.1) (ho : o < m) (hw : ∀ ty k, g_val w' ty o k = g_val w ty o k) : g_at (g_mv E h m n9) w' H o ↔ g_at E w H o := by
  unfold g_at
  rw [mv_ad (Or.inl ho)]
  have e : ∀ ty k, cv (g_mv E h m n9) (g_val w' ty o k) = cv E (g_val w ty o k) := fun ty k => by rw [hw, mv_val hb ho]
  have e1 : (fun k => cv (g_mv E h m n9) (g_val w' (g_ft (g_ob o).1 k) o k)) = (fun k => cv E (g_val w (g_ft (g_ob o).1 k) o k)) := funext fun k => e _ k
  have e2 : (fun k => cv (g_mv E h m n9) (g_val w' (g_et (g_ob o).1) o k)) = (fun k => cv E (g_val w (g_et (g_ob o).1) o k)) := funext fun k => e _ k
  rw [e1, e2]
  exact Iff.rfl
theorem cut_val {w : GW} {a : Nat} {b : Bool} {o : Nat} (ho : o < m) (ty : FieldType) (k : Nat) : g_val ((cutI m w.1, cutJ m w.2.1, cutR m w.2.2.1, cutD m w.2.2.2.1, a, b) : GW) ty o k = g_val w ty o k := by
  cases ty <;> simp [g_val, cutI, cutJ, cutR, cutD, ho]
theorem mv_Rp {w : GW} {H : Heap} (hR : g_Rp E w H) (hm : m ≤ w.2.2.2.2.1) (hn : m ≤ n9) (hn9 : n9 ≤ 1000) (hd : ∀ o, m ≤ o → o < n9 → 15 ≤ (g_ob o).1) (hb : g_bd m w.2.2.1) :
    g_Rp (g_mv E H.size m n9) (cutI m w.1, cutJ m w.2.1, cutR m w.2.2.1, cutD m w.2.2.2.1, n9, true) H := by
  obtain ⟨r1, r2, r3, r4, r5⟩ := hR
  have hlt : ∀ o, o < n9 → g_lv (g_mv E H.size m n9) o → o < m := by
    intro o ho hl
    rcases Nat.lt_or_ge o m with q | q
    · exact q
    · exfalso
      rcases hl with hl | hl
      · have := hd o q ho
        omega
      · have hl' : (if o < m then E.2.2.2.1.2.2 o else decide (n9 ≤ o)) = true := hl
        rw [if_neg (by omega)] at hl'
        have := of_decide_eq_true hl'
        omega
  refine ⟨r1, fun _ o h1 h2 => mv_adn (by have h1' : n9 ≤ o := h1; omega) h2, hn9, fun o ho hl => ?_, fun a b ha hb' la lb he => ?_⟩
  · have hom := hlt o ho hl
    obtain ⟨s1, s2, s3⟩ := r4 o (by omega) ((mv_lv hom).mp hl)
    rw [mv_ad (Or.inl hom)]
    exact ⟨s1, s2, (mv_at hb hom (fun ty k => cut_val hom ty k)).mpr s3⟩
  · have h1 := hlt a ha la
    have h2 := hlt b hb' lb
    rw [mv_ad (Or.inl h1), mv_ad (Or.inl h2)] at he
    exact r5 a b (by omega) (by omega) ((mv_lv h1).mp la) ((mv_lv h2).mp lb) he
theorem bk_Rp {w : GW} {H : Heap} (hR : g_Rp (g_mv E h m n9) w H) (hm : m ≤ w.2.2.2.2.1) (hb : g_bd m w.2.2.1) : g_Rp E (w.1, w.2.1, w.2.2.1, w.2.2.2.1, m, false) H := by
  obtain ⟨r1, r2, r3, r4, r5⟩ := hR
  refine ⟨r1, (fun q => by cases q), (by show m ≤ 1000; omega), fun o ho hl => ?_, fun a b ha hb' la lb he => ?_⟩
  · have ho' : o < m := ho
    obtain ⟨s1, s2, s3⟩ := r4 o (by omega) ((mv_lv ho').mpr hl)
    rw [mv_ad (Or.inl ho')] at s1 s2
    exact ⟨s1, s2, (mv_at hb ho' (fun ty k => by cases ty <;> rfl)).mp s3⟩
  · have h1 : a < m := ha
    have h2 : b < m := hb'
    refine r5 a b (by omega) (by omega) ((mv_lv h1).mpr la) ((mv_lv h2).mpr lb) ?_
    rw [mv_ad (Or.inl h1), mv_ad (Or.inl h2)]
    exact he
variable {l : Launch} {μ : GM} {Rm : Room} {Φ : List Frame → Array Value → State → State → Prop} {uc us pc : Nat} {ls : List (Nat × Value)} {st : List Value}
variable {I : Nat → Nat → Int32} {J : Nat → Nat → Int64} {R : Nat → Nat → Option Nat} {D : Nat → Nat → UInt64} {n : Nat} {ex : Bool}
theorem mv_ls (hls : ls.all (fun q => g_okv m q.2) = true) : g_ls (g_mv E h m n9) ls = g_ls E ls := by
  unfold g_ls
  refine List.map_congr_left (fun q hq => ?_)
  rw [mv_cv (List.all_eq_true.mp hls q hq)]
theorem mv_st (hst : st.all (g_okv m) = true) : st.map (cv (g_mv E h m n9)) = st.map (cv E) :=
  List.map_congr_left (fun q hq => mv_cv (List.all_eq_true.mp hst q hq))
/-- forth -/
theorem w_mv (m n9 : Nat) (hm : m ≤ n) (hn : m ≤ n9) (hn9 : n9 ≤ 1000) (hd : ∀ o, m ≤ o → o < n9 → 15 ≤ (g_ob o).1) (hb : g_bd m R) (hls : ls.all (fun q => g_okv m q.2) = true) (hst : st.all (g_okv m) = true)
    (k : ∀ h, g_Wp (g_mv E h m n9) l μ Rm Φ uc us pc ls st (cutI m I, cutJ m J, cutR m R, cutD m D, n9, true)) : g_Wp E l μ Rm Φ uc us pc ls st (I, J, R, D, n, ex) := by
  intro p e s mm args below meth c H locs lsA C hR hS hl
  have kk := k H.size p e s mm args below meth c H locs lsA C (mv_Rp hR hm hn hn9 hd hb) hS (by rw [mv_ls hls]; exact hl)
  rw [mv_st hst] at kk
  exact kk
/-- and back -/
theorem w_bk (hm : m ≤ n) (hb : g_bd m R) (hls : ls.all (fun q => g_okv m q.2) = true) (hst : st.all (g_okv m) = true)
    (k : g_Wp E l μ Rm Φ uc us pc ls st (I, J, R, D, m, false)) : g_Wp (g_mv E h m n9) l μ Rm Φ uc us pc ls st (I, J, R, D, n, ex) := by
  intro p e s mm args below meth c H locs lsA C hR hS hl
  rw [mv_ls hls] at hl
  have kk := k p e s mm args below meth c H locs lsA C (bk_Rp hR hm hb) hS hl
  rw [mv_st hst]
  exact kk
end MV
theorem g_bd.mono {m m' : Nat} {R : Nat → Nat → Option Nat} (h : ∀ o k c, R o k = some c → c < m) (_ : m ≤ m') : g_bd m' R := fun o k c _ hc => by have := h o k c hc; omega
section LKM
variable {R R' : Nat → Nat → Option Nat} {N N' : Nat} {sw : Bool}
theorem isS.mono {s : Nat} (h : isS R N s) (hn : N ≤ N') : isS R N' s := ⟨h.1, by have := h.2.1; omega, h.2.2⟩
theorem isR.mono {s : Nat} (h : isR R N s) (hn : N ≤ N') : isR R N' s := ⟨h.1, by have := h.2.1; omega, h.2.2⟩
theorem isG.mono {s : Nat} (h : isG R N s) (hn : N ≤ N') : isG R N' s := ⟨h.1, by have := h.2.1; omega, h.2.2.1, h.2.2.2.1, h.2.2.2.2.1, h.2.2.2.2.2.1.mono hn, fun k hk => ⟨(h.2.2.2.2.2.2 k hk).1, (h.2.2.2.2.2.2 k hk).2.mono hn⟩⟩
theorem lk.mono (h : lk R N sw) (hn : N ≤ N') : lk R N' sw := by
  obtain ⟨h1, h2, h3, h4, h5, h6, h7, h8, h9, h10, h11, h12, h13, h14, h15, h16, h17⟩ := h
  exact ⟨h1.mono hn, h2.mono hn, ⟨by have := h3.1; omega, h3.2⟩, ⟨by have := h4.1; omega, h4.2.1, fun i hi => ⟨(h4.2.2 i hi).1, (h4.2.2 i hi).2.mono hn⟩⟩, h5, h6, h7, h8, h9, h10, h11, h12, h13, h14, h15.mono hn, h16.mono hn, by omega⟩
end LKM
