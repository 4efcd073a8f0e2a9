/-! ROWS that touch the world: fields, arrays, returns, calls, throws -/
def up2 {α : Type} (f : Nat → Nat → α) (o k : Nat) (v : α) : Nat → Nat → α := fun a b => if a = o ∧ b = k then v else f a b
theorem up2_s {α : Type} (f : Nat → Nat → α) (o k : Nat) (v : α) : up2 f o k v o k = v := by simp [up2]
theorem up2_n {α : Type} (f : Nat → Nat → α) {o k a b : Nat} (v : α) (h : ¬ (a = o ∧ b = k)) : up2 f o k v a b = f a b := if_neg h
theorem g_T1 : ∀ c, c < 8 → ∀ k, k < g_N c → (g_T c k).1 = g_D c := by decide +kernel
theorem g_parse : ∀ c, c < 8 → ∀ k, k < g_N c → parseFieldDescriptor (g_T c k).2.2.1 = some (g_ft c k) := by decide +kernel
theorem g_nm : ∀ c, c < 8 → ∀ a, a < g_N c → ∀ b, b < g_N c → a ≠ b → (g_T c a).2.1 ≠ (g_T c b).2.1 := by
  intro c hc
  rcases (show c = 0 ∨ c = 1 ∨ c = 2 ∨ c = 3 ∨ c = 4 ∨ c = 5 ∨ c = 6 ∨ c = 7 by omega) with rfl | rfl | rfl | rfl | rfl | rfl | rfl | rfl
  · exact nmX0
  · exact nmX1
  · exact nmX2
  · exact nmX3
  · exact nmX4
  · exact nmX5
  · exact nmX6
  · exact nmJ4
theorem g_uin : ∀ c, c < 8 → ∀ w ∈ u_ws (g_R c) (g_T c) (g_N c), w ∈ gw := by
  intro c hc w hw
  have hg : goodWord w = true := by
    obtain ⟨k, -, rfl⟩ := List.mem_map.mp hw
    unfold u_lay
    split <;> rfl
  refine gw_in (List.mem_append_right _ ?_) hg
  rcases (show c = 0 ∨ c = 1 ∨ c = 2 ∨ c = 3 ∨ c = 4 ∨ c = 5 ∨ c = 6 ∨ c = 7 by omega) with rfl | rfl | rfl | rfl | rfl | rfl | rfl | rfl
  · exact (by decide +kernel : ∀ w ∈ u_ws RX0 TX0 4, w ∈ tables_1) w hw
  · exact (by decide +kernel : ∀ w ∈ u_ws RX1 TX1 3, w ∈ tables_1) w hw
  · exact (by decide +kernel : ∀ w ∈ u_ws RX2 TX2 5, w ∈ tables_1) w hw
  · exact (by decide +kernel : ∀ w ∈ u_ws RX3 TX3 9, w ∈ tables_1) w hw
  · exact (by decide +kernel : ∀ w ∈ u_ws RX4 TX4 6, w ∈ tables_1) w hw
  · exact (by decide +kernel : ∀ w ∈ u_ws RX5 TX5 10, w ∈ tables_1) w hw
  · exact (by decide +kernel : ∀ w ∈ u_ws RX6 TX6 6, w ∈ tables_1) w hw
  · exact (by decide +kernel : ∀ w ∈ u_ws RJ4 TJ4 4, w ∈ tables_1) w hw
theorem g_obl : ∀ q ∈ g_obL, q.2 ≤ 262144 := by decide +kernel
theorem g_len (o : Nat) : (g_ob o).2 < 2 ^ 31 := by
  unfold g_ob
  rw [List.getD_eq_getElem?_getD]
  cases h : g_obL[o]? with
  | none => show 0 < 2 ^ 31; decide
  | some q =>
    have := g_obl q (List.mem_of_getElem? h)
    show q.2 < 2 ^ 31
    omega
section GM1
variable {E : GE} {l : Launch} {μ : GM} {R : Room} {Φ : List Frame → Array Value → State → State → Prop} {uc us pc : Nat} {ls : List (Nat × Value)} {st : List Value} {w w' : GW}
/-- one place of one object is written anew: the world behind it -/
theorem g_Rp.put {H H1 : Heap} {o k : Nat} (hR : g_Rp E w H) (hn : o < w.2.2.2.2.1) (hlv : g_lv E o) (hsz : w'.2.2.2.2 = w.2.2.2.2) (hw : ∀ ty o' k', ¬ (o' = o ∧ k' = k) → g_val w' ty o' k' = g_val w ty o' k')
    (z : H1.size = H.size) (oq : ∀ q : Nat, q ≠ g_ad E o → H1[q]? = H[q]?) (ha : g_at E w' H1 o) : g_Rp E w' H1 := by
  obtain ⟨r1, r2, r3, r4, r5⟩ := hR
  refine ⟨by rw [z]; exact r1, by rw [hsz, z]; exact r2, by rw [hsz]; exact r3, fun o' ho' hl' => ?_, by rw [hsz]; exact r5⟩
  rw [hsz] at ho'
  obtain ⟨s1, s2, s3⟩ := r4 o' ho' hl'
  refine ⟨s1, by rw [z]; exact s2, ?_⟩
  by_cases h : o' = o
  · subst h; exact ha
  · have hk := s3.kept (oq (g_ad E o') (fun q => h (r5 _ _ ho' hn hl' hlv q)))
    refine ⟨fun h8 => (hk.1 h8).to (fun j _ => ?_), fun h8 => ?_⟩
    · rw [hw _ o' j (fun q => h q.1)]
    · rw [hk.2 h8]
      congr 2
      funext j
      rw [hw _ o' j (fun q => h q.1)]
theorem w_get {idx o ci k : Nat} {v : Value} (hd : decode μ.2.1 pc = .ok (.getfield idx, 3)) (ho : (g_ob o).1 = ci) (hc : ci < 8) (hk : k < g_N ci) (hn : o < w.2.2.2.2.1) (hl : Cond.fieldLink μ.1.cls idx (g_D ci) (g_T ci k).2.1 (g_T ci k).2.2.1 ∈ gw)
    (hv : g_val w (g_ft ci k) o k = v) (kk : g_Wp E l μ R Φ uc us (pc + 3) ls (v :: st) w) : g_Wp E l μ R Φ uc us pc ls (.ref o :: st) w := by
  intro p e s m args below meth c H locs lsA C hR hS hl9
  obtain ⟨hx, hb, hml, hown, hts, hret, hlk, het, hnm, hK, hb0⟩ := id C
  have hat := (hR.at hn (g_lvk ho (by omega))).1 (by rw [ho]; exact hc)
  rw [ho] at hat
  obtain ⟨cell, q1, q2, q3, q4⟩ := hat
  obtain ⟨hS', hfc, kC, hkC, hkind⟩ := hK.2.1.1 ci _ (g_clat hc)
  obtain ⟨cf, kf, fi, f, hi, hsl⟩ := hS' k hk
  show W p l e R s m args below meth c H locs uc us (Φ below args s) (F0 m pc lsA (.ref (g_ad E o) :: st.map (cv E)))
  refine W.getf hx hb hown (hts _ (g_mwgw μ _ hl)) (by rw [← g_T1 ci hc k hk]; exact hi) (u_facts hfc hkC (u_lays (ws := g_mw μ) hts (fun w hw => g_mwgw μ _ (g_uin ci hc w hw)) hk) hi).1 q1 (by rw [q3]; exact fun h => by cases h) (v := cv E v) ?_ rfl rfl hd (kk p e s m args below meth c H locs lsA C hR hS hl9)
  rw [hsl, q4 k hk]
  show some (cv E (g_val w (g_ft ci k) o k)) = _
  rw [hv]
theorem w_put0 {idx o ci k : Nat} {v : Value} (hd : decode μ.2.1 pc = .ok (.putfield idx, 3)) (ho : (g_ob o).1 = ci) (hc : ci < 8) (hk : k < g_N ci) (hn : o < w.2.2.2.2.1) (hl : Cond.fieldLink μ.1.cls idx (g_D ci) (g_T ci k).2.1 (g_T ci k).2.2.1 ∈ gw)
    (hfin : (g_T ci k).2.2.2 = false ∨ (μ.1.cls = g_D ci ∧ μ.1.name = "<init>")) (hnr : narrow (g_ft ci k) (cv E v) = cv E v) (hft : fits (g_ft ci k) (cv E v) = true)
    (hsz : w'.2.2.2.2 = w.2.2.2.2) (hw : ∀ ty o' k', ¬ (o' = o ∧ k' = k) → g_val w' ty o' k' = g_val w ty o' k') (hv : g_val w' (g_ft ci k) o k = v)
    (kk : g_Wp E l μ R Φ uc us (pc + 3) ls st w') : g_Wp E l μ R Φ uc us pc ls (v :: .ref o :: st) w := by
  intro p e s m args below meth c H locs lsA C hR hS hl9
  obtain ⟨hx, hb, hml, hown, hts, hret, hlk, het, hnm, hK, hb0⟩ := id C
  have hat := (hR.at hn (g_lvk ho (by omega))).1 (by rw [ho]; exact hc)
  rw [ho] at hat
  obtain ⟨cell, q1, q2, q3, q4⟩ := hat
  have hcl := g_clat hc
  have hin : ∀ w ∈ u_ws (g_R ci) (g_T ci) (g_N ci), w ∈ g_mw μ := fun w hw => g_mwgw μ _ (g_uin ci hc w hw)
  have hap := va_apart (own := μ.1.cls) (D := E.1) (tys := g_tys E) hts hin (g_ft ci) (g_parse ci hc) (g_nm ci hc) hK.2.1 hcl
  obtain ⟨hS', hfc, kC, hkC, hkind⟩ := hK.2.1.1 ci _ hcl
  obtain ⟨cf, kf, fi, f, hi, hsl⟩ := hS' k hk
  have hst := (u_facts hfc hkC (u_lays hts hin hk) hi).1
  have hlay := hts _ (hin _ (u_in_lay hk))
  have hi2 : s.fieldFound? (g_D ci) (g_T ci k).2.1 (g_T ci k).2.2.1 = some (cf, kf, fi, f) := by rw [← g_T1 ci hc k hk]; exact hi
  have hend : ∀ (H' : Heap), H'[g_ad E o]? = some (cell.setSlot f.slot (cv E v)) → H'.size = H.size → (∀ q, q ≠ g_ad E o → H'[q]? = H[q]?) →
      W p l e R s m args below meth c H' (locs ++ [⟨g_ad E o, f.slot⟩]) uc us (Φ below args s) (F0 m (pc + 3) lsA (st.map (cv E))) := by
    intro H' e1 e2 e3
    refine kk p e s m args below meth c H' _ lsA C (hR.put hn (g_lvk ho (by omega)) hsz hw e2 e3 ⟨fun _ => ?_, fun h => absurd (by rw [ho]; exact hc) h⟩) (hS.put e2 e3 (hR.ge hn (g_lvk ho (by omega)))) hl9
    rw [ho]
    rw [hsl] at e1
    refine t_OB.to (V := updV (fun k => cv E (g_val w (g_ft ci k) o k)) k (cv E v)) ⟨_, e1, q2, q3, t_set q4 hap hk _⟩ (fun j _ => ?_)
    by_cases hj : j = k
    · subst hj
      simp only [updV, if_true, hv]
    · simp only [updV, if_neg hj]
      rw [hw _ o j (fun q => hj q.2)]
  show W p l e R s m args below meth c H locs uc us (Φ below args s) (F0 m pc lsA (cv E v :: .ref (g_ad E o) :: st.map (cv E)))
  have hslt : f.slot < cell.slots.size := by rw [hsl]; exact k2_hasslot (q4 k hk)
  by_cases hff : (g_T ci k).2.2.2 = false
  · unfold u_lay at hlay
    rw [if_neg (by rw [hff]; decide)] at hlay
    have h6 := u_store hfc hkC hkind hlay hi (g_parse ci hc k hk) hnr hft
    exact W.putK hx hb (f := f) ⟨hown, hts _ (g_mwgw μ _ hl), ⟨_, _, _, hi2⟩, hst⟩ (by rw [q2]; exact h6) q1 q3 hslt rfl rfl hd (fun H' e1 e2 e3 => hend H' e1 e2 e3)
  · have hft2 : (g_T ci k).2.2.2 = true := by
      cases h : (g_T ci k).2.2.2
      · exact absurd h hff
      · rfl
    obtain ⟨hcls, hini⟩ := hfin.resolve_left hff
    unfold u_lay at hlay
    rw [if_pos hft2] at hlay
    have hcf : m.cls = cf := by
      obtain ⟨_, _, c', _, _, _, -, -, hf', -, -, -, hown2, -⟩ := Cond.laysFinal_spec hlay
      have e1 : c' = cf := by have := hi.symm.trans hf'; simp at this; exact this.1.symm
      rw [g_T1 ci hc k hk, ← hcls] at hown2
      rw [← e1]
      exact Option.some.inj (hown.symm.trans hown2)
    have h6 := u_fits hfc hkC hkind (Or.inr hlay) hi (g_parse ci hc k hk) hnr hft
    exact W.putFinK hx hb hown (hts _ (g_mwgw μ _ hl)) hi2 hst hcf (by rw [hnm]; exact hini) (by rw [q2]; exact h6) q1 q3 hslt rfl rfl hd (fun H' e1 e2 e3 => hend H' e1 e2 e3)
theorem up_I (w : GW) (o k : Nat) (x : Int32) : ∀ ty o' k', ¬ (o' = o ∧ k' = k) → g_val ((up2 w.1 o k x, w.2) : GW) ty o' k' = g_val w ty o' k' := by
  intro ty o' k' h
  cases ty <;> simp only [g_val, up2_n _ _ h]
theorem up_J (w : GW) (o k : Nat) (x : Int64) : ∀ ty o' k', ¬ (o' = o ∧ k' = k) → g_val ((w.1, up2 w.2.1 o k x, w.2.2) : GW) ty o' k' = g_val w ty o' k' := by
  intro ty o' k' h
  cases ty <;> simp only [g_val, up2_n _ _ h]
theorem up_R (w : GW) (o k : Nat) (x : Option Nat) : ∀ ty o' k', ¬ (o' = o ∧ k' = k) → g_val ((w.1, w.2.1, up2 w.2.2.1 o k x, w.2.2.2) : GW) ty o' k' = g_val w ty o' k' := by
  intro ty o' k' h
  cases ty <;> simp only [g_val, up2_n _ _ h]
theorem up_D (w : GW) (o k : Nat) (x : UInt64) : ∀ ty o' k', ¬ (o' = o ∧ k' = k) → g_val ((w.1, w.2.1, w.2.2.1, up2 w.2.2.2.1 o k x, w.2.2.2.2) : GW) ty o' k' = g_val w ty o' k' := by
  intro ty o' k' h
  cases ty <;> simp only [g_val, up2_n _ _ h]
theorem w_puti {idx o ci k : Nat} {x : Int32} (hd : decode μ.2.1 pc = .ok (.putfield idx, 3)) (ho : (g_ob o).1 = ci) (hc : ci < 8) (hk : k < g_N ci) (hn : o < w.2.2.2.2.1) (hl : Cond.fieldLink μ.1.cls idx (g_D ci) (g_T ci k).2.1 (g_T ci k).2.2.1 ∈ gw)
    (hty : g_ft ci k = .int) (hfin : (g_T ci k).2.2.2 = false) (kk : g_Wp E l μ R Φ uc us (pc + 3) ls st (up2 w.1 o k x, w.2)) : g_Wp E l μ R Φ uc us pc ls (.int x :: .ref o :: st) w :=
  w_put0 (w' := (up2 w.1 o k x, w.2)) hd ho hc hk hn hl (Or.inl hfin) (by rw [hty]; rfl) (by rw [hty]; rfl) rfl (up_I w o k x) (by rw [hty]; show Value.int (up2 w.1 o k x o k) = _; rw [up2_s]) kk
theorem w_putz {idx o ci k : Nat} {x : Int32} (hd : decode μ.2.1 pc = .ok (.putfield idx, 3)) (ho : (g_ob o).1 = ci) (hc : ci < 8) (hk : k < g_N ci) (hn : o < w.2.2.2.2.1) (hl : Cond.fieldLink μ.1.cls idx (g_D ci) (g_T ci k).2.1 (g_T ci k).2.2.1 ∈ gw)
    (hty : g_ft ci k = .boolean) (hfin : (g_T ci k).2.2.2 = false) (hx : x = 0 ∨ x = 1) (kk : g_Wp E l μ R Φ uc us (pc + 3) ls st (up2 w.1 o k x, w.2)) : g_Wp E l μ R Φ uc us pc ls (.int x :: .ref o :: st) w :=
  w_put0 (w' := (up2 w.1 o k x, w.2)) hd ho hc hk hn hl (Or.inl hfin) (by rw [hty]; rcases hx with rfl | rfl <;> rfl) (by rw [hty]; rcases hx with rfl | rfl <;> rfl) rfl (up_I w o k x) (by rw [hty]; show Value.int (up2 w.1 o k x o k) = _; rw [up2_s]) kk
theorem w_putj {idx o ci k : Nat} {x : Int64} (hd : decode μ.2.1 pc = .ok (.putfield idx, 3)) (ho : (g_ob o).1 = ci) (hc : ci < 8) (hk : k < g_N ci) (hn : o < w.2.2.2.2.1) (hl : Cond.fieldLink μ.1.cls idx (g_D ci) (g_T ci k).2.1 (g_T ci k).2.2.1 ∈ gw)
    (hty : g_ft ci k = .long) (hfin : (g_T ci k).2.2.2 = false) (kk : g_Wp E l μ R Φ uc us (pc + 3) ls st (w.1, up2 w.2.1 o k x, w.2.2)) : g_Wp E l μ R Φ uc us pc ls (.long x :: .ref o :: st) w :=
  w_put0 (w' := (w.1, up2 w.2.1 o k x, w.2.2)) hd ho hc hk hn hl (Or.inl hfin) (by rw [hty]; rfl) (by rw [hty]; rfl) rfl (up_J w o k x) (by rw [hty]; show Value.long (up2 w.2.1 o k x o k) = _; rw [up2_s]) kk
theorem w_putr {idx o ci k a : Nat} (hd : decode μ.2.1 pc = .ok (.putfield idx, 3)) (ho : (g_ob o).1 = ci) (hc : ci < 8) (hk : k < g_N ci) (hn : o < w.2.2.2.2.1) (hl : Cond.fieldLink μ.1.cls idx (g_D ci) (g_T ci k).2.1 (g_T ci k).2.2.1 ∈ gw)
    (hty : (∃ C, g_ft ci k = .object C) ∨ ∃ t, g_ft ci k = .array t) (hfin : (g_T ci k).2.2.2 = false ∨ (μ.1.cls = g_D ci ∧ μ.1.name = "<init>")) (kk : g_Wp E l μ R Φ uc us (pc + 3) ls st (w.1, w.2.1, up2 w.2.2.1 o k (some a), w.2.2.2)) : g_Wp E l μ R Φ uc us pc ls (.ref a :: .ref o :: st) w := by
  refine w_put0 (w' := (w.1, w.2.1, up2 w.2.2.1 o k (some a), w.2.2.2)) hd ho hc hk hn hl hfin ?_ ?_ rfl (up_R w o k (some a)) ?_ kk
  · rcases hty with ⟨C, h⟩ | ⟨t, h⟩ <;> rw [h] <;> rfl
  · rcases hty with ⟨C, h⟩ | ⟨t, h⟩ <;> rw [h] <;> rfl
  · rcases hty with ⟨C, h⟩ | ⟨t, h⟩ <;> rw [h] <;> (show va_rf (up2 w.2.2.1 o k (some a) o k) = _; rw [up2_s]; rfl)
end GM1
