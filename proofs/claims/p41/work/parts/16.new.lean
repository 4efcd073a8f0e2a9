/-! ROWS: new things, copies, the script, the words -/
section GN
variable {E : GE} {l : Launch} {μ : GM} {R : Room} {Φ : List Frame → Array Value → State → State → Prop} {uc us pc : Nat} {ls : List (Nat × Value)} {st rest : List Value} {w w' : GW} {Z : GZ} {mc ms : Nat}
theorem w_astoreR_n {i : Fin 4} {x : Nat} {ls' : List (Nat × Value)} (hd : decode μ.2.1 pc = .ok (.astore_n i, 1)) (hi : (i : Nat) < μ.2.2.1) (hl' : lput1 ls (i : Nat) (.retAddr x) = ls') (k : g_Wp E l μ R Φ uc us (pc + 1) ls' st w) : g_Wp E l μ R Φ uc us pc ls (.retAddr x :: st) w :=
  fun p e s m args below meth c H locs lsA C hR hS hl => lv_astore_n C.1 C.2.1 hd rfl hl hi (lput1_ls (i : Nat) (.retAddr x)) (fun lsB hlB => k p e s m args below meth c H locs lsB C hR hS (by rw [← hl']; exact hlB))
theorem w_astoreR {i : Nat} {x : Nat} {ls' : List (Nat × Value)} (hd : decode μ.2.1 pc = .ok (.astore i, 2)) (hi : i < μ.2.2.1) (hl' : lput1 ls i (.retAddr x) = ls') (k : g_Wp E l μ R Φ uc us (pc + 2) ls' st w) : g_Wp E l μ R Φ uc us pc ls (.retAddr x :: st) w :=
  fun p e s m args below meth c H locs lsA C hR hS hl => lv_astore C.1 C.2.1 hd hl hi (lput1_ls i (.retAddr x)) (fun lsB hlB => k p e s m args below meth c H locs lsB C hR hS (by rw [← hl']; exact hlB))
theorem w_objInit {idx o : Nat} (hd : decode μ.2.1 pc = .ok (.invokespecial idx, 3)) (hl9 : Cond.methodLink μ.1.cls idx Lib.objectInit ∈ gw) (hRf : 1 ≤ R.frames) (hRl : (st.map fun v => v.category).sum + 12 ≤ R.locals) (k : g_Wp E l μ R Φ uc us (pc + 3) ls st w) : g_Wp E l μ R Φ uc us pc ls (.ref o :: st) w := by
  intro p e s m args below meth c H locs lsA C hR hS hl
  have ht := C.2.2.2.2.1
  have h1 : Cond.instanceMethod Lib.objectInit ∈ tables_1 := (by decide +kernel)
  have h2 : Cond.code Lib.objectInit ⟨#[0xb1]⟩ 1 none ∈ tables_1 := (by decide +kernel)
  exact W.objInit C.1 C.2.1 C.2.2.2.1 (ht _ (g_mwgw μ _ hl9)) (ht _ (g_mwgw μ _ (gw_t h1 rfl))) (ht _ (g_mwgw μ _ (gw_t h2 rfl))) rfl (hl.1.trans C.2.2.1.symm) rfl hd hRf (by show 2 * 0 + _ + 12 ≤ _; rw [g_cats]; omega) (k p e s m args below meth c H locs lsA C hR hS hl)
/-- one more object -/
theorem g_Rp.push {H H1 : Heap} {o : Nat} (hR : g_Rp E w H) (hex : w.2.2.2.2.2 = true) (ho : w.2.2.2.2.1 = o) (ho2 : o < 1000) (z : H1.size = H.size + 1) (oq : ∀ q : Nat, q < H.size → H1[q]? = H[q]?) (ha : g_at E w H1 o) :
    g_Rp E (w.1, w.2.1, w.2.2.1, w.2.2.2.1, o + 1, true) H1 := by
  obtain ⟨r1, r2, r3, r4, r5⟩ := hR
  rw [ho] at r2 r4 r5
  have hn : g_ad E o = H.size := by rw [r2 hex o (Nat.le_refl _) ho2]; omega
  refine ⟨by omega, fun _ o' h1 h2 => ?_, by show o + 1 ≤ 1000; omega, fun o' ho' hl' => ?_, fun x y hx hy lx ly he => ?_⟩
  · have h1' : o + 1 ≤ o' := h1
    rw [r2 hex o' (by omega) h2, z]
    show _ = H.size + 1 + (o' - (o + 1))
    omega
  · have ho3 : o' < o + 1 := ho'
    by_cases h : o' = o
    · subst h
      exact ⟨by omega, by omega, ha⟩
    · obtain ⟨s1, s2, s3⟩ := r4 o' (by omega) hl'
      exact ⟨s1, by omega, s3.kept (oq _ s2)⟩
  · have hx' : x < o + 1 := hx
    have hy' : y < o + 1 := hy
    rcases Nat.lt_or_ge x o with h | h
    · rcases Nat.lt_or_ge y o with h' | h'
      · exact r5 x y h h' lx ly he
      · obtain rfl : y = o := by omega
        have := (r4 x h lx).2.1
        omega
    · obtain rfl : x = o := by omega
      rcases Nat.lt_or_ge y x with h' | h'
      · have := (r4 y h' ly).2.1
        omega
      · omega
theorem g_Rp.nx {H : Heap} {o : Nat} (hR : g_Rp E w H) (hex : w.2.2.2.2.2 = true) (ho : w.2.2.2.2.1 = o) (ho2 : o < 1000) : H.size = g_ad E o := by
  have := hR.2.1 hex o (by omega) ho2
  omega
theorem cv_default (E : GE) (ty : FieldType) : cv E (defaultValue ty) = defaultValue ty := by cases ty <;> rfl
theorem w_new {idx o ci : Nat} (hd : decode μ.2.1 pc = .ok (.new idx, 3)) (hon : w.2.2.2.2.1 = o) (hex : w.2.2.2.2.2 = true) (ho2 : o < 1000) (ho : (g_ob o).1 = ci) (hc : ci < 8) (hl1 : Cond.classLink μ.1.cls idx (g_R ci) ∈ gw) (hl2 : Cond.instantiable (g_R ci) (g_N ci) ∈ gw) (hl3 : Cond.initialized (g_R ci) ∈ gw)
    (hz : ∀ k, k < g_N ci → g_val w (g_ft ci k) o k = defaultValue (g_ft ci k)) (hRc : uc + 1 ≤ R.cells) (hRs : us + g_N ci ≤ R.slots) (k : g_Wp E l μ R Φ (uc + 1) (us + g_N ci) (pc + 3) ls (.ref o :: st) (w.1, w.2.1, w.2.2.1, w.2.2.2.1, o + 1, true)) : g_Wp E l μ R Φ uc us pc ls st w := by
  intro p e s m args below meth c H locs lsA C hR hS hl
  have ht := C.2.2.2.2.1
  have hK := C.2.2.2.2.2.2.2.2.2.1
  have hKn := hK.2.1.1 ci _ (g_clat hc)
  have hin : ∀ w ∈ u_ws (g_R ci) (g_T ci) (g_N ci), w ∈ g_mw μ := fun w hw => g_mwgw μ _ (g_uin ci hc w hw)
  refine W.newcK C.1 C.2.1 C.2.2.2.1 (ht _ (g_mwgw μ _ hl1)) (ht _ (g_mwgw μ _ hl2)) (ht _ (g_mwgw μ _ hl3)) rfl hd hRc hRs hKn.2.1 rfl fun H1 kC hkC e1 z1 o1 => ?_
  have hb := u_born (g_ft ci) ht hin hKn hkC e1 (g_parse ci hc)
  have ho9 : H.size = g_ad E o := hR.nx hex hon ho2
  rw [ho9] at hb
  have hR1 : g_Rp E (w.1, w.2.1, w.2.2.1, w.2.2.2.1, o + 1, true) H1 := hR.push hex hon ho2 z1 o1 ⟨fun _ => by
    rw [ho]
    exact hb.to (fun j hj => by rw [hz j hj, cv_default]), fun h => absurd (by rw [ho]; exact hc) h⟩
  have hk := k p e s m args below meth c H1 locs lsA C hR1 ⟨Nat.le_trans hS.1 (by omega), fun x h1 h2 => (o1 x (Nat.lt_of_lt_of_le h1 hS.1)).trans (hS.2.1 x h1 h2), hS.2.2⟩ hl
  have hst : (.ref o :: st : List Value).map (cv E) = .ref H.size :: st.map (cv E) := by
    show Value.ref (g_ad E o) :: _ = _
    rw [ho9]
  rw [hst] at hk
  exact hk
theorem w_newarr {o c L : Nat} {i : Int32} {at9 : ArrayType} (hd : decode μ.2.1 pc = .ok (.newarray at9, 2)) (hon : w.2.2.2.2.1 = o) (hex : w.2.2.2.2.2 = true) (ho2 : o < 1000) (ho : g_ob o = (c, L)) (hc : 8 ≤ c) (hc2 : c ≤ 17 ∧ c ≠ 13 ∧ c ≠ 14) (hty : newarray.typeOf at9 = g_et c) (hl1 : Cond.arrayClass (g_et c) ∈ gw) (hi : i = nI L)
    (hz : ∀ k, k < L → g_val w (g_et c) o k = defaultValue (g_et c)) (hRc : uc + 1 ≤ R.cells) (hRs : us + L ≤ R.slots) (k : g_Wp E l μ R Φ (uc + 1) (us + L) (pc + 2) ls (.ref o :: st) (w.1, w.2.1, w.2.2.1, w.2.2.2.1, o + 1, true)) : g_Wp E l μ R Φ uc us pc ls (.int i :: st) w := by
  subst hi
  intro p e s m args below meth c9 H locs lsA C hR hS hl
  have ht := C.2.2.2.2.1
  have hK := C.2.2.2.2.2.2.2.2.2.1
  have hL : L ≤ 262144 := by
    have := g_obl (g_ob o) (by
      unfold g_ob
      rw [List.getD_eq_getElem?_getD]
      cases h : g_obL[o]? with
      | none => have h2 : g_ob o = (99, 0) := by unfold g_ob; rw [List.getD_eq_getElem?_getD, h]; rfl
                rw [ho] at h2; cases h2; omega
      | some q => exact List.mem_of_getElem? h)
    rw [ho] at this
    exact this
  have hcl : (nI L).toNatClampNeg = L := nI_clamp (by omega)
  have ho9 : H.size = g_ad E o := hR.nx hex hon ho2
  refine va_newaK C.1 C.2.1 (N := L) (atype := at9) (by rw [hty]; exact ht _ (g_mwgw μ _ hl1)) rfl hd rfl (nI_pos (by omega)) hcl ?_ hRc hRs rfl fun H1 cA e1 z1 o1 hAr hNm => ?_
  · have hcb : componentBytes (newarray.typeOf at9) ≤ 8 := by cases at9 <;> decide
    calc L * componentBytes (newarray.typeOf at9) ≤ 262144 * 8 := Nat.mul_le_mul hL hcb
      _ ≤ 536870912 := by decide
  have hcA : cA = E.2.1 c := by
    have hra := (g_arrK hK hc hc2.1).2
    rw [hty] at hNm
    rcases (show c = 8 ∨ c = 9 ∨ c = 10 ∨ c = 11 ∨ c = 12 ∨ c = 15 ∨ c = 16 ∨ c = 17 by omega) with rfl | rfl | rfl | rfl | rfl | rfl | rfl | rfl <;> exact Option.some.inj (hNm.symm.trans hra)
  subst hcA
  rw [ho9, hty] at e1
  have hR1 : g_Rp E (w.1, w.2.1, w.2.2.1, w.2.2.2.1, o + 1, true) H1 := hR.push hex hon ho2 z1 o1 ⟨fun h => by rw [ho] at h; exact absurd h (by show ¬ c < 8; omega), fun _ => by
    rw [e1, ho]
    show some (arrV _ L _) = some (arrV _ L _)
    congr 1
    unfold arrV
    congr 2
    funext j
    show defaultValue (g_et c) = cv E (g_val w (g_et c) o j.val)
    rw [hz j.val j.isLt, cv_default]⟩
  have hk := k p e s m args below meth c9 H1 locs lsA C hR1 ⟨Nat.le_trans hS.1 (by omega), fun x h1 h2 => (o1 x (Nat.lt_of_lt_of_le h1 hS.1)).trans (hS.2.1 x h1 h2), hS.2.2⟩ hl
  have hst : (.ref o :: st : List Value).map (cv E) = .ref H.size :: st.map (cv E) := by
    show Value.ref (g_ad E o) :: _ = _
    rw [ho9]
  rw [hst] at hk
  exact hk
theorem w_anewarr {idx o c L : Nat} {i : Int32} {D : String} (hd : decode μ.2.1 pc = .ok (.anewarray idx, 3)) (hon : w.2.2.2.2.1 = o) (hex : w.2.2.2.2.2 = true) (ho2 : o < 1000) (ho : g_ob o = (c, L)) (hc : (c = 13 ∧ D = "HeapGames$Rule") ∨ (c = 14 ∧ D = "HeapGames$State")) (hl1 : Cond.classLink μ.1.cls idx D ∈ gw) (hi : i = nI L)
    (hL : L ≤ 100) (hz : ∀ k, k < L → w.2.2.1 o k = none) (hRc : uc + 1 ≤ R.cells) (hRs : us + L ≤ R.slots) (k : g_Wp E l μ R Φ (uc + 1) (us + L) (pc + 3) ls (.ref o :: st) (w.1, w.2.1, w.2.2.1, w.2.2.2.1, o + 1, true)) : g_Wp E l μ R Φ uc us pc ls (.int i :: st) w := by
  subst hi
  intro p e s m args below meth c9 H locs lsA C hR hS hl
  have ht := C.2.2.2.2.1
  have hK := C.2.2.2.2.2.2.2.2.2.1
  have hcl : (nI L).toNatClampNeg = L := nI_clamp (by omega)
  have ho9 : H.size = g_ad E o := hR.nx hex hon ho2
  have hover : (Cond.arrayOver (.object D)).before args s = true := by
    rcases hc with ⟨-, rfl⟩ | ⟨-, rfl⟩
    · exact va_AO.use hK.2.2.2.1.1
    · exact va_AO.use hK.2.2.2.1.2
  refine W.anew C.1 C.2.1 C.2.2.2.1 (ht _ (g_mwgw μ _ hl1)) hover rfl hd rfl (nI_pos (by omega)) (by rw [hcl]; omega) hRc (by rw [hcl]; exact hRs) fun cA kA comp f1 f2 f3 f4 => ?_
  rw [hcl]
  generalize hH1 : H.push ({ cls := cA, slots := Array.replicate L .null, vm := .none } : Cell) = H1
  have z1 : H1.size = H.size + 1 := by rw [← hH1, Array.size_push]
  have e1 : H1[H.size]? = some (arrV cA L (fun _ => .null)) := by rw [← hH1, Array.getElem?_push_size, ← arrV_new]
  have o1 : ∀ q : Nat, q < H.size → H1[q]? = H[q]? := fun q hq => by rw [← hH1, Array.getElem?_push, if_neg (Nat.ne_of_lt hq)]
  have hcA : cA = E.2.1 c := by
    rcases hc with ⟨rfl, rfl⟩ | ⟨rfl, rfl⟩
    · obtain ⟨k9, c8, -, -, -, h4⟩ := (g_arrK hK (by decide : 8 ≤ 13) (by decide : 13 ≤ 17)).2
      exact Option.some.inj (f1.symm.trans h4)
    · obtain ⟨k9, c8, -, -, -, h4⟩ := (g_arrK hK (by decide : 8 ≤ 14) (by decide : 14 ≤ 17)).2
      exact Option.some.inj (f1.symm.trans h4)
  subst hcA
  rw [ho9] at e1
  have hc8 : ¬ c < 8 := by rcases hc with ⟨rfl, -⟩ | ⟨rfl, -⟩ <;> decide
  have hR1 : g_Rp E (w.1, w.2.1, w.2.2.1, w.2.2.2.1, o + 1, true) H1 := hR.push hex hon ho2 z1 o1 ⟨fun h => by rw [ho] at h; exact absurd h hc8, fun _ => by
    rw [e1, ho]
    show some (arrV _ L _) = some (arrV _ L _)
    congr 1
    unfold arrV
    congr 2
    funext j
    have hv : g_val w (g_et c) o j.val = .null := by
      rcases hc with ⟨rfl, -⟩ | ⟨rfl, -⟩ <;> (show va_rf (w.2.2.1 o j.val) = _; rw [hz j.val j.isLt]; rfl)
    show _ = cv E (g_val w (g_et c) o j.val)
    rw [hv]
    rfl⟩
  have hk := k p e s m args below meth c9 H1 locs lsA C hR1 ⟨Nat.le_trans hS.1 (by omega), fun x h1 h2 => (o1 x (Nat.lt_of_lt_of_le h1 hS.1)).trans (hS.2.1 x h1 h2), hS.2.2⟩ hl
  have hst : (.ref o :: st : List Value).map (cv E) = .ref H.size :: st.map (cv E) := by
    show Value.ref (g_ad E o) :: _ = _
    rw [ho9]
  rw [hst] at hk
  exact hk
/-- the script -/
theorem g_ad0 (E : GE) : g_ad E 1000 = E.2.2.2.1.1 0 := by unfold g_ad; rw [if_neg (by omega)]
theorem w_slen (hd : decode μ.2.1 pc = .ok (.arraylength, 1)) (k : g_Wp E l μ R Φ uc us (pc + 1) ls (.int (nI E.2.2.2.2.1) :: st) w) : g_Wp E l μ R Φ uc us pc ls (.ref 1000 :: st) w := by
  intro p e s m args below meth c H locs lsA C hR hS hl
  obtain ⟨hX, hA⟩ := C.2.2.2.2.2.2.2.2.2.1.2.2.2.2.2.2.2.1
  have hlt : E.2.2.2.1.1 0 < s.heap.size := by
    obtain ⟨scr, hs, -⟩ := hX
    exact (Array.getElem?_eq_some_iff.mp hs).1
  show W p l e R s m args below meth c H locs uc us (Φ below args s) (F0 m pc lsA (.ref (g_ad E 1000) :: st.map (cv E)))
  rw [g_ad0]
  exact va_slen C.1 C.2.1 hX hlt hA hS hd (k p e s m args below meth c H locs lsA C hR hS hl)
theorem w_sld {i : Int32} {j : Nat} (hd : decode μ.2.1 pc = .ok (.iaload, 1)) (hi : i = nI j) (hj : j < E.2.2.2.2.1) (hL : E.2.2.2.2.1 < 2 ^ 31) (k : g_Wp E l μ R Φ uc us (pc + 1) ls (.int (E.2.2.2.2.2 j) :: st) w) : g_Wp E l μ R Φ uc us pc ls (.int i :: .ref 1000 :: st) w := by
  subst hi
  intro p e s m args below meth c H locs lsA C hR hS hl
  obtain ⟨hX, hA⟩ := C.2.2.2.2.2.2.2.2.2.1.2.2.2.2.2.2.2.1
  have hlt : E.2.2.2.1.1 0 < s.heap.size := by
    obtain ⟨scr, hs, -⟩ := hX
    exact (Array.getElem?_eq_some_iff.mp hs).1
  show W p l e R s m args below meth c H locs uc us (Φ below args s) (F0 m pc lsA (.int (nI j) :: .ref (g_ad E 1000) :: st.map (cv E)))
  rw [g_ad0]
  have hk := k p e s m args below meth c H locs lsA C hR hS hl
  have hjj : (nI j).toNatClampNeg = j := nI_clamp (by omega)
  refine va_sld C.1 C.2.1 hX hlt hA hS (vp_in_nI hj hL) hd ?_
  rw [hjj]
  exact hk
/-- the words -/
theorem g_adK (E : GE) (i : Nat) : g_ad E (1001 + i) = E.2.2.2.1.1 (1 + i) := by unfold g_ad; rw [if_neg (by omega), show 1001 + i - 1000 = 1 + i by omega]
theorem g_adV (E : GE) (i : Nat) : g_ad E (1101 + i) = E.2.2.2.1.1 (101 + i) := by unfold g_ad; rw [if_neg (by omega), show 1101 + i - 1000 = 101 + i by omega]
theorem w_ldcS {idx i : Nat} {tx : String} (hd : decode μ.2.1 pc = .ok (.ldc idx, 2)) (hq : (μ.1.cls, idx, tx, i) ∈ g_strs) (hi : i < 99) (k : g_Wp E l μ R Φ uc us (pc + 2) ls (.ref (1001 + i) :: st) w) : g_Wp E l μ R Φ uc us pc ls st w := by
  intro p e s m args below meth c H locs lsA C hR hS hl
  obtain ⟨a, h1, h2⟩ := C.2.2.2.2.2.2.2.2.2.1.2.2.2.2.2.1 _ hq
  have ha := h2 hi
  have hk := k p e s m args below meth c H locs lsA C hR hS hl
  refine va_ldcS C.1 C.2.1 C.2.2.2.1 h1 hd ?_
  rw [ha, ← g_adK]
  exact hk
theorem w_getSv {idx i : Nat} (hd : decode μ.2.1 pc = .ok (.getfield idx, 3)) (hl9 : Cond.fieldLink μ.1.cls idx "java/lang/String" "value" "[B" ∈ gw) (hi : i < 21) (k : g_Wp E l μ R Φ uc us (pc + 3) ls (.ref (1101 + i) :: st) w) : g_Wp E l μ R Φ uc us pc ls (.ref (1001 + i) :: st) w := by
  intro p e s m args below meth c H locs lsA C hR hS hl
  have h := ((C.2.2.2.2.2.2.2.2.2.1.2.2.2.2.2.2.1).1 i hi).2.2.1
  have hk := k p e s m args below meth c H locs lsA C hR hS hl
  show W p l e R s m args below meth c H locs uc us (Φ below args s) (F0 m pc lsA (.ref (g_ad E (1001 + i)) :: st.map (cv E)))
  rw [g_adK]
  refine vk_getf C.1 C.2.1 h hS C.2.2.2.1 (C.2.2.2.2.1 _ (g_mwgw μ _ hl9)) (fun _ h => h) hd ?_
  show W p l e R s m args below meth c H locs uc us (Φ below args s) (F0 m (pc + 3) lsA (.ref (E.2.2.2.1.1 (101 + i)) :: st.map (cv E)))
  rw [← g_adV]
  exact hk
theorem w_getSc {idx i : Nat} (hd : decode μ.2.1 pc = .ok (.getfield idx, 3)) (hl9 : Cond.fieldLink μ.1.cls idx "java/lang/String" "coder" "B" ∈ gw) (hi : i < 21) (k : g_Wp E l μ R Φ uc us (pc + 3) ls (.int 0 :: st) w) : g_Wp E l μ R Φ uc us pc ls (.ref (1001 + i) :: st) w := by
  intro p e s m args below meth c H locs lsA C hR hS hl
  have h := ((C.2.2.2.2.2.2.2.2.2.1.2.2.2.2.2.2.1).1 i hi).2.1
  have hk := k p e s m args below meth c H locs lsA C hR hS hl
  show W p l e R s m args below meth c H locs uc us (Φ below args s) (F0 m pc lsA (.ref (g_ad E (1001 + i)) :: st.map (cv E)))
  rw [g_adK]
  exact vk_getf C.1 C.2.1 h hS C.2.2.2.1 (C.2.2.2.2.1 _ (g_mwgw μ _ hl9)) (fun _ h => h) hd hk
theorem w_alenS {i : Nat} (hd : decode μ.2.1 pc = .ok (.arraylength, 1)) (hi : i < 21) (k : g_Wp E l μ R Φ uc us (pc + 1) ls (.int (nI (g_wl.getD i 0)) :: st) w) : g_Wp E l μ R Φ uc us pc ls (.ref (1101 + i) :: st) w := by
  intro p e s m args below meth c H locs lsA C hR hS hl
  have h := ((C.2.2.2.2.2.2.2.2.2.1.2.2.2.2.2.2.1).1 i hi).2.2.2
  have hk := k p e s m args below meth c H locs lsA C hR hS hl
  show W p l e R s m args below meth c H locs uc us (Φ below args s) (F0 m pc lsA (.ref (g_ad E (1101 + i)) :: st.map (cv E)))
  rw [g_adV]
  exact va_tlen C.1 C.2.1 h hS rfl hd hk
theorem w_baldS {i j : Nat} {x : Int32} (hd : decode μ.2.1 pc = .ok (.baload, 1)) (hi : i < 21) (hx : x = nI j) (hj : j < g_wl.getD i 0) (k : g_Wp E l μ R Φ uc us (pc + 1) ls (.int ((g_wb.getD i []).getD j 0) :: st) w) : g_Wp E l μ R Φ uc us pc ls (.int x :: .ref (1101 + i) :: st) w := by
  subst hx
  intro p e s m args below meth c H locs lsA C hR hS hl
  obtain ⟨cell, h1, h2, h3, h4, h5, h6, h7⟩ := ((C.2.2.2.2.2.2.2.2.2.1.2.2.2.2.2.2.1).1 i hi).2.2.2
  have hk := k p e s m args below meth c H locs lsA C hR hS hl
  have hb : g_wl.getD i 0 < 100 := by
    have : ∀ i, i < 21 → g_wl.getD i 0 < 100 := by decide
    exact this i hi
  show W p l e R s m args below meth c H locs uc us (Φ below args s) (F0 m pc lsA (.int (nI j) :: .ref (g_ad E (1101 + i)) :: st.map (cv E)))
  rw [g_adV]
  have hjj : (nI j).toNatClampNeg = j := nI_clamp (by omega)
  have h1' : H[E.2.2.2.1.1 (101 + i)]? = some cell := by rw [hS.2.1 _ (Array.getElem?_eq_some_iff.mp h1).1 h7]; exact h1
  refine W.bald (v := .int ((g_wb.getD i []).getD j 0)) C.1 C.2.1 h1' h2 h3 ?_ ?_ rfl rfl hd hk
  · rw [hjj]
    intro h
    rcases h with h | h
    · exact absurd h (nI_pos (by omega))
    · omega
  · rw [hjj]
    exact h6 j hj
theorem w_getsC {idx : Nat} (hd : decode μ.2.1 pc = .ok (.getstatic idx, 3)) (hl9 : Cond.fieldLink μ.1.cls idx "java/lang/String" "COMPACT_STRINGS" "Z" ∈ gw) (k : g_Wp E l μ R Φ uc us (pc + 3) ls (.int 1 :: st) w) : g_Wp E l μ R Φ uc us pc ls st w := by
  intro p e s m args below meth c H locs lsA C hR hS hl
  have h := C.2.2.2.2.2.2.2.2.2.1.2.2.2.2.2.2.2.2.2.2.1.1
  exact va_gets C.1 C.2.1 h hS C.2.2.2.1 (C.2.2.2.2.1 _ (g_mwgw μ _ hl9)) (fun _ h => h) hd (k p e s m args below meth c H locs lsA C hR hS hl)
theorem w_getsF {idx : Nat} (hd : decode μ.2.1 pc = .ok (.getstatic idx, 3)) (hl9 : Cond.fieldLink μ.1.cls idx "jdk/internal/util/Preconditions" "SIOOBE_FORMATTER" "Ljava/util/function/BiFunction;" ∈ gw) (k : ∀ v : Value, (v = .null ∨ ∃ q, v = .retAddr q) → g_Wp E l μ R Φ uc us (pc + 3) ls (v :: st) w) : g_Wp E l μ R Φ uc us pc ls st w := by
  intro p e s m args below meth c H locs lsA C hR hS hl
  rcases C.2.2.2.2.2.2.2.2.2.1.2.2.2.2.2.2.2.2.2.2.1.2.1 with h | ⟨t, h⟩
  · exact va_gets C.1 C.2.1 h hS C.2.2.2.1 (C.2.2.2.2.1 _ (g_mwgw μ _ hl9)) (fun _ h => h) hd (k .null (Or.inl rfl) p e s m args below meth c H locs lsA C hR hS hl)
  · exact va_gets C.1 C.2.1 h hS C.2.2.2.1 (C.2.2.2.2.1 _ (g_mwgw μ _ hl9)) (fun _ h => h) hd (k (.retAddr t) (Or.inr ⟨t, rfl⟩) p e s m args below meth c H locs lsA C hR hS hl)
/-- System.arraycopy of a whole row of ints into another -/
theorem w_copy {idx o1 o2 n : Nat} {sp dp z : Int32} (hd : decode μ.2.1 pc = .ok (.invokestatic idx, 3)) (hl1 : Cond.methodLink μ.1.cls idx arraycopyName ∈ gw) (ho1 : g_ob o1 = (8, n)) (ho2 : g_ob o2 = (8, n)) (hn1 : o1 < w.2.2.2.2.1) (hn2 : o2 < w.2.2.2.2.1) (hsp : sp = 0) (hdp : dp = 0) (hz : z = nI n)
    (hRf : 1 ≤ R.frames) (hRl : (st.map fun v => v.category).sum + (nativeFrameWords "java/lang/System" "arraycopy" 5 + 11) ≤ R.locals)
    (k : g_Wp E l μ R Φ uc us (pc + 3) ls st ((fun a b => if a = o2 ∧ b < n then w.1 o1 b else w.1 a b), w.2)) : g_Wp E l μ R Φ uc us pc ls (.int z :: .int dp :: .ref o2 :: .int sp :: .ref o1 :: st) w := by
  subst hsp; subst hdp; subst hz
  intro p e s m args below meth c H locs lsA C hR hS hl
  have ht := C.2.2.2.2.1
  have hK := C.2.2.2.2.2.2.2.2.2.1
  have hc0 := g_arr hR hn1 (g_lvk (c := 8) (by rw [ho1]) (by decide)) (by rw [ho1]) (by decide : ¬ 8 < 8)
  have hc1 := g_arr hR hn2 (g_lvk (c := 8) (by rw [ho2]) (by decide)) (by rw [ho2]) (by decide : ¬ 8 < 8)
  rw [ho1] at hc0
  rw [ho2] at hc1
  have hN : n < 2 ^ 31 := by have := g_len o1; rw [ho1] at this; exact this
  have hcl : (nI n).toNatClampNeg = n := nI_clamp hN
  have hti : (nI n).toInt = (n : Int) := nI_toInt hN
  have hA := (g_arrK hK (by decide : 8 ≤ 8) (by decide : 8 ≤ 17)).1
  obtain ⟨-, k0, hk0, cm0, hkk0⟩ := hA n (fun k => cv E (g_val w (g_et 8) o1 k))
  obtain ⟨-, k1, hk1, cm1, hkk1⟩ := hA n (fun k => cv E (g_val w (g_et 8) o2 k))
  have hnat : Cond.native arraycopyName ∈ tables_1 := (by decide +kernel)
  have hsta : Cond.static arraycopyName ∈ tables_1 := by decide +kernel
  have hini : Cond.initialized "java/lang/System" ∈ tables_1 := by decide +kernel
  show W p l e R s m args below meth c H locs uc us (Φ below args s) (F0 m pc lsA (.int (nI n) :: .int 0 :: .ref (g_ad E o2) :: .int 0 :: .ref (g_ad E o1) :: st.map (cv E)))
  intro T hT X
  obtain ⟨vm', X', step⟩ := X.arraycopy C.1 C.2.2.2.1 (ht _ (g_mwgw μ _ hl1)) (ht _ (g_mwgw μ _ (gw_t hnat rfl))) (ht _ (g_mwgw μ _ (gw_t hsta rfl))) (ht _ (g_mwgw μ _ (gw_t hini rfl))) (src := g_ad E o1) (dst := g_ad E o2) (srcPos := 0) (destPos := 0) (n := nI n) (by rw [hT]; exact hc0) (by rw [hT]; exact hc1)
    (fun _ h => by cases h) (fun _ h => by cases h) (fun h => by cases h) (fun h => by cases h) hk0 hk1 hkk0 hkk1 (by rfl) (by decide) (by decide) (nI_pos hN)
    (by rw [hti]; show ¬ (0 : Int) + _ > ((arrV _ n _).slots.size : Int); rw [arrV_size]; omega)
    (by rw [hti]; show ¬ (0 : Int) + _ > ((arrV _ n _).slots.size : Int); rw [arrV_size]; omega)
    (fun vm₁ _ i hi => by
      rw [hcl] at hi
      have e : (arrV (E.2.1 8) n (fun k => cv E (g_val w (g_et 8) o1 k))).slots.getD (Int32.toNatClampNeg 0 + i) .null = .int (w.1 o1 i) := by
        rw [Array.getD_eq_getD_getElem?, show Int32.toNatClampNeg 0 + i = i from by simp, arrV_read _ _ hi]
        rfl
      refine ⟨?_, ?_⟩
      · rw [e]; rfl
      · rw [e]; exact trivial)
    (g := F0 m pc lsA (.int (nI n) :: .int 0 :: .ref (g_ad E o2) :: .int 0 :: .ref (g_ad E o1) :: st.map (cv E))) rfl (by rw [C.2.2.1]; exact hl.1) (rest := st.map (cv E)) rfl (by rw [C.2.1]; exact hd) hRf (by show 2 * 0 + _ + _ ≤ _; rw [g_cats]; omega)
  have e1 : copied (arrV (E.2.1 8) n (fun k => cv E (g_val w (g_et 8) o1 k))) (arrV (E.2.1 8) n (fun k => cv E (g_val w (g_et 8) o2 k))) 0 0 (nI n) = arrV (E.2.1 8) n (fun j => .int (va_cpy (w.1 o1) (w.1 o2) 0 0 n j)) := by
    have := va_copied (n0 := n) (n1 := n) (sp := 0) (dp := 0) (n := n) (fun z => Value.int z) (E.2.1 8) (E.2.1 8) (w.1 o1) (w.1 o2) (by simp)
    show (arrV (E.2.1 8) n (fun k => Value.int (w.1 o2 k))).storeRun (Int32.toNatClampNeg 0) ((arrV (E.2.1 8) n (fun k => Value.int (w.1 o1 k))).stretch (Int32.toNatClampNeg 0) (nI n).toNatClampNeg) = _
    rw [hcl]
    exact this
  rw [e1] at X' step
  have hlt : g_ad E o2 < H.size := (Array.getElem?_eq_some_iff.mp hc1).1
  have hge2 : E.2.2.1 ≤ g_ad E o2 := hR.ge hn2 (g_lvk (c := 8) (by rw [ho2]) (by decide))
  have oq : ∀ q : Nat, q ≠ g_ad E o2 → (H.setIfInBounds (g_ad E o2) (arrV (E.2.1 8) n (fun j => .int (va_cpy (w.1 o1) (w.1 o2) 0 0 n j))))[q]? = H[q]? := fun q hq => by simp [Array.getElem?_setIfInBounds, Ne.symm hq]
  have hheap : ((T.setVm vm').setCell (g_ad E o2) (arrV (E.2.1 8) n (fun j => .int (va_cpy (w.1 o1) (w.1 o2) 0 0 n j)))).heap = H.setIfInBounds (g_ad E o2) (arrV (E.2.1 8) n (fun j => .int (va_cpy (w.1 o1) (w.1 o2) 0 0 n j))) := by rw [← hT]; rfl
  have hw9 : ∀ (ty : FieldType) (o' k' : Nat), o' ≠ o2 → g_val (((fun a b => if a = o2 ∧ b < n then w.1 o1 b else w.1 a b), w.2) : GW) ty o' k' = g_val w ty o' k' := by
    intro ty o' k' h
    cases ty <;> simp [g_val, h]
  have hR1 : g_Rp E ((fun a b => if a = o2 ∧ b < n then w.1 o1 b else w.1 a b), w.2) (H.setIfInBounds (g_ad E o2) (arrV (E.2.1 8) n (fun j => .int (va_cpy (w.1 o1) (w.1 o2) 0 0 n j)))) := by
    have hl2 : g_lv E o2 := g_lvk (c := 8) (by rw [ho2]) (by decide)
    obtain ⟨r1, r2, r3, r4, r5⟩ := hR
    refine ⟨by rw [Array.size_setIfInBounds]; exact r1, by rw [Array.size_setIfInBounds]; exact r2, r3, fun o' ho' hl' => ?_, r5⟩
    obtain ⟨s1, s2, s3⟩ := r4 o' ho' hl'
    refine ⟨s1, by rw [Array.size_setIfInBounds]; exact s2, ?_⟩
    by_cases h : o' = o2
    · subst h
      refine ⟨fun h => absurd h (by rw [ho2]; show ¬ 8 < 8; decide), fun _ => ?_⟩
      rw [Array.getElem?_setIfInBounds_self_of_lt hlt, ho2]
      congr 2
      funext j
      show Value.int (if 0 ≤ j ∧ j < 0 + n then w.1 o1 (0 + (j - 0)) else w.1 o' j) = .int (if o' = o' ∧ j < n then w.1 o1 j else w.1 o' j)
      simp
    · have hk := s3.kept (oq (g_ad E o') (fun q => h (r5 _ _ ho' hn2 hl' hl2 q)))
      refine ⟨fun h8 => (hk.1 h8).to (fun j _ => ?_), fun h8 => ?_⟩
      · rw [hw9 _ o' j h]
      · rw [hk.2 h8]
        congr 2
        funext j
        rw [hw9 _ o' j h]
  obtain ⟨t, a1, b1⟩ := k p e s m args below meth c _ _ lsA C hR1 ⟨by rw [Array.size_setIfInBounds]; exact hS.1, fun q g1 g2 => by
      rw [oq q (fun e => g2 (by rw [e]; exact hge2))]
      exact hS.2.1 q g1 g2, fun q hq => by
      rcases List.mem_append.mp hq with h | h
      · exact hS.2.2 q h
      · obtain ⟨z, -, hz⟩ := List.mem_map.mp h
        rw [← hz]
        exact hge2⟩ hl _ hheap X'
  exact ⟨t, step t a1, b1⟩
end GN
