/-! HeapGamesModel: what stands -/
def slM (I : Nat → Nat → Int32) (o b : Nat) (s : St) : Prop := I o b = nI s.hs.length ∧ (∀ h, h < s.hs.length → I o (b + 1 + h) = nI (s.rl h) ∧ I o (b + 5 + h) = nI (s.sz h)) ∧ I o (b + 9) = nI s.ps ∧ I o (b + 10) = b2i s.mi ∧ I o (b + 11) = nI s.pl.length ∧ ∀ i, i < s.pl.length → ∀ w, w < 4 → I o (b + 12 + 4 * i + w) = deS (s.pl.getD i Mv.pass) w
def hsM (I : Nat → Nat → Int32) (hi : List St) : Prop := hi.length ≤ 10 ∧ I 79 5 = nI hi.length ∧ ∀ i (h : i < hi.length), slM I 82 (172 * (hi.length - 1 - i)) hi[i]
def snM (I : Nat → Nat → Int32) (sn : Nat → Option St) : Prop := ∀ k, k < 2 → I 84 k = b2i (sn k).isSome ∧ ∀ s, sn k = some s → slM I 83 (172 * k) s
def rlM (I : Nat → Nat → Int32) (ru : Ru) (nr : Nat) : Prop := I 79 15 = nI nr ∧ (∀ k, k < nr → ∃ al, mrC I k (ru.1 k) al ∧ ru.2.1 k = alS al) ∧ I 79 16 = nI ru.2.2
def vaM (I : Nat → Nat → Int32) (ru : Ru) (nr : Nat) : Prop := (∀ k, k < nr → ∀ i, i < 301 → I 91 (301 * k + i) = vS ru k i) ∧ ∀ k, k < nr → ∀ n, n < 16 → ∃ x, x < 65536 ∧ I 95 (16 * k + n) = nI x ∧ ∀ a, 1 ≤ a → a ≤ n → x.testBit a = okA (ru.1 k) (ru.2.1 k) n a
def txM (I : Nat → Nat → Int32) (tx : Nat → Nat) (tl : Nat) : Prop := I 79 22 = nI tl ∧ ∀ i, i < tl → I 96 i = nI (tx i)
def roM (I : Nat → Nat → Int32) (c : Nat) : Prop := ∃ r, I 79 19 = nI r ∧ r ≤ 300000 * c ∧ ∀ v, v < 512 → ∃ m, m ≤ r ∧ I 94 v = nI m
def pA (m at0 : Nat) : Nat := at0 % 16 ^ m + 65536 * (at0 / 16 ^ m)
def encM (r : Rs) : Nat := r.2.2 + (if r.1 then 128 else 0) + 256 * r.2.1
def tbM (I : Nat → Nat → Int32) (c : Cf) (k : Nat) : Prop := ∀ t, t < k → I 98 t = nI (encM (val c (pA c.m t)))
def cfM (I : Nat → Nat → Int32) (nr : Nat) (rs : List Nat) (mi : Bool) : Prop := I 79 40 = 1 ∧ rs.length ≤ 4 ∧ (∀ x ∈ rs, x < nr) ∧ I 79 38 = nI rs.length ∧ I 79 39 = b2i mi ∧ ∀ h, h < rs.length → I 99 h = nI (rs.getD h 0)
def lyM (I : Nat → Nat → Int32) (ru : Ru) (nr : Nat) : Prop := I 79 40 = 0 ∨ ∃ rs mi, cfM I nr rs mi ∧ tbM I (cfOf ru rs mi) (4 * 16 ^ rs.length)
def rM (I : Nat → Nat → Int32) (A : AS) (c : Nat) : Prop := slM I 80 0 A.st ∧ hsM I A.hi ∧ snM I A.sn ∧ rlM I A.ru A.nr ∧ vaM I A.ru A.nr ∧ txM I A.tx A.tl ∧ roM I c ∧ lyM I A.ru A.nr
def aOK (A : AS) : Prop := A.nr ≤ 6 ∧ ruOK A.ru ∧ stOK A.nr A.st ∧ A.tl ≤ 400 ∧ (∀ i, i < A.tl → A.tx i < 256) ∧ (∀ i (h : i < A.hi.length), stOK A.nr A.hi[i]) ∧ ∀ k, k < 2 → ∀ s, A.sn k = some s → stOK A.nr s
theorem rC.ok {I : Nat → Nat → Int32} {J : Nat → Nat → Int64} {sw : Bool} {A : AS} {n : Nat} (h : rC I J sw A n) : aOK A := by
  obtain ⟨h1, h2, h3, h4, h5, h6, h7, h8, h9, h10, h11⟩ := h
  obtain ⟨g1, g2, nx, g3, g4, g5⟩ := h9
  exact ⟨h1.2, h2, h5, h11.2.1, fun i hi => (h11.2.2 i hi).1, fun i hi => (g5 i hi).1, fun k hk s hs => ((h10 k hk).2 s hs).1⟩
theorem slM.fr {I I' : Nat → Nat → Int32} {o b : Nat} {s : St} (h : slM I o b s) (f : I' o = I o) : slM I' o b s := by unfold slM; rw [f]; exact h
theorem hsM.fr {I I' : Nat → Nat → Int32} {hi : List St} (h : hsM I hi) (f : I' 82 = I 82) (f5 : I' 79 5 = I 79 5) : hsM I' hi := ⟨h.1, by rw [f5]; exact h.2.1, fun i hi => (h.2.2 i hi).fr f⟩
theorem snM.fr {I I' : Nat → Nat → Int32} {sn : Nat → Option St} (h : snM I sn) (f : I' 83 = I 83) (f5 : I' 84 = I 84) : snM I' sn := fun k hk => ⟨by rw [f5]; exact (h k hk).1, fun s hs => ((h k hk).2 s hs).fr f⟩
theorem mrC.fr {I I' : Nat → Nat → Int32} {r k : Nat} {al : List Nat} (h : mrC I r k al) (f : ∀ o, 85 ≤ o → o ≤ 87 → I' o = I o) : mrC I' r k al := by unfold mrC; rw [f 85 (by decide) (by decide), f 86 (by decide) (by decide), f 87 (by decide) (by decide)]; exact h
theorem rlM.fr {I I' : Nat → Nat → Int32} {ru : Ru} {nr : Nat} (h : rlM I ru nr) (f : ∀ o, 85 ≤ o → o ≤ 87 → I' o = I o) (f1 : I' 79 15 = I 79 15) (f2 : I' 79 16 = I 79 16) : rlM I' ru nr := ⟨by rw [f1]; exact h.1, fun k hk => by obtain ⟨al, h1, h2⟩ := h.2.1 k hk; exact ⟨al, h1.fr f, h2⟩, by rw [f2]; exact h.2.2⟩
theorem vaM.fr {I I' : Nat → Nat → Int32} {ru : Ru} {nr : Nat} (h : vaM I ru nr) (f : I' 91 = I 91) (f1 : I' 95 = I 95) : vaM I' ru nr := by unfold vaM; rw [f, f1]; exact h
theorem txM.fr {I I' : Nat → Nat → Int32} {tx : Nat → Nat} {tl : Nat} (h : txM I tx tl) (f : I' 96 = I 96) (f1 : I' 79 22 = I 79 22) : txM I' tx tl := by unfold txM; rw [f, f1]; exact h
theorem roM.fr {I I' : Nat → Nat → Int32} {c : Nat} (h : roM I c) (f : I' 94 = I 94) (f1 : I' 79 19 = I 79 19) : roM I' c := by unfold roM; rw [f, f1]; exact h
theorem roM.up {I : Nat → Nat → Int32} {c d : Nat} (h : roM I c) (f : c ≤ d) : roM I d := by obtain ⟨r, h1, h2, h3⟩ := h; exact ⟨r, h1, by omega, h3⟩
theorem lyM.fr {I I' : Nat → Nat → Int32} {ru : Ru} {nr : Nat} (h : lyM I ru nr) (f : I' 98 = I 98) (f1 : I' 99 = I 99) (f2 : ∀ k, 38 ≤ k → k ≤ 40 → I' 79 k = I 79 k) : lyM I' ru nr := by
  rcases h with h | ⟨rs, mi, h1, h2⟩
  · exact Or.inl (by rw [f2 40 (by decide) (by decide)]; exact h)
  · exact Or.inr ⟨rs, mi, ⟨by rw [f2 40 (by decide) (by decide)]; exact h1.1, h1.2.1, h1.2.2.1, by rw [f2 38 (by decide) (by decide)]; exact h1.2.2.2.1, by rw [f2 39 (by decide) (by decide)]; exact h1.2.2.2.2.1, by rw [f1]; exact h1.2.2.2.2.2⟩, by unfold tbM; rw [f]; exact h2⟩
/-- fields of the model that tell nothing of the state -/
abbrev scr (k : Nat) : Prop := k ≠ 17 ∧ k ≠ 5 ∧ k ≠ 15 ∧ k ≠ 16 ∧ k ≠ 19 ∧ k ≠ 22 ∧ (k < 38 ∨ 40 < k)
def frZ (I I' : Nat → Nat → Int32) : Prop := (∀ o, o ≠ 79 → I' o = I o) ∧ ∀ k, ¬ scr k → I' 79 k = I 79 k
theorem frZ.refl (I : Nat → Nat → Int32) : frZ I I := ⟨fun _ _ => rfl, fun _ _ => rfl⟩
theorem frZ.trans {I I' I'' : Nat → Nat → Int32} (h : frZ I I') (h' : frZ I' I'') : frZ I I'' := ⟨fun o a => (h'.1 o a).trans (h.1 o a), fun k a => (h'.2 k a).trans (h.2 k a)⟩
theorem frZ.up {I I' : Nat → Nat → Int32} (h : frZ I I') {k : Nat} (hk : scr k) (v : Int32) : frZ I (up2 I' 79 k v) := ⟨fun o a => by rw [← h.1 o a]; funext j; exact up2_n _ _ (by simp [a]), fun j a => by rw [← h.2 j a]; exact up2_n _ _ (fun q => a (by rw [q.2]; exact hk))⟩
theorem rM.z0 {I I' : Nat → Nat → Int32} {A : AS} {c : Nat} (h : rM I A c) (f1 : ∀ o, o ≠ 79 → I' o = I o) (f2 : ∀ k, k ≠ 17 → ¬ scr k → I' 79 k = I 79 k) : rM I' A c := by
  obtain ⟨h1, h2, h3, h4, h5, h6, h7, h8⟩ := h
  have g : ∀ o, 80 ≤ o → I' o = I o := fun o ho => f1 o (by omega)
  have f : ∀ k, k ≠ 17 → ¬ scr k → I' 79 k = I 79 k := f2
  exact ⟨h1.fr (g _ (by decide)), h2.fr (g _ (by decide)) (f _ (by decide) (by decide)), h3.fr (g _ (by decide)) (g _ (by decide)), h4.fr (fun o a _ => g o (by omega)) (f _ (by decide) (by decide)) (f _ (by decide) (by decide)), h5.fr (g _ (by decide)) (g _ (by decide)), h6.fr (g _ (by decide)) (f _ (by decide) (by decide)), h7.fr (g _ (by decide)) (f _ (by decide) (by decide)), h8.fr (g _ (by decide)) (g _ (by decide)) (fun k a b => f k (by omega) (by omega))⟩
theorem rM.z {I I' : Nat → Nat → Int32} {A : AS} {c : Nat} (h : rM I A c) (f : frZ I I') : rM I' A c := h.z0 f.1 (fun k _ => f.2 k)
theorem rM.thr {I : Nat → Nat → Int32} {A : AS} {c : Nat} (h : rM I A c) (v : Int32) : rM (up2 I 79 17 v) A c := h.z0 (fun o a => by funext j; exact up2_n _ _ (by simp [a])) (fun k a _ => up2_n _ _ (by simp [a]))
section MD
variable (E : GE) (l : Launch)
variable {I : Nat → Nat → Int32} {J : Nat → Nat → Int64} {R : Nat → Nat → Option Nat} {D : Nat → Nat → UInt64} {N : Nat} {ex : Bool} {A : AS} {c : Nat}
set_option maxRecDepth 100000 in
theorem m_mayHeap_t (hR : lkM R N) (h0 : I 79 17 = 0) {m k : Nat} (hm : I 80 0 = nI m) (h4 : m ≤ 4) (hk : k < m) : g_Ct E l mX7_mayHeap 1 22 0 0 [.ref 79, .int (nI k)] (I, J, R, D, N, ex) (g_is (some (.int (b2i true))) (I, J, R, D, N, ex)) := by
  refine g_Ct.of (by decide +kernel) (lb rfl) ?_
  have hN := hR.1
  refine w_aload_n dX7_mayHeap_0 rfl ?_
  refine w_iload_n dX7_mayHeap_1 rfl ?_
  refine w_iconst (v := 0) dX7_mayHeap_2 (by decide) ?_
  refine w_aload_n dX7_mayHeap_3 rfl ?_
  refine x_getr (ci := 7) (k := 0) (a := 80) dX7_mayHeap_4 rfl (by decide) (by decide) (by omega) fl_X7_7 (Or.inr ⟨_, rfl⟩) hR.2.1 ?_
  refine w_iconst (v := 0) dX7_mayHeap_7 (by decide) ?_
  refine x_iald (j := 0) dX7_mayHeap_8 rfl (by omega) rfl (show 0 < 172 by decide) ?_
  rw [hm]
  refine w_iconst (v := 1) dX7_mayHeap_9 (by decide) ?_
  refine w_isub dX7_mayHeap_10 ?_
  refine y_callS dX7_mayHeap_11 lk_X7_77 [.int (nI k), .int 0, .int (nI m - 1)] rfl (m_within E l _ _ _ _) rfl ⟨⟨by decide, by decide⟩, by decide, by decide⟩ (lb rfl) ?_
  rw [decide_eq_true (wi_t hk (by omega))]
  refine w_iconst (v := 1) dX7_mayHeap_14 (by decide) ?_
  refine y_callV dX7_mayHeap_15 lk_X7_256 [.int 1, .int 1] rfl (m_may_t E l (by omega) h0 1) (g_recv.obj (ci := 7) rfl (by decide) (show 79 < N by omega)) rfl ⟨⟨by decide, by decide⟩, by decide, by decide⟩ (lb rfl) ?_
  refine w_iret dX7_mayHeap_18 rfl rfl ⟨rfl, rfl⟩ (by decide) (by decide)
set_option maxRecDepth 100000 in
theorem m_mayHeap_f (hR : lkM R N) (h0 : I 79 17 = 0) {m : Nat} {x : Int32} (hm : I 80 0 = nI m) (h4 : m ≤ 4) (hx : x < 0 ∨ ¬ x < nI m) : g_Ct E l mX7_mayHeap 1 22 0 0 [.ref 79, .int x] (I, J, R, D, N, ex) (g_is (some (.int (b2i false))) (up2 I 79 17 1, J, R, D, N, ex)) := by
  refine g_Ct.of (by decide +kernel) (lb rfl) ?_
  have hN := hR.1
  refine w_aload_n dX7_mayHeap_0 rfl ?_
  refine w_iload_n dX7_mayHeap_1 rfl ?_
  refine w_iconst (v := 0) dX7_mayHeap_2 (by decide) ?_
  refine w_aload_n dX7_mayHeap_3 rfl ?_
  refine x_getr (ci := 7) (k := 0) (a := 80) dX7_mayHeap_4 rfl (by decide) (by decide) (by omega) fl_X7_7 (Or.inr ⟨_, rfl⟩) hR.2.1 ?_
  refine w_iconst (v := 0) dX7_mayHeap_7 (by decide) ?_
  refine x_iald (j := 0) dX7_mayHeap_8 rfl (by omega) rfl (show 0 < 172 by decide) ?_
  rw [hm]
  refine w_iconst (v := 1) dX7_mayHeap_9 (by decide) ?_
  refine w_isub dX7_mayHeap_10 ?_
  refine y_callS dX7_mayHeap_11 lk_X7_77 [.int x, .int 0, .int (nI m - 1)] rfl (m_within E l _ _ _ _) rfl ⟨⟨by decide, by decide⟩, by decide, by decide⟩ (lb rfl) ?_
  rw [decide_eq_false (wi_f (by omega) hx)]
  refine w_iconst (v := 1) dX7_mayHeap_14 (by decide) ?_
  refine y_callV dX7_mayHeap_15 lk_X7_256 [.int 0, .int 1] rfl (m_may_f E l (by omega) h0 (by decide)) (g_recv.obj (ci := 7) rfl (by decide) (show 79 < N by omega)) rfl ⟨⟨by decide, by decide⟩, by decide, by decide⟩ (lb rfl) ?_
  refine w_iret dX7_mayHeap_18 rfl rfl ⟨rfl, rfl⟩ (by decide) (by decide)
end MD
