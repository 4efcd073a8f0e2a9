/-! HeapGamesModel.laysPosition -/
def frP2 (I I' : Nat → Nat → Int32) : Prop := (∀ o, o ≠ 79 → o ≠ 94 → o ≠ 98 → I' o = I o) ∧ ∀ k, k ≠ 19 → k ≠ 41 → k ≠ 42 → k ≠ 43 → I' 79 k = I 79 k
theorem frP2.refl (I : Nat → Nat → Int32) : frP2 I I := ⟨fun _ _ _ _ => rfl, fun _ _ _ _ _ => rfl⟩
theorem frP2.trans {I I' I'' : Nat → Nat → Int32} (h : frP2 I I') (h' : frP2 I' I'') : frP2 I I'' := ⟨fun o a b c => (h'.1 o a b c).trans (h.1 o a b c), fun k a b c d => (h'.2 k a b c d).trans (h.2 k a b c d)⟩
theorem frA.p {I I' : Nat → Nat → Int32} (h : frA I I') : frP2 I I' := ⟨fun o a b _ => h.1 o a b, fun k _ b c d => h.2 k b c d⟩
/-- the heaps' rules and the ending, as the table is laid for them -/
def cnM (I : Nat → Nat → Int32) (nr : Nat) (rs : List Nat) (mi : Bool) : Prop := I 80 0 = nI rs.length ∧ rs.length ≤ 4 ∧ (∀ x ∈ rs, x < nr) ∧ nr ≤ 6 ∧ (∀ h, h < rs.length → I 80 (1 + h) = nI (rs.getD h 0)) ∧ I 80 10 = b2i mi
def wyM (I : Nat → Nat → Int32) (ru : Ru) (nr : Nat) : Prop := I 79 16 = nI ru.2.2 ∧ ∀ k, k < nr → ∀ n, n < 16 → ∃ x, x < 65536 ∧ I 95 (16 * k + n) = nI x ∧ ∀ a, 1 ≤ a → a ≤ n → x.testBit a = okA (ru.1 k) (ru.2.1 k) n a
def rdM (I : Nat → Nat → Int32) (r : Nat) : Prop := I 79 19 = nI r ∧ ∀ v, v < 512 → ∃ m, m ≤ r ∧ I 94 v = nI m
theorem getD_mem {rs : List Nat} {h : Nat} (hh : h < rs.length) : rs.getD h 0 ∈ rs := by rw [List.getD_eq_getElem?_getD, List.getElem?_eq_getElem hh]; exact List.getElem_mem _
theorem cfOf_ok {ru : Ru} (hru : ruOK ru) {rs : List Nat} (h4 : rs.length ≤ 4) (h6 : ∀ x ∈ rs, x < 6) (mi : Bool) : (cfOf ru rs mi).ok := cf_ok hru ⟨h4, h6⟩
theorem hit_first {c : Cf} (hm : c.m ≤ 4) {p : Nat} (hp : p < 262144) : firstN (hitO (opv c p)) 64 0 < 64 ∧ hitO (opv c p) (firstN (hitO (opv c p)) 64 0) = false ∧ ∀ j, j < firstN (hitO (opv c p)) 64 0 → hitO (opv c p) j = true := by
  have h63 : hitO (opv c p) 63 = false := by
    cases e : hitO (opv c p) 63 with
    | false => rfl
    | true =>
      unfold hitO at e
      rw [List.any_eq_true] at e
      obtain ⟨x, hx, h6⟩ := e
      have := opv_lt hm hp hx
      have := of_decide_eq_true h6
      omega
  have hlt : firstN (hitO (opv c p)) 64 0 < 64 := by
    have := firstN_le (hitO (opv c p)) 64 0
    rcases Nat.lt_or_ge (firstN (hitO (opv c p)) 64 0) 64 with z | z
    · exact z
    · have := firstN_all (hitO (opv c p)) 64 0 63 (Nat.zero_le _) (by omega)
      rw [this] at h63; cases h63
  exact ⟨hlt, firstN_not _ 64 0 (by omega), fun j hj => firstN_all _ 64 0 j (Nat.zero_le _) hj⟩
section MK
variable (E : GE) (l : Launch)
variable {I : Nat → Nat → Int32} {J : Nat → Nat → Int64} {R : Nat → Nat → Option Nat} {D : Nat → Nat → UInt64} {N : Nat} {ex : Bool}
set_option maxRecDepth 100000 in
theorem m_laysPosition (hR : lkM R N) {ru : Ru} {nr : Nat} {rs : List Nat} {mi : Bool} (hru : ruOK ru) (hcn : cnM I nr rs mi) (hw : wyM I ru nr) {r : Nat} (hr : rdM I r) (hr2 : r < 2 ^ 30) {t : Nat} (ht : t < 4 * 16 ^ rs.length) (htb : tbM I (cfOf ru rs mi) t) : g_Ct E l mX7_laysPosition 3 68 0 0 [.ref 79, .int (nI t)] (I, J, R, D, N, ex) (g_rv (fun I' => frP2 I I' ∧ rdM I' (r + 1) ∧ tbM I' (cfOf ru rs mi) (t + 1)) J R D N ex) := by
  refine g_Ct.of (by decide +kernel) (lb rfl) ?_
  have hN := hR.1
  obtain ⟨n1, n2, n3, n4, n5, n6⟩ := hcn
  have hm4 : (cfOf ru rs mi).m ≤ 4 := n2
  have hok := cfOf_ok hru n2 (fun x hx => Nat.lt_of_lt_of_le (n3 x hx) n4) mi
  generalize hc : cfOf ru rs mi = c at *
  have cm : c.m = rs.length := by rw [← hc]; rfl
  have cmi : c.mi = mi := by rw [← hc]; rfl
  have csh : c.sh = ru.2.2.testBit := by rw [← hc]; rfl
  have cal : ∀ h n a, c.al h n a = okA (ru.1 (rs.getD h 0)) (ru.2.1 (rs.getD h 0)) n a := fun h n a => by rw [← hc]; rfl
  rw [← cm] at ht n1
  have h16 : 16 ^ c.m ≤ 65536 := by have := Nat.pow_le_pow_right (show 0 < 16 by decide) hm4; exact this
  have ht2 : t < 262144 := by omega
  have hp := pA_lt hm4 ht
  generalize hpe : pA c.m t = p at *
  have hdg : ∀ h, h < c.m → dig p h = dig t h := fun h hh => by rw [← hpe]; exact pA_dig hm4 hh
  have hru6 := hru.2.2
  have hV1 : ∀ h, h < c.m → ∀ a, 1 ≤ a → a ≤ dig t h → a * 2 ^ (4 * h) ≤ t ∧ I 98 (t - a * 2 ^ (4 * h)) = nI (encM (val c (p - (Mv.take h a).code))) ∧ rsL (val c (p - (Mv.take h a).code)) := by
    intro h hh a h1 h2
    have g1 := tk_le hm4 hh h2
    have g2 : t % 16 ^ c.m ≤ t := Nat.mod_le _ _
    have g3 : 0 < a * 2 ^ (4 * h) := Nat.mul_pos (by omega) (Nat.two_pow_pos _)
    have g4 := htb (t - a * 2 ^ (4 * h)) (by omega)
    rw [pA_sub hm4 g1, hpe] at g4
    exact ⟨by omega, g4, val_rs hm4 (by omega)⟩
  have hV2 : ∀ h o, h < o → o < c.m → ∀ a, 1 ≤ a → a ≤ min (dig t h) (dig t o) → a * 2 ^ (4 * h) + a * 2 ^ (4 * o) ≤ t ∧ I 98 (t - a * 2 ^ (4 * h) - a * 2 ^ (4 * o)) = nI (encM (val c (p - (Mv.both h o a).code))) ∧ rsL (val c (p - (Mv.both h o a).code)) := by
    intro h o hh ho a h1 h2
    have g1 := bt_le hm4 hh ho (show a ≤ dig t h by omega) (show a ≤ dig t o by omega)
    have g2 : t % 16 ^ c.m ≤ t := Nat.mod_le _ _
    have g3 : 0 < a * 2 ^ (4 * h) := Nat.mul_pos (by omega) (Nat.two_pow_pos _)
    have g4 := htb (t - (a * 2 ^ (4 * h) + a * 2 ^ (4 * o))) (by omega)
    rw [pA_sub hm4 g1, hpe, ← Nat.sub_sub, ← Nat.mul_add, Nat.sub_sub] at g4
    exact ⟨by omega, by rw [Nat.sub_sub]; rw [← Nat.sub_sub] at g4; exact (by rw [← Nat.sub_sub]; exact g4), val_rs hm4 (by omega)⟩
  have s246 : ∀ (I' : Nat → Nat → Int32) (won : Bool) (len v0 : Nat), (∀ j, j < v0 → I' 94 j = nI (r + 1)) → I' 94 v0 ≠ nI (r + 1) → v0 < 64 → rdM I' (r + 1) → frP2 I I' → I' 98 = I 98 → encM (val c p) = v0 + (if won then 128 else 0) + 256 * len → g_Wp E l mX7_laysPosition { frames := 3, cells := 0, slots := 0, locals := 68 } (g_Fin E (g_rv (fun I' => frP2 I I' ∧ rdM I' (r + 1) ∧ tbM I' c (t + 1)) J R D N ex) 0 0) 0 0 246 [(3, .int (nI len)), (2, .int (b2i won)), (0, .ref 79), (1, .int (nI t))] [] (I', J, R, D, N, ex) := by
    intro I' won len v0 g1 g2 g3 g4 g5 g6 g7
    have fin : frP2 I (up2 I' 98 t (nI (encM (val c p)))) ∧ rdM (up2 I' 98 t (nI (encM (val c p)))) (r + 1) ∧ tbM (up2 I' 98 t (nI (encM (val c p)))) c (t + 1) := by
      refine ⟨g5.trans ⟨fun o _ _ q => by funext j; exact up2_n _ _ (by simp [q]), fun k _ _ _ _ => up2_n _ _ (by simp)⟩, ⟨by rw [up2_n _ _ (by simp)]; exact g4.1, fun v hv => by rw [up2_n _ _ (by simp)]; exact g4.2 v hv⟩, fun t' ht' => ?_⟩
      rcases Nat.lt_or_ge t' t with z | z
      · rw [up2_n _ _ (by omega), g6]; exact htb t' z
      · obtain rfl : t' = t := by omega
        rw [up2_s, hpe]
    rw [g7] at fin
    cases won with
    | true =>
      refine w_aload_n dX7_laysPosition_246 rfl ?_
      refine x_getr (ci := 7) (k := 36) (a := 98) dX7_laysPosition_247 rfl (by decide) (by decide) (by omega) fl_X7_67 (Or.inr ⟨_, rfl⟩) hR.2.2.2.2.2.2.2.2.2.2.2.2.2.2.2.2.2.2.2.1 ?_
      refine w_iload_n dX7_laysPosition_250 rfl ?_
      refine w_aload_n dX7_laysPosition_251 rfl ?_
      refine y_callV dX7_laysPosition_252 lk_X7_105 [] rfl (m_leastUnmet E l hR g4.1 g1 g2 (by omega)) (g_recv.obj (ci := 7) rfl (by decide) (show 79 < N by omega)) rfl ⟨⟨by decide, by decide⟩, by decide, by decide⟩ (lb rfl) ?_
      refine w_iload_n dX7_laysPosition_255 rfl ?_
      refine w_if_eq (tgt := 265) dX7_laysPosition_256 (by decide) (fun c_256 => absurd c_256 ((by decide))) (fun c_256 => ?_)
      refine w_sipush (v := 128) dX7_laysPosition_259 (by decide) ?_
      refine w_goto (tgt := 266) dX7_laysPosition_262 (by decide) ?_
      refine w_iadd dX7_laysPosition_266 ?_
      refine w_st (show _ = [.int (nI (v0 + 128)), .int (nI t), .ref 98] from by rw [← nI_add]; rfl) ?_
      refine w_sipush (v := 256) dX7_laysPosition_267 (by decide) ?_
      refine w_iload_n dX7_laysPosition_270 rfl ?_
      refine w_imul dX7_laysPosition_271 ?_
      refine w_st (show _ = [.int (nI (256 * len)), .int (nI (v0 + 128)), .int (nI t), .ref 98] from by rw [← pk_mul]; rfl) ?_
      refine w_iadd dX7_laysPosition_272 ?_
      rw [nI_add]
      refine x_iast (j := t) dX7_laysPosition_273 rfl (by omega) rfl (show t < 262144 from ht2) ?_
      refine w_vret dX7_laysPosition_274 rfl ⟨_, rfl, fin, rfl⟩ (by decide) (by decide)
    | false =>
      refine w_aload_n dX7_laysPosition_246 rfl ?_
      refine x_getr (ci := 7) (k := 36) (a := 98) dX7_laysPosition_247 rfl (by decide) (by decide) (by omega) fl_X7_67 (Or.inr ⟨_, rfl⟩) hR.2.2.2.2.2.2.2.2.2.2.2.2.2.2.2.2.2.2.2.1 ?_
      refine w_iload_n dX7_laysPosition_250 rfl ?_
      refine w_aload_n dX7_laysPosition_251 rfl ?_
      refine y_callV dX7_laysPosition_252 lk_X7_105 [] rfl (m_leastUnmet E l hR g4.1 g1 g2 (by omega)) (g_recv.obj (ci := 7) rfl (by decide) (show 79 < N by omega)) rfl ⟨⟨by decide, by decide⟩, by decide, by decide⟩ (lb rfl) ?_
      refine w_iload_n dX7_laysPosition_255 rfl ?_
      refine w_if_eq (tgt := 265) dX7_laysPosition_256 (by decide) (fun c_256 => ?_) (fun c_256 => absurd (rfl) c_256)
      refine w_iconst (v := 0) dX7_laysPosition_265 (by decide) ?_
      refine w_iadd dX7_laysPosition_266 ?_
      refine w_st (show _ = [.int (nI (v0 + 0)), .int (nI t), .ref 98] from by rw [← nI_add]; rfl) ?_
      refine w_sipush (v := 256) dX7_laysPosition_267 (by decide) ?_
      refine w_iload_n dX7_laysPosition_270 rfl ?_
      refine w_imul dX7_laysPosition_271 ?_
      refine w_st (show _ = [.int (nI (256 * len)), .int (nI (v0 + 0)), .int (nI t), .ref 98] from by rw [← pk_mul]; rfl) ?_
      refine w_iadd dX7_laysPosition_272 ?_
      rw [nI_add]
      refine x_iast (j := t) dX7_laysPosition_273 rfl (by omega) rfl (show t < 262144 from ht2) ?_
      refine w_vret dX7_laysPosition_274 rfl ⟨_, rfl, fin, rfl⟩ (by decide) (by decide)
  have s177 : ∀ (I' : Nat → Nat → Int32), acM I' (r + 1) ((mvs c p).map (fun x => val c (p - x.code))) → frP2 I I' → I' 98 = I 98 → g_Wp E l mX7_laysPosition { frames := 3, cells := 0, slots := 0, locals := 68 } (g_Fin E (g_rv (fun I' => frP2 I I' ∧ rdM I' (r + 1) ∧ tbM I' c (t + 1)) J R D N ex) 0 0) 0 0 177 [(2, .int (nI c.m)), (0, .ref 79), (1, .int (nI t))] [] (I', J, R, D, N, ex) := by
    intro I' g1 g2 g3
    have hv := val_eq hm4 p
    have hf := hit_first hm4 hp
    have hlen : ((mvs c p).map (fun x => val c (p - x.code))).length < 1000 := by rw [List.length_map]; have := mvs_81 hok p; omega
    change (firstN (hitO ((mvs c p).map (fun x => val c (p - x.code)))) 64 0 < 64 ∧ _) at hf
    generalize hos : (mvs c p).map (fun x => val c (p - x.code)) = os at *
    obtain ⟨a1, a2, a3, a4, a5, a6, a7⟩ := g1
    have e80 : I' 80 = I 80 := g2.1 80 (by decide) (by decide) (by decide)
    have hf' : firstN (hitO os) 64 0 < 64 ∧ hitO os (firstN (hitO os) 64 0) = false ∧ ∀ j, j < firstN (hitO os) 64 0 → hitO os j = true := by rw [← hos]; exact hit_first hm4 hp
    generalize hv0 : firstN (hitO os) 64 0 = v0 at *
    have u1 : ∀ j, j < v0 → I' 94 j = nI (r + 1) := fun j hj => (a5 j (by omega)).mpr (hf'.2.2 j hj)
    have u2 : I' 94 v0 ≠ nI (r + 1) := fun q => by have := (a5 v0 (by omega)).mp q; rw [hf'.2.1] at this; cases this
    have am := allMax_63 a7
    by_cases he : os = []
    · have hvv : val c p = (mi, 0, 0) := by rw [hv, he, ← cmi]; rfl
      have hl0 : os.length = 0 := by rw [he]; rfl
      have v00 : v0 = 0 := by rw [← hv0, he]; rfl
      rw [hl0] at a2
      have t9 := s246 I' mi 0 v0 u1 u2 hf'.1 ⟨a1, a6⟩ g2 g3 (by rw [hvv, v00]; unfold encM; simp)
      cases mi with
      | true =>
        refine w_aload_n dX7_laysPosition_177 rfl ?_
        refine x_geti (ci := 7) (k := 41) dX7_laysPosition_178 rfl (by decide) (by decide) (by omega) fl_X7_292 rfl ?_
        rw [a2]
        refine w_if_ne (tgt := 203) dX7_laysPosition_181 (by decide) (fun c_181 => absurd (rfl) c_181) (fun c_181 => ?_)
        refine w_aload_n dX7_laysPosition_184 rfl ?_
        refine x_getr (ci := 7) (k := 0) (a := 80) dX7_laysPosition_185 rfl (by decide) (by decide) (by omega) fl_X7_7 (Or.inr ⟨_, rfl⟩) hR.2.1 ?_
        refine w_bipush (v := 10) dX7_laysPosition_188 (by decide) ?_
        refine x_iald (j := 10) dX7_laysPosition_190 rfl (by omega) rfl (show 10 < 172 by decide) ?_
        rw [e80, n6]
        refine w_iconst (v := 1) dX7_laysPosition_191 (by decide) ?_
        refine w_icmp_ne (tgt := 199) dX7_laysPosition_192 (by decide) (fun c_192 => absurd (rfl) c_192) (fun c_192 => ?_)
        refine w_iconst (v := 1) dX7_laysPosition_195 (by decide) ?_
        refine w_goto (tgt := 216) dX7_laysPosition_196 (by decide) ?_
        refine w_istore_n dX7_laysPosition_216 (by decide) rfl ?_
        refine w_aload_n dX7_laysPosition_217 rfl ?_
        refine x_geti (ci := 7) (k := 41) dX7_laysPosition_218 rfl (by decide) (by decide) (by omega) fl_X7_292 rfl ?_
        rw [a2]
        refine w_if_ne (tgt := 228) dX7_laysPosition_221 (by decide) (fun c_221 => absurd (rfl) c_221) (fun c_221 => ?_)
        refine w_iconst (v := 0) dX7_laysPosition_224 (by decide) ?_
        refine w_goto (tgt := 245) dX7_laysPosition_225 (by decide) ?_
        refine w_istore_n dX7_laysPosition_245 (by decide) rfl ?_
        exact w_lv [3, 2, 0, 1] t9
      | false =>
        refine w_aload_n dX7_laysPosition_177 rfl ?_
        refine x_geti (ci := 7) (k := 41) dX7_laysPosition_178 rfl (by decide) (by decide) (by omega) fl_X7_292 rfl ?_
        rw [a2]
        refine w_if_ne (tgt := 203) dX7_laysPosition_181 (by decide) (fun c_181 => absurd (rfl) c_181) (fun c_181 => ?_)
        refine w_aload_n dX7_laysPosition_184 rfl ?_
        refine x_getr (ci := 7) (k := 0) (a := 80) dX7_laysPosition_185 rfl (by decide) (by decide) (by omega) fl_X7_7 (Or.inr ⟨_, rfl⟩) hR.2.1 ?_
        refine w_bipush (v := 10) dX7_laysPosition_188 (by decide) ?_
        refine x_iald (j := 10) dX7_laysPosition_190 rfl (by omega) rfl (show 10 < 172 by decide) ?_
        rw [e80, n6]
        refine w_iconst (v := 1) dX7_laysPosition_191 (by decide) ?_
        refine w_icmp_ne (tgt := 199) dX7_laysPosition_192 (by decide) (fun c_192 => ?_) (fun c_192 => absurd c_192 ((by decide)))
        refine w_iconst (v := 0) dX7_laysPosition_199 (by decide) ?_
        refine w_goto (tgt := 216) dX7_laysPosition_200 (by decide) ?_
        refine w_istore_n dX7_laysPosition_216 (by decide) rfl ?_
        refine w_aload_n dX7_laysPosition_217 rfl ?_
        refine x_geti (ci := 7) (k := 41) dX7_laysPosition_218 rfl (by decide) (by decide) (by omega) fl_X7_292 rfl ?_
        rw [a2]
        refine w_if_ne (tgt := 228) dX7_laysPosition_221 (by decide) (fun c_221 => absurd (rfl) c_221) (fun c_221 => ?_)
        refine w_iconst (v := 0) dX7_laysPosition_224 (by decide) ?_
        refine w_goto (tgt := 245) dX7_laysPosition_225 (by decide) ?_
        refine w_istore_n dX7_laysPosition_245 (by decide) rfl ?_
        exact w_lv [3, 2, 0, 1] t9
    · have hvv : val c p = (decide (lostMin os < 64), 1 + (if lostMin os < 64 then lostMin os else allMax os), v0) := by rw [hv]; unfold comb; rw [if_neg he, hv0]
      have hlp : 0 < os.length := List.length_pos_iff.mpr he
      rw [if_neg he] at a4
      by_cases h64 : lostMin os < 64
      · rw [if_pos h64] at a3
        have t9 := s246 I' true (1 + lostMin os) v0 u1 u2 hf'.1 ⟨a1, a6⟩ g2 g3 (by rw [hvv]; unfold encM; rw [if_pos h64]; simp [h64])
        refine w_aload_n dX7_laysPosition_177 rfl ?_
        refine x_geti (ci := 7) (k := 41) dX7_laysPosition_178 rfl (by decide) (by decide) (by omega) fl_X7_292 rfl ?_
        rw [a2]
        refine w_if_ne (tgt := 203) dX7_laysPosition_181 (by decide) (fun c_181 => ?_) (fun c_181 => absurd c_181 ((fun q => absurd (n_eq (b := 0) q) (by omega))))
        refine w_aload_n dX7_laysPosition_203 rfl ?_
        refine x_geti (ci := 7) (k := 42) dX7_laysPosition_204 rfl (by decide) (by decide) (by omega) fl_X7_304 rfl ?_
        rw [a3]
        refine w_iconst (v := (-1)) dX7_laysPosition_207 (by decide) ?_
        refine w_icmp_eq (tgt := 215) dX7_laysPosition_208 (by decide) (fun c_208 => absurd c_208 ((show ¬ nI (lostMin os) = -1 from fun q => by have := congrArg Int32.toInt q; rw [nI_toInt (by omega)] at this; have e : (-1 : Int32).toInt = -1 := rfl; omega))) (fun c_208 => ?_)
        refine w_iconst (v := 1) dX7_laysPosition_211 (by decide) ?_
        refine w_goto (tgt := 216) dX7_laysPosition_212 (by decide) ?_
        refine w_istore_n dX7_laysPosition_216 (by decide) rfl ?_
        refine w_aload_n dX7_laysPosition_217 rfl ?_
        refine x_geti (ci := 7) (k := 41) dX7_laysPosition_218 rfl (by decide) (by decide) (by omega) fl_X7_292 rfl ?_
        rw [a2]
        refine w_if_ne (tgt := 228) dX7_laysPosition_221 (by decide) (fun c_221 => ?_) (fun c_221 => absurd c_221 ((fun q => absurd (n_eq (b := 0) q) (by omega))))
        refine w_iconst (v := 1) dX7_laysPosition_228 (by decide) ?_
        refine w_iload_n dX7_laysPosition_229 rfl ?_
        refine w_if_eq (tgt := 240) dX7_laysPosition_230 (by decide) (fun c_230 => absurd c_230 ((by decide))) (fun c_230 => ?_)
        refine w_aload_n dX7_laysPosition_233 rfl ?_
        refine x_geti (ci := 7) (k := 42) dX7_laysPosition_234 rfl (by decide) (by decide) (by omega) fl_X7_304 rfl ?_
        rw [a3]
        refine w_goto (tgt := 244) dX7_laysPosition_237 (by decide) ?_
        refine w_iadd dX7_laysPosition_244 ?_
        refine w_st (show _ = [.int (nI (1 + lostMin os))] from by rw [← nI_add]; rfl) ?_
        refine w_istore_n dX7_laysPosition_245 (by decide) rfl ?_
        exact w_lv [3, 2, 0, 1] t9
      · rw [if_neg h64] at a3
        have t9 := s246 I' false (1 + allMax os) v0 u1 u2 hf'.1 ⟨a1, a6⟩ g2 g3 (by rw [hvv]; unfold encM; rw [if_neg h64]; simp [h64])
        refine w_aload_n dX7_laysPosition_177 rfl ?_
        refine x_geti (ci := 7) (k := 41) dX7_laysPosition_178 rfl (by decide) (by decide) (by omega) fl_X7_292 rfl ?_
        rw [a2]
        refine w_if_ne (tgt := 203) dX7_laysPosition_181 (by decide) (fun c_181 => ?_) (fun c_181 => absurd c_181 ((fun q => absurd (n_eq (b := 0) q) (by omega))))
        refine w_aload_n dX7_laysPosition_203 rfl ?_
        refine x_geti (ci := 7) (k := 42) dX7_laysPosition_204 rfl (by decide) (by decide) (by omega) fl_X7_304 rfl ?_
        rw [a3]
        refine w_iconst (v := (-1)) dX7_laysPosition_207 (by decide) ?_
        refine w_icmp_eq (tgt := 215) dX7_laysPosition_208 (by decide) (fun c_208 => ?_) (fun c_208 => absurd (rfl) c_208)
        refine w_iconst (v := 0) dX7_laysPosition_215 (by decide) ?_
        refine w_istore_n dX7_laysPosition_216 (by decide) rfl ?_
        refine w_aload_n dX7_laysPosition_217 rfl ?_
        refine x_geti (ci := 7) (k := 41) dX7_laysPosition_218 rfl (by decide) (by decide) (by omega) fl_X7_292 rfl ?_
        rw [a2]
        refine w_if_ne (tgt := 228) dX7_laysPosition_221 (by decide) (fun c_221 => ?_) (fun c_221 => absurd c_221 ((fun q => absurd (n_eq (b := 0) q) (by omega))))
        refine w_iconst (v := 1) dX7_laysPosition_228 (by decide) ?_
        refine w_iload_n dX7_laysPosition_229 rfl ?_
        refine w_if_eq (tgt := 240) dX7_laysPosition_230 (by decide) (fun c_230 => ?_) (fun c_230 => absurd (rfl) c_230)
        refine w_aload_n dX7_laysPosition_240 rfl ?_
        refine x_geti (ci := 7) (k := 43) dX7_laysPosition_241 rfl (by decide) (by decide) (by omega) fl_X7_307 rfl ?_
        rw [a4]
        refine w_iadd dX7_laysPosition_244 ?_
        refine w_st (show _ = [.int (nI (1 + allMax os))] from by rw [← nI_add]; rfl) ?_
        refine w_istore_n dX7_laysPosition_245 (by decide) rfl ?_
        exact w_lv [3, 2, 0, 1] t9
  have s152 : ∀ (I' : Nat → Nat → Int32), acM I' (r + 1) ((mvP c p).map (fun x => val c (p - x.code))) → frP2 I I' → I' 98 = I 98 → g_Wp E l mX7_laysPosition { frames := 3, cells := 0, slots := 0, locals := 68 } (g_Fin E (g_rv (fun I' => frP2 I I' ∧ rdM I' (r + 1) ∧ tbM I' c (t + 1)) J R D N ex) 0 0) 0 0 152 [(2, .int (nI c.m)), (0, .ref 79), (1, .int (nI t))] [] (I', J, R, D, N, ex) := by
    intro I' g1 g2 g3
    have e80 : I' 80 = I 80 := g2.1 80 (by decide) (by decide) (by decide)
    have hpo : I' 80 0 = nI c.m := by rw [e80]; exact n1
    have hpp := pA_pass (t := t) hm4
    rw [hpe] at hpp
    have hlen : (mvP c p).length ≤ 81 := by have := mvs_81 hok p; unfold mvs at this; rw [List.length_append] at this; omega
    by_cases h1 : t < 16 ^ c.m
    · have em : mvs c p = mvP c p := by unfold mvs; rw [if_neg (fun q => by have := hpp.mpr q.2; omega), List.append_nil]
      have t9 := s177 I' (by rw [em]; exact g1) g2 g3
      refine w_iload_n dX7_laysPosition_152 rfl ?_
      refine w_aload_n dX7_laysPosition_153 rfl ?_
      refine y_callV dX7_laysPosition_154 lk_X7_286 [] rfl (m_positions E l hR hpo hm4) (g_recv.obj (ci := 7) rfl (by decide) (show 79 < N by omega)) rfl ⟨⟨by decide, by decide⟩, by decide, by decide⟩ (lb rfl) ?_
      refine w_icmp_lt (tgt := 177) dX7_laysPosition_157 (by decide) (fun c_157 => ?_) (fun c_157 => absurd ((nI_lt (by omega) (by omega))) c_157)
      exact w_lv [2, 0, 1] t9
    · by_cases h2 : mvP c p = []
      · have em : mvs c p = mvP c p := by unfold mvs; rw [if_neg (fun q => q.1 h2), List.append_nil]
        have t9 := s177 I' (by rw [em]; exact g1) g2 g3
        have e41 := g1.2.1
        rw [h2] at e41
        refine w_iload_n dX7_laysPosition_152 rfl ?_
        refine w_aload_n dX7_laysPosition_153 rfl ?_
        refine y_callV dX7_laysPosition_154 lk_X7_286 [] rfl (m_positions E l hR hpo hm4) (g_recv.obj (ci := 7) rfl (by decide) (show 79 < N by omega)) rfl ⟨⟨by decide, by decide⟩, by decide, by decide⟩ (lb rfl) ?_
        refine w_icmp_lt (tgt := 177) dX7_laysPosition_157 (by decide) (fun c_157 => absurd c_157 ((nI_nlt (by omega) (by omega)))) (fun c_157 => ?_)
        refine w_aload_n dX7_laysPosition_160 rfl ?_
        refine x_geti (ci := 7) (k := 41) dX7_laysPosition_161 rfl (by decide) (by decide) (by omega) fl_X7_292 rfl ?_
        rw [e41]
        refine w_if_le (tgt := 177) dX7_laysPosition_164 (by decide) (fun c_164 => ?_) (fun c_164 => absurd ((show nI 0 ≤ 0 from by decide)) c_164)
        exact w_lv [2, 0, 1] t9
      · have em : mvs c p = mvP c p ++ [Mv.pass] := by unfold mvs; rw [if_pos ⟨h2, hpp.mp (by omega)⟩]
        have t9 := s177
        rw [em, List.map_append] at t9
        have e41 := g1.2.1
        rw [List.length_map] at e41
        have hl1 : 0 < (mvP c p).length := List.length_pos_iff.mpr h2
        have g0 : 0 < 16 ^ c.m := Nat.pow_pos (by decide)
        have g4 := htb (t - 16 ^ c.m) (by omega)
        rw [pA_pas2 hm4 (by omega), hpe] at g4
        refine w_iload_n dX7_laysPosition_152 rfl ?_
        refine w_aload_n dX7_laysPosition_153 rfl ?_
        refine y_callV dX7_laysPosition_154 lk_X7_286 [] rfl (m_positions E l hR hpo hm4) (g_recv.obj (ci := 7) rfl (by decide) (show 79 < N by omega)) rfl ⟨⟨by decide, by decide⟩, by decide, by decide⟩ (lb rfl) ?_
        refine w_icmp_lt (tgt := 177) dX7_laysPosition_157 (by decide) (fun c_157 => absurd c_157 ((nI_nlt (by omega) (by omega)))) (fun c_157 => ?_)
        refine w_aload_n dX7_laysPosition_160 rfl ?_
        refine x_geti (ci := 7) (k := 41) dX7_laysPosition_161 rfl (by decide) (by decide) (by omega) fl_X7_292 rfl ?_
        rw [e41]
        refine w_if_le (tgt := 177) dX7_laysPosition_164 (by decide) (fun c_164 => absurd c_164 ((fun q => absurd (n_le (b := 0) q) (by omega)))) (fun c_164 => ?_)
        refine w_aload_n dX7_laysPosition_167 rfl ?_
        refine w_iload_n dX7_laysPosition_168 rfl ?_
        refine w_aload_n dX7_laysPosition_169 rfl ?_
        refine y_callV dX7_laysPosition_170 lk_X7_286 [] rfl (m_positions E l hR hpo hm4) (g_recv.obj (ci := 7) rfl (by decide) (show 79 < N by omega)) rfl ⟨⟨by decide, by decide⟩, by decide, by decide⟩ (lb rfl) ?_
        refine w_isub dX7_laysPosition_173 ?_
        rw [pk_sub (by omega)]
        refine u_callV dX7_laysPosition_174 lk_X7_319 [.int (nI (t - 16 ^ c.m))] rfl (m_leads E l hR (by omega) (by rw [g3]; exact g4) (val_rs hm4 (by omega)) g1) (g_recv.obj (ci := 7) rfl (by decide) (show 79 < N by omega)) rfl ⟨⟨by decide, by decide⟩, by decide, by decide⟩ (lb rfl) (fun I2 h_174 => ?_)
        obtain ⟨k1, k2⟩ := h_174
        exact w_lv [2, 0, 1] (t9 I2 k1 (g2.trans k2.p) ((k2.1 98 (by decide) (by decide)).trans g3))
  have s109 : ∀ (f h : Nat) (I' : Nat → Nat → Int32), h + f = c.m → acM I' (r + 1) ((mvT c p c.m ++ mvB c p h).map (fun x => val c (p - x.code))) → frP2 I I' → I' 98 = I 98 → g_Wp E l mX7_laysPosition { frames := 3, cells := 0, slots := 0, locals := 68 } (g_Fin E (g_rv (fun I' => frP2 I I' ∧ rdM I' (r + 1) ∧ tbM I' c (t + 1)) J R D N ex) 0 0) 0 0 109 [(2, .int (nI h)), (0, .ref 79), (1, .int (nI t))] [] (I', J, R, D, N, ex) := by
    intro f
    induction f with
    | zero =>
      intro h I' hh g1 g2 g3
      obtain rfl : h = c.m := by omega
      have e80 : I' 80 = I 80 := g2.1 80 (by decide) (by decide) (by decide)
      refine w_iload_n dX7_laysPosition_109 rfl ?_
      refine w_aload_n dX7_laysPosition_110 rfl ?_
      refine x_getr (ci := 7) (k := 0) (a := 80) dX7_laysPosition_111 rfl (by decide) (by decide) (by omega) fl_X7_7 (Or.inr ⟨_, rfl⟩) hR.2.1 ?_
      refine w_iconst (v := 0) dX7_laysPosition_114 (by decide) ?_
      refine x_iald (j := 0) dX7_laysPosition_115 rfl (by omega) rfl (show 0 < 172 by decide) ?_
      rw [e80, n1]
      refine w_icmp_ge (tgt := 152) dX7_laysPosition_116 (by decide) (fun c_116 => ?_) (fun c_116 => absurd ((nI_le (by omega) (by omega))) c_116)
      exact w_lv [2, 0, 1] (s152 I' g1 g2 g3)
    | succ f ih =>
      intro h I' hh g1 g2 g3
      have s123 : ∀ (f2 o : Nat) (I' : Nat → Nat → Int32), o + f2 = c.m → h < o → acM I' (r + 1) ((mvT c p c.m ++ (mvB c p h ++ mvS c p h o)).map (fun x => val c (p - x.code))) → frP2 I I' → I' 98 = I 98 → g_Wp E l mX7_laysPosition { frames := 3, cells := 0, slots := 0, locals := 68 } (g_Fin E (g_rv (fun I' => frP2 I I' ∧ rdM I' (r + 1) ∧ tbM I' c (t + 1)) J R D N ex) 0 0) 0 0 123 [(3, .int (nI o)), (2, .int (nI h)), (0, .ref 79), (1, .int (nI t))] [] (I', J, R, D, N, ex) := by
        intro f2
        induction f2 with
        | zero =>
          intro o I' ho hlo g1 g2 g3
          obtain rfl : o = c.m := by omega
          have e80 : I' 80 = I 80 := g2.1 80 (by decide) (by decide) (by decide)
          refine w_iload_n dX7_laysPosition_123 rfl ?_
          refine w_aload_n dX7_laysPosition_124 rfl ?_
          refine x_getr (ci := 7) (k := 0) (a := 80) dX7_laysPosition_125 rfl (by decide) (by decide) (by omega) fl_X7_7 (Or.inr ⟨_, rfl⟩) hR.2.1 ?_
          refine w_iconst (v := 0) dX7_laysPosition_128 (by decide) ?_
          refine x_iald (j := 0) dX7_laysPosition_129 rfl (by omega) rfl (show 0 < 172 by decide) ?_
          rw [e80, n1]
          refine w_icmp_ge (tgt := 146) dX7_laysPosition_130 (by decide) (fun c_130 => ?_) (fun c_130 => absurd ((nI_le (by omega) (by omega))) c_130)
          refine w_iinc (v := nI (h + 1)) dX7_laysPosition_146 rfl (nI_inc _) (by decide) rfl ?_
          refine w_goto (tgt := 109) dX7_laysPosition_149 (by decide) ?_
          exact w_lv [2, 0, 1] (ih (h + 1) I' (by omega) g1 g2 g3)
        | succ f2 ih2 =>
          intro o I' ho hlo g1 g2 g3
          have e80 : I' 80 = I 80 := g2.1 80 (by decide) (by decide) (by decide)
          have t9 := ih2 (o + 1)
          rw [mvS, if_pos hlo, hdg h (by omega), hdg o (by omega), csh, ← List.append_assoc (mvB c p h), ← List.append_assoc (mvT c p c.m)] at t9
          refine w_iload_n dX7_laysPosition_123 rfl ?_
          refine w_aload_n dX7_laysPosition_124 rfl ?_
          refine x_getr (ci := 7) (k := 0) (a := 80) dX7_laysPosition_125 rfl (by decide) (by decide) (by omega) fl_X7_7 (Or.inr ⟨_, rfl⟩) hR.2.1 ?_
          refine w_iconst (v := 0) dX7_laysPosition_128 (by decide) ?_
          refine x_iald (j := 0) dX7_laysPosition_129 rfl (by omega) rfl (show 0 < 172 by decide) ?_
          rw [e80, n1]
          refine w_icmp_ge (tgt := 146) dX7_laysPosition_130 (by decide) (fun c_130 => absurd c_130 ((nI_ge (by omega) (by omega)))) (fun c_130 => ?_)
          refine w_aload_n dX7_laysPosition_133 rfl ?_
          refine w_iload_n dX7_laysPosition_134 rfl ?_
          refine w_iload_n dX7_laysPosition_135 rfl ?_
          refine w_iload_n dX7_laysPosition_136 rfl ?_
          refine u_callV dX7_laysPosition_137 lk_X7_322 [.int (nI t), .int (nI h), .int (nI o)] rfl (m_leadsShared E l hR (s := ru.2.2) (by rw [g2.2 16 (by decide) (by decide) (by decide) (by decide)]; exact hw.1) hru6 ht2 hlo (by omega) g1 (fun a a1 a2 _ => by obtain ⟨z1, z2, z3⟩ := hV2 h o hlo (by omega) a a1 a2; exact ⟨z1, by rw [g3]; exact z2, z3⟩)) (g_recv.obj (ci := 7) rfl (by decide) (show 79 < N by omega)) rfl ⟨⟨by decide, by decide⟩, by decide, by decide⟩ (lb rfl) (fun I2 h_137 => ?_)
          obtain ⟨k1, k2⟩ := h_137
          refine w_iinc (v := nI (o + 1)) dX7_laysPosition_140 rfl (nI_inc _) (by decide) rfl ?_
          refine w_goto (tgt := 123) dX7_laysPosition_143 (by decide) ?_
          exact w_lv [3, 2, 0, 1] (t9 I2 (by omega) (by omega) k1 (g2.trans k2.p) ((k2.1 98 (by decide) (by decide)).trans g3))
      have e80 : I' 80 = I 80 := g2.1 80 (by decide) (by decide) (by decide)
      refine w_iload_n dX7_laysPosition_109 rfl ?_
      refine w_aload_n dX7_laysPosition_110 rfl ?_
      refine x_getr (ci := 7) (k := 0) (a := 80) dX7_laysPosition_111 rfl (by decide) (by decide) (by omega) fl_X7_7 (Or.inr ⟨_, rfl⟩) hR.2.1 ?_
      refine w_iconst (v := 0) dX7_laysPosition_114 (by decide) ?_
      refine x_iald (j := 0) dX7_laysPosition_115 rfl (by omega) rfl (show 0 < 172 by decide) ?_
      rw [e80, n1]
      refine w_icmp_ge (tgt := 152) dX7_laysPosition_116 (by decide) (fun c_116 => absurd c_116 ((nI_ge (by omega) (by omega)))) (fun c_116 => ?_)
      refine w_iload_n dX7_laysPosition_119 rfl ?_
      refine w_iconst (v := 1) dX7_laysPosition_120 (by decide) ?_
      refine w_iadd dX7_laysPosition_121 ?_
      rw [nI_1]
      refine w_istore_n dX7_laysPosition_122 (by decide) rfl ?_
      exact w_lv [3, 2, 0, 1] (s123 (c.m - (h + 1)) (h + 1) I' (by omega) (by omega) (by rw [mvS_nil c p h (h + 1) (Nat.le_refl _), List.append_nil]; exact g1) g2 g3)
  have s27 : ∀ (f k : Nat) (I' : Nat → Nat → Int32), k + f = c.m → acM I' (r + 1) ((mvT c p k).map (fun x => val c (p - x.code))) → frP2 I I' → I' 98 = I 98 → g_Wp E l mX7_laysPosition { frames := 3, cells := 0, slots := 0, locals := 68 } (g_Fin E (g_rv (fun I' => frP2 I I' ∧ rdM I' (r + 1) ∧ tbM I' c (t + 1)) J R D N ex) 0 0) 0 0 27 [(2, .int (nI k)), (0, .ref 79), (1, .int (nI t))] [] (I', J, R, D, N, ex) := by
    intro f
    induction f with
    | zero =>
      intro k I' hk g1 g2 g3
      obtain rfl : k = c.m := by omega
      have e80 : I' 80 = I 80 := g2.1 80 (by decide) (by decide) (by decide)
      refine w_iload_n dX7_laysPosition_27 rfl ?_
      refine w_aload_n dX7_laysPosition_28 rfl ?_
      refine x_getr (ci := 7) (k := 0) (a := 80) dX7_laysPosition_29 rfl (by decide) (by decide) (by omega) fl_X7_7 (Or.inr ⟨_, rfl⟩) hR.2.1 ?_
      refine w_iconst (v := 0) dX7_laysPosition_32 (by decide) ?_
      refine x_iald (j := 0) dX7_laysPosition_33 rfl (by omega) rfl (show 0 < 172 by decide) ?_
      rw [e80, n1]
      refine w_icmp_ge (tgt := 107) dX7_laysPosition_34 (by decide) (fun c_34 => ?_) (fun c_34 => absurd ((nI_le (by omega) (by omega))) c_34)
      refine w_iconst (v := 0) dX7_laysPosition_107 (by decide) ?_
      refine w_istore_n dX7_laysPosition_108 (by decide) rfl ?_
      exact w_lv [2, 0, 1] (s109 c.m 0 I' (by omega) (by rw [show mvB c p 0 = [] from rfl, List.append_nil]; exact g1) g2 g3)
    | succ f ih =>
      intro k I' hk g1 g2 g3
      have e80 : I' 80 = I 80 := g2.1 80 (by decide) (by decide) (by decide)
      have hkr : k < rs.length := by omega
      have hrm := n3 _ (getD_mem hkr)
      have hdl := dig_lt t k
      obtain ⟨x, x1, x2, x3⟩ := hw.2 _ hrm (dig t k) hdl
      have t8 := ih (k + 1)
      rw [mvT, hdg k (by omega)] at t8
      have s66 : ∀ (f2 a : Nat) (I' : Nat → Nat → Int32), a + f2 = dig t k → acM I' (r + 1) ((mvT c p k ++ (amt (c.al k (dig t k)) a).map (Mv.take k)).map (fun x => val c (p - x.code))) → frP2 I I' → I' 98 = I 98 → g_Wp E l mX7_laysPosition { frames := 3, cells := 0, slots := 0, locals := 68 } (g_Fin E (g_rv (fun I' => frP2 I I' ∧ rdM I' (r + 1) ∧ tbM I' c (t + 1)) J R D N ex) 0 0) 0 0 66 [(5, .int (nI (a + 1))), (4, .int (nI x)), (3, .int (nI (dig t k))), (2, .int (nI k)), (0, .ref 79), (1, .int (nI t))] [] (I', J, R, D, N, ex) := by
        intro f2
        induction f2 with
        | zero =>
          intro a I' ha g1 g2 g3
          obtain rfl : a = dig t k := by omega
          refine w_iload dX7_laysPosition_66 rfl ?_
          refine w_iload_n dX7_laysPosition_68 rfl ?_
          refine w_icmp_gt (tgt := 101) dX7_laysPosition_69 (by decide) (fun c_69 => ?_) (fun c_69 => absurd ((nI_lt (by omega) (by omega))) c_69)
          refine w_iinc (v := nI (k + 1)) dX7_laysPosition_101 rfl (nI_inc _) (by decide) rfl ?_
          refine w_goto (tgt := 27) dX7_laysPosition_104 (by decide) ?_
          exact w_lv [2, 0, 1] (t8 I' (by omega) g1 g2 g3)
        | succ f2 ih2 =>
          intro a I' ha g1 g2 g3
          have t9 := ih2 (a + 1)
          rw [show amt (c.al k (dig t k)) (a + 1) = amt (c.al k (dig t k)) a ++ (if c.al k (dig t k) (a + 1) then [a + 1] else []) from rfl] at t9
          have hb9 : x.testBit (a + 1) = c.al k (dig t k) (a + 1) := by rw [cal]; exact x3 (a + 1) (by omega) (by omega)
          obtain ⟨z1, z2, z3⟩ := hV1 k (by omega) (a + 1) (by omega) (by omega)
          refine w_iload dX7_laysPosition_66 rfl ?_
          refine w_iload_n dX7_laysPosition_68 rfl ?_
          refine w_icmp_gt (tgt := 101) dX7_laysPosition_69 (by decide) (fun c_69 => absurd c_69 ((nI_nlt (by omega) (by omega)))) (fun c_69 => ?_)
          refine w_iload dX7_laysPosition_72 rfl ?_
          refine w_iload dX7_laysPosition_74 rfl ?_
          refine y_callS dX7_laysPosition_76 lk_X7_313 [.int (nI x), .int (nI (a + 1))] rfl (m_has E l _ (by omega) (by omega)) rfl ⟨⟨by decide, by decide⟩, by decide, by decide⟩ (lb rfl) ?_
          refine w_if_eq (tgt := 95) dX7_laysPosition_79 (by decide) (fun c_79 => ?_) (fun c_79 => ?_)
          · refine w_iinc (v := nI (a + 1 + 1)) dX7_laysPosition_95 rfl (nI_inc _) (by decide) rfl ?_
            refine w_goto (tgt := 66) dX7_laysPosition_98 (by decide) ?_
            first | (have hb := b2i_ne.mp c_79; rw [hb9] at hb; rw [hb] at t9; refine w_lv [5, 4, 3, 2, 0, 1] (t9 I2 (by omega) ?_ (g2.trans k2.p) ((k2.1 98 (by decide) (by decide)).trans g3)); rw [if_pos rfl, List.map_append (l₁ := amt (c.al k (dig t k)) a), ← List.append_assoc, List.map_append]; exact k1) | (have hb := b2i_0.mp c_79; rw [hb9] at hb; rw [hb, if_neg (by decide), List.append_nil] at t9; exact w_lv [5, 4, 3, 2, 0, 1] (t9 I' (by omega) g1 g2 g3))
          · refine w_aload_n dX7_laysPosition_82 rfl ?_
            refine w_iload_n dX7_laysPosition_83 rfl ?_
            refine w_iload dX7_laysPosition_84 rfl ?_
            refine w_iload_n dX7_laysPosition_86 rfl ?_
            refine y_callS dX7_laysPosition_87 lk_X7_316 [.int (nI k)] rfl (m_weight E l _ (by omega)) rfl ⟨⟨by decide, by decide⟩, by decide, by decide⟩ (lb rfl) ?_
            refine w_imul dX7_laysPosition_90 ?_
            rw [pk_mul]
            refine w_isub dX7_laysPosition_91 ?_
            rw [pk_sub (by omega)]
            refine u_callV dX7_laysPosition_92 lk_X7_319 [.int (nI (t - (a + 1) * 2 ^ (4 * k)))] rfl (m_leads E l hR (by omega) (by rw [g3]; exact z2) z3 g1) (g_recv.obj (ci := 7) rfl (by decide) (show 79 < N by omega)) rfl ⟨⟨by decide, by decide⟩, by decide, by decide⟩ (lb rfl) (fun I2 h_92 => ?_)
            obtain ⟨k1, k2⟩ := h_92
            refine w_iinc (v := nI (a + 1 + 1)) dX7_laysPosition_95 rfl (nI_inc _) (by decide) rfl ?_
            refine w_goto (tgt := 66) dX7_laysPosition_98 (by decide) ?_
            first | (have hb := b2i_ne.mp c_79; rw [hb9] at hb; rw [hb] at t9; refine w_lv [5, 4, 3, 2, 0, 1] (t9 I2 (by omega) ?_ (g2.trans k2.p) ((k2.1 98 (by decide) (by decide)).trans g3)); rw [if_pos rfl, List.map_append (l₁ := amt (c.al k (dig t k)) a), ← List.append_assoc, List.map_append]; exact k1) | (have hb := b2i_0.mp c_79; rw [hb9] at hb; rw [hb, if_neg (by decide), List.append_nil] at t9; exact w_lv [5, 4, 3, 2, 0, 1] (t9 I' (by omega) g1 g2 g3))
      refine w_iload_n dX7_laysPosition_27 rfl ?_
      refine w_aload_n dX7_laysPosition_28 rfl ?_
      refine x_getr (ci := 7) (k := 0) (a := 80) dX7_laysPosition_29 rfl (by decide) (by decide) (by omega) fl_X7_7 (Or.inr ⟨_, rfl⟩) hR.2.1 ?_
      refine w_iconst (v := 0) dX7_laysPosition_32 (by decide) ?_
      refine x_iald (j := 0) dX7_laysPosition_33 rfl (by omega) rfl (show 0 < 172 by decide) ?_
      rw [e80, n1]
      refine w_icmp_ge (tgt := 107) dX7_laysPosition_34 (by decide) (fun c_34 => absurd c_34 ((nI_ge (by omega) (by omega)))) (fun c_34 => ?_)
      refine w_iload_n dX7_laysPosition_37 rfl ?_
      refine w_iload_n dX7_laysPosition_38 rfl ?_
      refine y_callS dX7_laysPosition_39 lk_X7_310 [.int (nI t), .int (nI k)] rfl (m_counters E l _ (by omega) (by omega)) rfl ⟨⟨by decide, by decide⟩, by decide, by decide⟩ (lb rfl) ?_
      refine w_istore_n dX7_laysPosition_42 (by decide) rfl ?_
      refine w_aload_n dX7_laysPosition_43 rfl ?_
      refine x_getr (ci := 7) (k := 20) (a := 95) dX7_laysPosition_44 rfl (by decide) (by decide) (by omega) fl_X7_57 (Or.inr ⟨_, rfl⟩) hR.2.2.2.2.2.2.2.2.2.2.2.2.2.2.2.2.1 ?_
      refine w_bipush (v := 16) dX7_laysPosition_47 (by decide) ?_
      refine w_aload_n dX7_laysPosition_49 rfl ?_
      refine x_getr (ci := 7) (k := 0) (a := 80) dX7_laysPosition_50 rfl (by decide) (by decide) (by omega) fl_X7_7 (Or.inr ⟨_, rfl⟩) hR.2.1 ?_
      refine w_iconst (v := 1) dX7_laysPosition_53 (by decide) ?_
      refine w_iload_n dX7_laysPosition_54 rfl ?_
      refine w_iadd dX7_laysPosition_55 ?_
      rw [show (1 : Int32) + nI k = nI (1 + k) from by rw [← nI_add]; rfl]
      refine x_iald (j := 1 + k) dX7_laysPosition_56 rfl (by omega) rfl (show 1 + k < 172 by omega) ?_
      rw [e80, n5 k hkr]
      refine w_imul dX7_laysPosition_57 ?_
      refine w_st (show _ = [.int (nI (16 * rs.getD k 0)), .ref 95] from by rw [← pk_mul]; rfl) ?_
      refine w_iload_n dX7_laysPosition_58 rfl ?_
      refine w_iadd dX7_laysPosition_59 ?_
      rw [nI_add]
      refine x_iald (j := 16 * rs.getD k 0 + dig t k) dX7_laysPosition_60 rfl (by omega) rfl (show 16 * rs.getD k 0 + dig t k < 96 by omega) ?_
      rw [g2.1 95 (by decide) (by decide) (by decide), x2]
      refine w_istore dX7_laysPosition_61 (by decide) rfl ?_
      refine w_iconst (v := 1) dX7_laysPosition_63 (by decide) ?_
      refine w_istore dX7_laysPosition_64 (by decide) rfl ?_
      exact w_lv [5, 4, 3, 2, 0, 1] (s66 (dig t k) 0 I' (by omega) (by rw [show amt (c.al k (dig t k)) 0 = [] from rfl, List.map_nil, List.append_nil]; exact g1) g2 g3)
  have e19 : I 79 19 + 1 = nI (r + 1) := by rw [hr.1, nI_1]
  refine w_aload_n dX7_laysPosition_0 rfl ?_
  refine w_dup dX7_laysPosition_1 rfl ?_
  refine x_geti (ci := 7) (k := 19) dX7_laysPosition_2 rfl (by decide) (by decide) (by omega) fl_X7_95 rfl ?_
  rw [hr.1]
  refine w_iconst (v := 1) dX7_laysPosition_5 (by decide) ?_
  refine w_iadd dX7_laysPosition_6 ?_
  rw [nI_1]
  refine x_puti (ci := 7) (k := 19) dX7_laysPosition_7 rfl (by decide) (by decide) (by omega) fl_X7_95 rfl rfl ?_
  refine w_aload_n dX7_laysPosition_10 rfl ?_
  refine w_iconst (v := 0) dX7_laysPosition_11 (by decide) ?_
  refine x_puti (ci := 7) (k := 41) dX7_laysPosition_12 rfl (by decide) (by decide) (by omega) fl_X7_292 rfl rfl ?_
  refine w_aload_n dX7_laysPosition_15 rfl ?_
  refine w_iconst (v := (-1)) dX7_laysPosition_16 (by decide) ?_
  refine x_puti (ci := 7) (k := 42) dX7_laysPosition_17 rfl (by decide) (by decide) (by omega) fl_X7_304 rfl rfl ?_
  refine w_aload_n dX7_laysPosition_20 rfl ?_
  refine w_iconst (v := (-1)) dX7_laysPosition_21 (by decide) ?_
  refine x_puti (ci := 7) (k := 43) dX7_laysPosition_22 rfl (by decide) (by decide) (by omega) fl_X7_307 rfl rfl ?_
  refine w_iconst (v := 0) dX7_laysPosition_25 (by decide) ?_
  refine w_istore_n dX7_laysPosition_26 (by decide) rfl ?_
  refine w_lv [2, 0, 1] (s27 c.m 0 _ (by omega) ?_ ⟨fun o a b _ => by funext j; rw [up2_n _ _ (by simp [a]), up2_n _ _ (by simp [a]), up2_n _ _ (by simp [a]), up2_n _ _ (by simp [a])], fun k a b d e => by rw [up2_n _ _ (by simp [e]), up2_n _ _ (by simp [d]), up2_n _ _ (by simp [b]), up2_n _ _ (by simp [a])]⟩ rfl)
  refine ⟨rfl, rfl, rfl, rfl, fun v hv => ?_, fun v hv => ?_, fun x hx => absurd hx List.not_mem_nil⟩
  · obtain ⟨m, m1, m2⟩ := hr.2 v hv
    rw [show (up2 (up2 (up2 (up2 I 79 19 (nI (r + 1))) 79 41 0) 79 42 (-1)) 79 43 (-1)) 94 v = I 94 v from rfl, m2]
    constructor
    · intro q; have := n_eq q (by omega) (by omega); omega
    · intro q; cases q
  · obtain ⟨m, m1, m2⟩ := hr.2 v hv
    exact ⟨m, by omega, m2⟩
end MK
