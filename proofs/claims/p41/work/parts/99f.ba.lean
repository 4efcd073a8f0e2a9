/-! begins: the text goes into the buffer -/
theorem g_Ct.mono {E : GE} {l : Launch} {μ : GM} {f q mc ms : Nat} {as : List Value} {w : GW} {Z Z' : GZ} (h : g_Ct E l μ f q mc ms as w Z) (hz : ∀ o w', Z o w' → Z' o w') : g_Ct E l μ f q mc ms as w Z' := by
  refine MetFree.mono h (fun _ _ h => h) (fun _ _ _ _ _ h => h) (fun a st o t _ hq => ?_)
  rcases hq with ⟨⟨v, w1, e1, z1, r1⟩, F⟩ | ⟨q, e, X, ce, L, ⟨w1, z1, r1⟩, rest⟩
  · exact Or.inl ⟨⟨v, w1, e1, hz _ _ z1, r1⟩, F⟩
  · exact Or.inr ⟨q, e, X, ce, L, ⟨w1, hz _ _ z1, r1⟩, rest⟩
theorem rC.fl {I I' : Nat → Nat → Int32} {J J' : Nat → Nat → Int64} {sw : Bool} {A : AS} {n : Nat} (h : rC I J sw A n) (e : ∀ o, o < 79 → I' o = I o) (fJ : ∀ o, o < 79 → J' o = J o) : rC I' J' sw A n := by
  have hg := gm_b sw
  have hd := dg_b sw
  obtain ⟨h1, h2, h3, h4, h5, h6, h7, h8, h9, h10, h11⟩ := h
  have hk6 : A.nr ≤ 6 := h1.2
  refine ⟨⟨by rw [e _ (by omega)]; exact h1.1, h1.2⟩, h2, ⟨by rw [e _ (by omega)]; exact h3.1, fun k hk => ?_⟩, fun k hk m hm => ?_, h5, h6.fr (e _ (by omega)) (e _ (by omega)), h7.fr (fun o a b => e o (by omega)) (fun o a b => fJ o (by omega)), ?_, h9.fr (fun o a b => e o (by omega)), fun k hk => ?_, ⟨by rw [e 23 (by decide)]; exact h11.1, h11.2.1, fun i hi => ⟨(h11.2.2 i hi).1, by rw [e 24 (by decide)]; exact (h11.2.2 i hi).2⟩⟩⟩
  · rw [e _ (by omega), fJ _ (by omega)]; exact h3.2 k hk
  · have hk' : k < A.nr := hk
    rw [e _ (by omega)]; exact h4 k hk' m hm
  · obtain ⟨st, T, q1, q2, q3, q4⟩ := h8
    have e47 := e 47 (by omega)
    have e48 := e 48 (by omega)
    have e49 := e 49 (by omega)
    refine ⟨st, T, q1, by rw [e47]; exact q2, fun p hp => by rw [e48]; exact q3 p hp, ?_⟩
    rcases q4 with q4 | ⟨rs, mi, r1, r2, r3, r4⟩
    · exact Or.inl (by rw [e47]; exact q4)
    · refine Or.inr ⟨rs, mi, r1, by rw [e47]; exact r2, ?_, ?_⟩
      · obtain ⟨s1, ⟨t, s2, s3⟩, s4, s5⟩ := r3
        exact ⟨by rw [e47]; exact s1, ⟨t, by rw [e47]; exact s2, s3⟩, by rw [e47]; exact s4, fun h hh n hn => by rw [e49]; exact s5 h hh n hn⟩
      · obtain ⟨⟨s1, s2, s3, s4⟩, s5⟩ := r4
        exact ⟨⟨by rw [e47]; exact s1, s2, s3, fun p hp => by rw [e48]; exact s4 p hp⟩, s5⟩
  · rw [e 74 (by omega)]
    exact ⟨(h10 k hk).1, fun s hs => ⟨((h10 k hk).2 s hs).1, ((h10 k hk).2 s hs).2.fr (e _ (by omega)) (e _ (by omega))⟩⟩
theorem cut_zf {I : Nat → Nat → Int32} {J : Nat → Nat → Int64} {R : Nat → Nat → Option Nat} {D : Nat → Nat → UInt64} {m n : Nat} (h : m ≤ n) : g_zf (cutI m I) (cutJ m J) (cutR m R) (cutD m D) n := fun o ho k => ⟨if_neg (by omega), if_neg (by omega), if_neg (by omega), if_neg (by omega)⟩
theorem sbS.fr {I I' : Nat → Nat → Int32} {R R' : Nat → Nat → Option Nat} {t : Nat → Nat} {n k : Nat} (h : sbS I R t n k) (e : ∀ o, 80 ≤ o → o < 82 + k → I' o = I o) (eR : R' 80 = R 80) : sbS I' R' t n k := by
  obtain ⟨g1, g2, g3, g4, g5, g6, g7⟩ := h
  exact ⟨g1, by rw [eR]; exact g2, by rw [e 80 (by omega) (by omega)]; exact g3, by rw [e 80 (by omega) (by omega)]; exact g4, g5, fun i hi => by rw [e _ (by omega) (by omega)]; exact g6 i hi, fun i => by rw [e _ (by omega) (by omega)]; exact g7 i⟩
theorem ob_v : ∀ j, j < 7 → g_ob (85 + j) = (16, 5) := by decide +kernel
/-- the letters of one append -/
def cjT (T : List Nat) (j x : Nat) : Nat := if 20 * j + x < T.length then T.getD (20 * j + x) 0 else 32
def txT (T : List Nat) (m : Nat) (tx : Nat → Nat) : Prop := ∀ i, i < m → tx i = if i < T.length then T.getD i 0 else 32
def AS.txt (A : AS) (tx : Nat → Nat) (m : Nat) : AS := (A.ru, A.nr, A.st, A.hi, A.sn, tx, m)
theorem txT.add {T : List Nat} {j : Nat} {tx : Nat → Nat} (h : txT T (20 * j) tx) (hc : ∀ k, k < 20 → cjT T j k < 128) : txT T (20 * (j + 1)) (appT tx (20 * j) (nI (pkN (cjT T j) 0 20)) (nI (pkN (cjT T j) 1 20)) (nI (pkN (cjT T j) 2 20)) (nI (pkN (cjT T j) 3 20)) (nI (pkN (cjT T j) 4 20))) := by
  intro i hi
  rw [appT_w hc]
  split
  · unfold cjT
    rw [show 20 * j + (i - 20 * j) = i by omega]
  · exact h i (by omega)
section BA
variable (E : GE) (l : Launch)
variable {I : Nat → Nat → Int32} {J : Nat → Nat → Int64} {R : Nat → Nat → Option Nat} {D : Nat → Nat → UInt64} {Φ : List Frame → Array Value → State → State → Prop} {T : List Nat} {k : Nat} {sw : Bool} {A : AS} {n : Nat} {v3 v4 : Int32}
set_option maxRecDepth 100000 in
set_option maxHeartbeats 1000000 in
theorem bg_app (hlv : g_lv E (81 + k)) (hlo : ∀ j, j < 7 → g_lv E (85 + j)) (hS : sbS I R (fun i => T.getD i 0) T.length k) (hl : lk R 79 sw) (h : rC I J sw (A.txt A.tx 0) n) (hz : g_zf I J R D 85) (hT : T.length ≤ 132)
    (kk : ∀ I' j tx, j ≤ 7 → rC I' J sw (A.txt tx (20 * j)) n → T.length ≤ 20 * j → txT T (20 * j) tx → g_Wp E l mL_begins { frames := 10, cells := 100, slots := 11000, locals := 215 } Φ 90 10400 321 [(6, .int (nI (20 * j))), (5, .int (nI T.length)), (4, .int v4), (3, .int v3), (2, .ref 80), (0, .ref 0), (1, .ref 1000)] [] (I', J, R, D, 85 + j, true)) :
    g_Wp E l mL_begins { frames := 10, cells := 100, slots := 11000, locals := 215 } Φ 80 10300 217 [(5, .int (nI T.length)), (4, .int v4), (3, .int v3), (2, .ref 80), (0, .ref 0), (1, .ref 1000)] [] (I, J, R, D, 85, true) := by
  have hk4 := hS.1
  have loop : ∀ f j : Nat, j + f = 7 → ∀ (I9 : Nat → Nat → Int32) (tx : Nat → Nat), sbS I9 R (fun i => T.getD i 0) T.length k → rC I9 J sw (A.txt tx (20 * j)) n → g_zf I9 J R D (85 + j) → txT T (20 * j) tx → g_Wp E l mL_begins { frames := 10, cells := 100, slots := 11000, locals := 215 } Φ (80 + j) (10300 + 5 * j) 220 [(6, .int (nI (20 * j))), (5, .int (nI T.length)), (4, .int v4), (3, .int v3), (2, .ref 80), (0, .ref 0), (1, .ref 1000)] [] (I9, J, R, D, 85 + j, true) := by
    intro f
    induction f with
    | zero =>
      intro j hj I9 tx hS9 h9 hz9 ht9
      refine w_iload dL_begins_220 rfl ?_
      refine w_iload dL_begins_222 rfl ?_
      refine w_icmp_ge (tgt := 321) dL_begins_224 (by decide) (fun c_224 => ?_) (fun c_224 => absurd ((nI_le (by omega) (by omega))) c_224)
      exact w_wid (by omega) (by omega) (kk I9 j tx (by omega) h9 (by omega) ht9)
    | succ f ih =>
      intro j hj I9 tx hS9 h9 hz9 ht9
      by_cases hn : T.length ≤ 20 * j
      · refine w_iload dL_begins_220 rfl ?_
        refine w_iload dL_begins_222 rfl ?_
        refine w_icmp_ge (tgt := 321) dL_begins_224 (by decide) (fun c_224 => ?_) (fun c_224 => absurd ((nI_le (by omega) (by omega))) c_224)
        exact w_wid (by omega) (by omega) (kk I9 j tx (by omega) h9 hn ht9)
      · have hob := ob_v j (by omega)
        have hlj := hlo j (by omega)
        have hcj : ∀ x, cjT T j x < 128 := by
          intro x
          unfold cjT
          split
          · rename_i q; exact (hS9.2.2.2.2.2.1 _ q).1
          · decide
        have inner : ∀ g q : Nat, q + g = 20 → ∀ I8 : Nat → Nat → Int32, (∀ o, o ≠ 85 + j → I8 o = I9 o) → (∀ w, w < 5 → I8 (85 + j) w = nI (pkN (cjT T j) w q)) → g_Wp E l mL_begins { frames := 10, cells := 100, slots := 11000, locals := 215 } Φ (80 + j + 1) (10300 + 5 * j + 5) 235 [(8, .int (nI q)), (7, .ref (85 + j)), (6, .int (nI (20 * j))), (5, .int (nI T.length)), (4, .int v4), (3, .int v3), (2, .ref 80), (0, .ref 0), (1, .ref 1000)] [] (I8, J, R, D, 85 + j + 1, true) := by
          intro g
          induction g with
          | zero =>
            intro q hq I8 e8 w8
            obtain rfl : q = 20 := by omega
            have h8 : rC I8 J sw (A.txt tx (20 * j)) n := h9.fl (fun o ho => e8 o (by omega)) (fun _ _ => rfl)
            have hl8 : lk R (85 + j + 1) sw := hl.mono (by omega)
            refine w_iload dL_begins_235 rfl ?_
            refine w_bipush (v := 20) dL_begins_237 (by decide) ?_
            refine w_icmp_ge (tgt := 290) dL_begins_239 (by decide) (fun c_239 => ?_) (fun c_239 => absurd ((by decide)) c_239)
            refine w_aload_n dL_begins_290 rfl ?_
            refine w_aload dL_begins_291 rfl ?_
            refine w_iconst (v := 0) dL_begins_293 (by decide) ?_
            refine x_iald16 (j := 0) dL_begins_294 (by rw [hob]) (by omega) hlj rfl (by rw [hob]; decide) ?_
            rw [w8 0 (by decide)]
            refine w_aload dL_begins_295 rfl ?_
            refine w_iconst (v := 1) dL_begins_297 (by decide) ?_
            refine x_iald16 (j := 1) dL_begins_298 (by rw [hob]) (by omega) hlj rfl (by rw [hob]; decide) ?_
            rw [w8 1 (by decide)]
            refine w_aload dL_begins_299 rfl ?_
            refine w_iconst (v := 2) dL_begins_301 (by decide) ?_
            refine x_iald16 (j := 2) dL_begins_302 (by rw [hob]) (by omega) hlj rfl (by rw [hob]; decide) ?_
            rw [w8 2 (by decide)]
            refine w_aload dL_begins_303 rfl ?_
            refine w_iconst (v := 3) dL_begins_305 (by decide) ?_
            refine x_iald16 (j := 3) dL_begins_306 (by rw [hob]) (by omega) hlj rfl (by rw [hob]; decide) ?_
            rw [w8 3 (by decide)]
            refine w_aload dL_begins_307 rfl ?_
            refine w_iconst (v := 4) dL_begins_309 (by decide) ?_
            refine x_iald16 (j := 4) dL_begins_310 (by rw [hob]) (by omega) hlj rfl (by rw [hob]; decide) ?_
            rw [w8 4 (by decide)]
            refine v_callV dL_begins_311 lk_L_68 [.int (nI (pkN (cjT T j) 0 20)), .int (nI (pkN (cjT T j) 1 20)), .int (nI (pkN (cjT T j) 2 20)), .int (nI (pkN (cjT T j) 3 20)), .int (nI (pkN (cjT T j) 4 20))] rfl (c_append E l hl8 h8 (show 20 * j + 20 ≤ 400 by omega) _ _ _ _ _) (g_recv.obj (ci := 6) rfl (by decide) (show 0 < 85 + j + 1 by omega)) rfl ⟨⟨by decide, by decide⟩, (show 80 + j + 1 + 0 ≤ 100 by omega), (show 10300 + 5 * j + 5 + 0 ≤ 11000 by omega)⟩ (lb rfl) (fun x_311 I' h_311 => ?_)
            obtain ⟨hx, hf, hr⟩ := h_311
            refine w_pop dL_begins_314 rfl ?_
            refine w_iinc (v := nI (20 * (j + 1))) dL_begins_315 rfl (show nI (20 * j) + nI 20 = nI (20 * (j + 1)) from nI_add _ _) (by decide) rfl ?_
            refine w_goto (tgt := 220) dL_begins_318 (by decide) ?_
            refine w_lv [6, 5, 4, 3, 2, 0, 1] (w_wid (uc' := 80 + (j + 1)) (us' := 10300 + 5 * (j + 1)) (by omega) (by omega) (ih (j + 1) (by omega) I' _ (hS9.fr (fun o a b => by rw [hf o (by omega)]; exact e8 o (by omega)) rfl) hr (fun o ho b => ?_) (ht9.add (fun x _ => hcj x))))
            obtain ⟨z1, z2, z3, z4⟩ := hz9 o (by omega) b
            exact ⟨by rw [hf o (by omega), e8 o (by omega)]; exact z1, z2, z3, z4⟩
          | succ g ihg =>
            intro q hq I8 e8 w8
            have e4 : nI q / 4 = nI (q / 4) := pk_div (d := 4) (by omega) (by decide) (by decide)
            have hq4 : q / 4 < 5 := by omega
            have e20 : nI (20 * j) + nI q = nI (20 * j + q) := nI_add _ _
            have join : ∀ x : Int32, x = nI (cjT T j q) → g_Wp E l mL_begins { frames := 10, cells := 100, slots := 11000, locals := 215 } Φ (80 + j + 1) (10300 + 5 * j + 5) 282 [(8, .int (nI q)), (7, .ref (85 + j)), (6, .int (nI (20 * j))), (5, .int (nI T.length)), (4, .int v4), (3, .int v3), (2, .ref 80), (0, .ref 0), (1, .ref 1000)] [.int x, .int (nI (pkN (cjT T j) (q / 4) q) <<< ((8 : Int32) &&& 31)), .int (nI (q / 4)), .ref (85 + j)] (I8, J, R, D, 85 + j + 1, true) := by
              intro x hx
              subst hx
              refine w_ior dL_begins_282 ?_
              rw [pk_step (hcj q)]
              refine x_iast16 (j := q / 4) dL_begins_283 (by rw [hob]) (by omega) hlj rfl (by rw [hob]; exact hq4) ?_
              refine w_iinc (v := nI (q + 1)) dL_begins_284 rfl (nI_inc _) (by decide) rfl ?_
              refine w_goto (tgt := 235) dL_begins_287 (by decide) ?_
              refine ihg (q + 1) (by omega) _ (fun o ho => ?_) (fun w hw => ?_)
              · funext b; rw [up2_n _ _ (by omega), e8 o ho]
              · by_cases e : w = q / 4
                · rw [e, up2_s, pkN, if_pos rfl]
                · rw [up2_n _ _ (by omega), pkN, if_neg (by omega)]; exact w8 w hw
            by_cases hc : 20 * j + q < T.length
            · refine w_iload dL_begins_235 rfl ?_
              refine w_bipush (v := 20) dL_begins_237 (by decide) ?_
              refine w_icmp_ge (tgt := 290) dL_begins_239 (by decide) (fun c_239 => absurd c_239 ((fun z => absurd (n_le (a := 20) (b := q) z) (by omega)))) (fun c_239 => ?_)
              refine w_aload dL_begins_242 rfl ?_
              refine w_iload dL_begins_244 rfl ?_
              refine w_iconst (v := 4) dL_begins_246 (by decide) ?_
              refine w_idiv dL_begins_247 (by decide) ?_
              rw [e4]
              refine w_aload dL_begins_248 rfl ?_
              refine w_iload dL_begins_250 rfl ?_
              refine w_iconst (v := 4) dL_begins_252 (by decide) ?_
              refine w_idiv dL_begins_253 (by decide) ?_
              rw [e4]
              refine x_iald16 (j := q / 4) dL_begins_254 (by rw [hob]) (by omega) hlj rfl (by rw [hob]; exact hq4) ?_
              rw [w8 _ hq4]
              refine w_bipush (v := 8) dL_begins_255 (by decide) ?_
              refine w_ishl dL_begins_257 ?_
              refine w_iload dL_begins_258 rfl ?_
              refine w_iload dL_begins_260 rfl ?_
              refine w_iadd dL_begins_262 ?_
              rw [e20]
              refine w_iload dL_begins_263 rfl ?_
              refine w_icmp_ge (tgt := 280) dL_begins_265 (by decide) (fun c_265 => absurd c_265 ((nI_ge hc (by omega)))) (fun c_265 => ?_)
              refine w_aload_n dL_begins_268 rfl ?_
              refine w_iload dL_begins_269 rfl ?_
              refine w_iload dL_begins_271 rfl ?_
              refine w_iadd dL_begins_273 ?_
              rw [e20]
              refine y_callV dL_begins_274 lk_L_64 [.int (nI (20 * j + q))] rfl (c_SB_charAt E l hlv (hS9.fr (fun o a b => e8 o (by omega)) rfl) (show 81 + k < 85 + j + 1 by omega) hc) (g_recv.obj (ci := 7) rfl (by decide) (show 80 < 85 + j + 1 by omega)) rfl ⟨⟨by decide, by decide⟩, (show 80 + j + 1 + 0 ≤ 100 by omega), (show 10300 + 5 * j + 5 + 0 ≤ 11000 by omega)⟩ (lb rfl) ?_
              refine w_goto (tgt := 282) dL_begins_277 (by decide) ?_
              exact join _ (by unfold cjT; rw [if_pos hc])
            · refine w_iload dL_begins_235 rfl ?_
              refine w_bipush (v := 20) dL_begins_237 (by decide) ?_
              refine w_icmp_ge (tgt := 290) dL_begins_239 (by decide) (fun c_239 => absurd c_239 ((fun z => absurd (n_le (a := 20) (b := q) z) (by omega)))) (fun c_239 => ?_)
              refine w_aload dL_begins_242 rfl ?_
              refine w_iload dL_begins_244 rfl ?_
              refine w_iconst (v := 4) dL_begins_246 (by decide) ?_
              refine w_idiv dL_begins_247 (by decide) ?_
              rw [e4]
              refine w_aload dL_begins_248 rfl ?_
              refine w_iload dL_begins_250 rfl ?_
              refine w_iconst (v := 4) dL_begins_252 (by decide) ?_
              refine w_idiv dL_begins_253 (by decide) ?_
              rw [e4]
              refine x_iald16 (j := q / 4) dL_begins_254 (by rw [hob]) (by omega) hlj rfl (by rw [hob]; exact hq4) ?_
              rw [w8 _ hq4]
              refine w_bipush (v := 8) dL_begins_255 (by decide) ?_
              refine w_ishl dL_begins_257 ?_
              refine w_iload dL_begins_258 rfl ?_
              refine w_iload dL_begins_260 rfl ?_
              refine w_iadd dL_begins_262 ?_
              rw [e20]
              refine w_iload dL_begins_263 rfl ?_
              refine w_icmp_ge (tgt := 280) dL_begins_265 (by decide) (fun c_265 => ?_) (fun c_265 => absurd ((nI_le (by omega) (by omega))) c_265)
              refine w_bipush (v := 32) dL_begins_280 (by decide) ?_
              exact join _ (by unfold cjT; rw [if_neg hc]; rfl)
        refine w_iload dL_begins_220 rfl ?_
        refine w_iload dL_begins_222 rfl ?_
        refine w_icmp_ge (tgt := 321) dL_begins_224 (by decide) (fun c_224 => absurd c_224 ((nI_ge (by omega) (by omega)))) (fun c_224 => ?_)
        refine w_iconst (v := 5) dL_begins_227 (by decide) ?_
        refine x_newarrL (c := 16) (L := 5) dL_begins_228 (by omega) hob (by decide) (by decide) rfl arrc_16 rfl hz9 (show 80 + j + 1 ≤ 100 by omega) (show 10300 + 5 * j + 5 ≤ 11000 by omega) ?_
        refine w_astore dL_begins_230 (by decide) rfl ?_
        refine w_iconst (v := 0) dL_begins_232 (by decide) ?_
        refine w_istore dL_begins_233 (by decide) rfl ?_
        exact inner 20 0 (by omega) I9 (fun _ _ => rfl) (fun w hw => by rw [(hz9 (85 + j) (Nat.le_refl _) w).1]; rfl)
  refine w_iconst (v := 0) dL_begins_217 (by decide) ?_
  refine w_istore dL_begins_218 (by decide) rfl ?_
  exact loop 7 0 (by omega) I A.tx hS h hz (fun i hi => absurd hi (by omega))
end BA
