/-! HeapGamesLaw.law, the calls that may throw -/
abbrev mLaw : GM := (⟨"HeapGamesLaw", "law", "([I)Z"⟩, cL_law, 9, some .boolean, [])
abbrev rmL : Room := { frames := 14, cells := 601024, slots := 7293034, locals := 520 }
theorem lg_self (x : Int64) : lg_cmp x x = 0 := by
  unfold lg_cmp
  rw [if_neg (by simp), if_pos rfl]
theorem bz0 {x : Int32} (h : x = 0) : lg_cmp x.toInt64 0 = 0 := by
  subst h
  exact lg_self _
theorem bz1 {x : Int32} (hb : ∃ b, x = b2i b) (h : ¬ x = 0) : lg_cmp x.toInt64 1 = 0 := by
  obtain ⟨b, rfl⟩ := hb
  cases b
  · exact absurd rfl h
  · exact lg_self _
section BL
variable {E : GE} {l : Launch} {Φ : List Frame → Array Value → State → State → Prop} {uc us : Nat}
variable {I : Nat → Nat → Int32} {J : Nat → Nat → Int64} {R : Nat → Nat → Option Nat} {D : Nat → Nat → UInt64} {ex sw : Bool} {A : AS} {n c : Nat}
set_option maxRecDepth 100000 in
theorem b_parse {t : Nat} (hE : E.2.2.2.2.1 ≤ 3072) (h6 : 6 * t + 5 < E.2.2.2.2.1) (hI : lwI I J R sw A n c) (hn : n < 90000) (hc : c ≤ 1000) (hu : uc + 1 ≤ 601024) (hs : us + 6 ≤ 7293034) (K : ∀ I1 J1 R1 D1 ex1 sw1 A1 mc ms, mc ≤ 1 → ms ≤ 6 → lwI I1 J1 R1 sw1 A1 (n + 2) (c + 1) → g_Wp E l mLaw rmL Φ (uc + mc) (us + ms) 2159 [(5, .int (nI (6 * t))), (4, .ref 101), (3, .ref 100), (2, .ref 79), (1, .ref 0), (0, .ref 1000)] [] (I1, J1, R1, D1, 102, ex1)) : g_Wp E l mLaw rmL Φ uc us 285 [(5, .int (nI (6 * t))), (4, .ref 101), (3, .ref 100), (2, .ref 79), (1, .ref 0), (0, .ref 1000)] [] (I, J, R, D, 102, ex) := by
  obtain ⟨Kc, mc, ms, Q, k3, hmc, hms, hCL, hCM⟩ := p_parse E l (D := D) (ex := ex) hI hn hc (E.2.2.2.2.2 (6 * t + 1))
  refine w_aload_n dL_law_285 rfl ?_
  refine w_aload_n dL_law_286 rfl ?_
  refine w_iload dL_law_287 rfl ?_
  refine w_iconst (v := 1) dL_law_289 (by decide) ?_
  refine w_iadd dL_law_290 ?_
  refine w_sld (j := (6 * t + 1)) dL_law_291 (show nI (6 * t) + nI 1 = nI (6 * t + 1) from nI_add _ _) (by omega) (by omega) ?_
  refine w_aload_n dL_law_292 rfl ?_
  refine w_callSX dL_law_293 lk_L_110 hCL rfl rfl ⟨⟨lb rfl, lb rfl⟩, (show uc + mc ≤ 601024 by omega), (show us + ms ≤ 7293034 by omega)⟩ (lb rfl) (fun v w1 h => ?_) (fun X w1 h => ?_)
  · obtain ⟨k, I1, J1, R1, ex1, h1, ⟨rfl, h2⟩, h3⟩ := h
    cases h1
    subst h3
    have hm := hCM I1 J1 R1 ex1 h2
    show g_Wp _ _ _ _ _ _ _ _ _ _ _
    refine w_istore dL_law_296 (by decide) rfl ?_
    refine w_aload_n dL_law_298 rfl ?_
    refine w_aload_n dL_law_299 rfl ?_
    refine w_iload dL_law_300 rfl ?_
    refine w_iconst (v := 1) dL_law_302 (by decide) ?_
    refine w_iadd dL_law_303 ?_
    refine w_sld (j := (6 * t + 1)) dL_law_304 (show nI (6 * t) + nI 1 = nI (6 * t + 1) from nI_add _ _) (by omega) (by omega) ?_
    refine j_callV dL_law_305 lk_L_115 [.int (E.2.2.2.2.2 (6 * t + 1))] rfl hm (g_recv.obj (ci := 7) rfl (by decide) (show 79 < 102 by decide)) rfl ⟨⟨lb rfl, lb rfl⟩, (show uc + mc + 0 ≤ 601024 by omega), (show us + ms + 0 ≤ 7293034 by omega)⟩ (lb rfl) (fun x_305 I2 J2 h_305 => ?_)
    obtain ⟨m1, m2, sw2, A2, m3⟩ := h_305
    refine w_istore dL_law_308 (by decide) rfl ?_
    refine w_aload_n dL_law_310 rfl ?_
    refine y_callV dL_law_311 lk_L_116 [] rfl (m_thrown E l (show 79 < 102 by decide)) (g_recv.obj (ci := 7) rfl (by decide) (show 79 < 102 by decide)) rfl ⟨⟨lb rfl, lb rfl⟩, (show uc + mc + 0 + 0 ≤ 601024 by omega), (show us + ms + 0 + 0 ≤ 7293034 by omega)⟩ (lb rfl) ?_
    rw [m1]
    refine w_iload dL_law_314 rfl ?_
    refine w_icmp_eq (tgt := 321) dL_law_316 (by decide) (fun c_316 => ?_) (fun c_316 => absurd (rfl) c_316)
    refine w_iload dL_law_321 rfl ?_
    refine w_if_ne (tgt := 338) dL_law_323 (by decide) (fun c_323 => ?_) (fun c_323 => ?_)
    · refine w_goto (tgt := 2159) dL_law_338 (by decide) ?_
      exact w_lv [5, 4, 3, 2, 1, 0] (K I2 J2 R1 D ex1 sw2 A2 mc ms hmc hms m3)
    · refine w_aload_n dL_law_326 rfl ?_
      refine w_iconst (v := 0) dL_law_327 (by decide) ?_
      have k0 : k = 0 := n_eq (b := 0) c_323
      obtain ⟨v1, v2⟩ := m2 k0
      refine x_lald (j := 0) dL_law_328 rfl (show 100 < 102 by decide) rfl (by decide) ?_
      rw [v1]
      refine w_iload dL_law_329 rfl ?_
      refine w_i2l dL_law_331 ?_
      refine w_lcmp dL_law_332 ?_
      refine w_if_eq (tgt := 338) dL_law_333 (by decide) (fun c_333 => ?_) (fun c_333 => absurd ((lg_self _)) c_333)
      refine w_goto (tgt := 2159) dL_law_338 (by decide) ?_
      exact w_lv [5, 4, 3, 2, 1, 0] (K I2 J2 R1 D ex1 sw2 A2 mc ms hmc hms m3)
  · obtain ⟨k, I1, J1, R1, ex1, h1, h2, h3⟩ := h
    cases h1
set_option maxRecDepth 100000 in
theorem b_size {t : Nat} (hE : E.2.2.2.2.1 ≤ 3072) (h6 : 6 * t + 5 < E.2.2.2.2.1) (hI : lwI I J R sw A n c) (hn : n < 90000) (hc : c ≤ 1000) (hu : uc + 1 ≤ 601024) (hs : us + 6 ≤ 7293034) (K : ∀ I1 J1 R1 D1 ex1 sw1 A1 mc ms, mc ≤ 1 → ms ≤ 6 → lwI I1 J1 R1 sw1 A1 (n + 2) (c + 1) → g_Wp E l mLaw rmL Φ (uc + mc) (us + ms) 2159 [(5, .int (nI (6 * t))), (4, .ref 101), (3, .ref 100), (2, .ref 79), (1, .ref 0), (0, .ref 1000)] [] (I1, J1, R1, D1, 102, ex1)) : g_Wp E l mLaw rmL Φ uc us 341 [(5, .int (nI (6 * t))), (4, .ref 101), (3, .ref 100), (2, .ref 79), (1, .ref 0), (0, .ref 1000)] [] (I, J, R, D, 102, ex) := by
  obtain ⟨Kc, mc, ms, Q, k3, hmc, hms, hCL, hCM⟩ := p_size E l (D := D) (ex := ex) hI hn hc (E.2.2.2.2.2 (6 * t + 1))
  refine w_aload_n dL_law_341 rfl ?_
  refine w_aload_n dL_law_342 rfl ?_
  refine w_iload dL_law_343 rfl ?_
  refine w_iconst (v := 1) dL_law_345 (by decide) ?_
  refine w_iadd dL_law_346 ?_
  refine w_sld (j := (6 * t + 1)) dL_law_347 (show nI (6 * t) + nI 1 = nI (6 * t + 1) from nI_add _ _) (by omega) (by omega) ?_
  refine w_aload_n dL_law_348 rfl ?_
  refine w_callSX dL_law_349 lk_L_119 hCL rfl rfl ⟨⟨lb rfl, lb rfl⟩, (show uc + mc ≤ 601024 by omega), (show us + ms ≤ 7293034 by omega)⟩ (lb rfl) (fun v w1 h => ?_) (fun X w1 h => ?_)
  · obtain ⟨k, I1, J1, R1, ex1, h1, ⟨rfl, h2⟩, h3⟩ := h
    cases h1
    subst h3
    have hm := hCM I1 J1 R1 ex1 h2
    show g_Wp _ _ _ _ _ _ _ _ _ _ _
    refine w_istore dL_law_352 (by decide) rfl ?_
    refine w_aload_n dL_law_354 rfl ?_
    refine w_aload_n dL_law_355 rfl ?_
    refine w_iload dL_law_356 rfl ?_
    refine w_iconst (v := 1) dL_law_358 (by decide) ?_
    refine w_iadd dL_law_359 ?_
    refine w_sld (j := (6 * t + 1)) dL_law_360 (show nI (6 * t) + nI 1 = nI (6 * t + 1) from nI_add _ _) (by omega) (by omega) ?_
    refine j_callV dL_law_361 lk_L_121 [.int (E.2.2.2.2.2 (6 * t + 1))] rfl hm (g_recv.obj (ci := 7) rfl (by decide) (show 79 < 102 by decide)) rfl ⟨⟨lb rfl, lb rfl⟩, (show uc + mc + 0 ≤ 601024 by omega), (show us + ms + 0 ≤ 7293034 by omega)⟩ (lb rfl) (fun x_361 I2 J2 h_361 => ?_)
    obtain ⟨m1, m2, sw2, A2, m3⟩ := h_361
    refine w_istore dL_law_364 (by decide) rfl ?_
    refine w_aload_n dL_law_366 rfl ?_
    refine y_callV dL_law_367 lk_L_116 [] rfl (m_thrown E l (show 79 < 102 by decide)) (g_recv.obj (ci := 7) rfl (by decide) (show 79 < 102 by decide)) rfl ⟨⟨lb rfl, lb rfl⟩, (show uc + mc + 0 + 0 ≤ 601024 by omega), (show us + ms + 0 + 0 ≤ 7293034 by omega)⟩ (lb rfl) ?_
    rw [m1]
    refine w_iload dL_law_370 rfl ?_
    refine w_icmp_eq (tgt := 377) dL_law_372 (by decide) (fun c_372 => ?_) (fun c_372 => absurd (rfl) c_372)
    refine w_iload dL_law_377 rfl ?_
    refine w_if_ne (tgt := 394) dL_law_379 (by decide) (fun c_379 => ?_) (fun c_379 => ?_)
    · refine w_goto (tgt := 2159) dL_law_394 (by decide) ?_
      exact w_lv [5, 4, 3, 2, 1, 0] (K I2 J2 R1 D ex1 sw2 A2 mc ms hmc hms m3)
    · refine w_aload_n dL_law_382 rfl ?_
      refine w_iconst (v := 0) dL_law_383 (by decide) ?_
      have k0 : k = 0 := n_eq (b := 0) c_379
      obtain ⟨v1, v2⟩ := m2 k0
      refine x_lald (j := 0) dL_law_384 rfl (show 100 < 102 by decide) rfl (by decide) ?_
      rw [v1]
      refine w_iload dL_law_385 rfl ?_
      refine w_i2l dL_law_387 ?_
      refine w_lcmp dL_law_388 ?_
      refine w_if_eq (tgt := 394) dL_law_389 (by decide) (fun c_389 => ?_) (fun c_389 => absurd ((lg_self _)) c_389)
      refine w_goto (tgt := 2159) dL_law_394 (by decide) ?_
      exact w_lv [5, 4, 3, 2, 1, 0] (K I2 J2 R1 D ex1 sw2 A2 mc ms hmc hms m3)
  · obtain ⟨k, I1, J1, R1, ex1, h1, h2, h3⟩ := h
    cases h1
set_option maxRecDepth 100000 in
theorem b_kind {t : Nat} (hE : E.2.2.2.2.1 ≤ 3072) (h6 : 6 * t + 5 < E.2.2.2.2.1) (hI : lwI I J R sw A n c) (hn : n < 90000) (hc : c ≤ 1000) (hu : uc + 1 ≤ 601024) (hs : us + 6 ≤ 7293034) (K : ∀ I1 J1 R1 D1 ex1 sw1 A1 mc ms, mc ≤ 1 → ms ≤ 6 → lwI I1 J1 R1 sw1 A1 (n + 2) (c + 1) → g_Wp E l mLaw rmL Φ (uc + mc) (us + ms) 2159 [(5, .int (nI (6 * t))), (4, .ref 101), (3, .ref 100), (2, .ref 79), (1, .ref 0), (0, .ref 1000)] [] (I1, J1, R1, D1, 102, ex1)) : g_Wp E l mLaw rmL Φ uc us 397 [(5, .int (nI (6 * t))), (4, .ref 101), (3, .ref 100), (2, .ref 79), (1, .ref 0), (0, .ref 1000)] [] (I, J, R, D, 102, ex) := by
  obtain ⟨Kc, mc, ms, Q, k3, hmc, hms, hCL, hCM⟩ := p_kind E l (D := D) (ex := ex) hI hn hc (E.2.2.2.2.2 (6 * t + 1))
  refine w_aload_n dL_law_397 rfl ?_
  refine w_aload_n dL_law_398 rfl ?_
  refine w_iload dL_law_399 rfl ?_
  refine w_iconst (v := 1) dL_law_401 (by decide) ?_
  refine w_iadd dL_law_402 ?_
  refine w_sld (j := (6 * t + 1)) dL_law_403 (show nI (6 * t) + nI 1 = nI (6 * t + 1) from nI_add _ _) (by omega) (by omega) ?_
  refine w_aload_n dL_law_404 rfl ?_
  refine w_callSX dL_law_405 lk_L_122 hCL rfl rfl ⟨⟨lb rfl, lb rfl⟩, (show uc + mc ≤ 601024 by omega), (show us + ms ≤ 7293034 by omega)⟩ (lb rfl) (fun v w1 h => ?_) (fun X w1 h => ?_)
  · obtain ⟨k, I1, J1, R1, ex1, h1, ⟨rfl, h2⟩, h3⟩ := h
    cases h1
    subst h3
    have hm := hCM I1 J1 R1 ex1 h2
    show g_Wp _ _ _ _ _ _ _ _ _ _ _
    refine w_istore dL_law_408 (by decide) rfl ?_
    refine w_aload_n dL_law_410 rfl ?_
    refine w_aload_n dL_law_411 rfl ?_
    refine w_iload dL_law_412 rfl ?_
    refine w_iconst (v := 1) dL_law_414 (by decide) ?_
    refine w_iadd dL_law_415 ?_
    refine w_sld (j := (6 * t + 1)) dL_law_416 (show nI (6 * t) + nI 1 = nI (6 * t + 1) from nI_add _ _) (by omega) (by omega) ?_
    refine j_callV dL_law_417 lk_L_124 [.int (E.2.2.2.2.2 (6 * t + 1))] rfl hm (g_recv.obj (ci := 7) rfl (by decide) (show 79 < 102 by decide)) rfl ⟨⟨lb rfl, lb rfl⟩, (show uc + mc + 0 ≤ 601024 by omega), (show us + ms + 0 ≤ 7293034 by omega)⟩ (lb rfl) (fun x_417 I2 J2 h_417 => ?_)
    obtain ⟨m1, m2, sw2, A2, m3⟩ := h_417
    refine w_istore dL_law_420 (by decide) rfl ?_
    refine w_aload_n dL_law_422 rfl ?_
    refine y_callV dL_law_423 lk_L_116 [] rfl (m_thrown E l (show 79 < 102 by decide)) (g_recv.obj (ci := 7) rfl (by decide) (show 79 < 102 by decide)) rfl ⟨⟨lb rfl, lb rfl⟩, (show uc + mc + 0 + 0 ≤ 601024 by omega), (show us + ms + 0 + 0 ≤ 7293034 by omega)⟩ (lb rfl) ?_
    rw [m1]
    refine w_iload dL_law_426 rfl ?_
    refine w_icmp_eq (tgt := 433) dL_law_428 (by decide) (fun c_428 => ?_) (fun c_428 => absurd (rfl) c_428)
    refine w_iload dL_law_433 rfl ?_
    refine w_if_ne (tgt := 450) dL_law_435 (by decide) (fun c_435 => ?_) (fun c_435 => ?_)
    · refine w_goto (tgt := 2159) dL_law_450 (by decide) ?_
      exact w_lv [5, 4, 3, 2, 1, 0] (K I2 J2 R1 D ex1 sw2 A2 mc ms hmc hms m3)
    · refine w_aload_n dL_law_438 rfl ?_
      refine w_iconst (v := 0) dL_law_439 (by decide) ?_
      have k0 : k = 0 := n_eq (b := 0) c_435
      obtain ⟨v1, v2⟩ := m2 k0
      refine x_lald (j := 0) dL_law_440 rfl (show 100 < 102 by decide) rfl (by decide) ?_
      rw [v1]
      refine w_iload dL_law_441 rfl ?_
      refine w_i2l dL_law_443 ?_
      refine w_lcmp dL_law_444 ?_
      refine w_if_eq (tgt := 450) dL_law_445 (by decide) (fun c_445 => ?_) (fun c_445 => absurd ((lg_self _)) c_445)
      refine w_goto (tgt := 2159) dL_law_450 (by decide) ?_
      exact w_lv [5, 4, 3, 2, 1, 0] (K I2 J2 R1 D ex1 sw2 A2 mc ms hmc hms m3)
  · obtain ⟨k, I1, J1, R1, ex1, h1, h2, h3⟩ := h
    cases h1
set_option maxRecDepth 100000 in
theorem b_mayTake {t : Nat} (hE : E.2.2.2.2.1 ≤ 3072) (h6 : 6 * t + 5 < E.2.2.2.2.1) (hI : lwI I J R sw A n c) (hn : n < 90000) (hc : c ≤ 1000) (hu : uc + 1 ≤ 601024) (hs : us + 6 ≤ 7293034) (K : ∀ I1 J1 R1 D1 ex1 sw1 A1 mc ms, mc ≤ 1 → ms ≤ 6 → lwI I1 J1 R1 sw1 A1 (n + 2) (c + 1) → g_Wp E l mLaw rmL Φ (uc + mc) (us + ms) 2159 [(5, .int (nI (6 * t))), (4, .ref 101), (3, .ref 100), (2, .ref 79), (1, .ref 0), (0, .ref 1000)] [] (I1, J1, R1, D1, 102, ex1)) : g_Wp E l mLaw rmL Φ uc us 453 [(5, .int (nI (6 * t))), (4, .ref 101), (3, .ref 100), (2, .ref 79), (1, .ref 0), (0, .ref 1000)] [] (I, J, R, D, 102, ex) := by
  obtain ⟨Kc, mc, ms, Q, k3, hmc, hms, hCL, hCM⟩ := p_mayTake E l (D := D) (ex := ex) hI hn hc (E.2.2.2.2.2 (6 * t + 1)) (E.2.2.2.2.2 (6 * t + 2)) (E.2.2.2.2.2 (6 * t + 3))
  refine w_aload_n dL_law_453 rfl ?_
  refine w_aload_n dL_law_454 rfl ?_
  refine w_iload dL_law_455 rfl ?_
  refine w_iconst (v := 1) dL_law_457 (by decide) ?_
  refine w_iadd dL_law_458 ?_
  refine w_sld (j := (6 * t + 1)) dL_law_459 (show nI (6 * t) + nI 1 = nI (6 * t + 1) from nI_add _ _) (by omega) (by omega) ?_
  refine w_aload_n dL_law_460 rfl ?_
  refine w_iload dL_law_461 rfl ?_
  refine w_iconst (v := 2) dL_law_463 (by decide) ?_
  refine w_iadd dL_law_464 ?_
  refine w_sld (j := (6 * t + 2)) dL_law_465 (show nI (6 * t) + nI 2 = nI (6 * t + 2) from nI_add _ _) (by omega) (by omega) ?_
  refine w_aload_n dL_law_466 rfl ?_
  refine w_iload dL_law_467 rfl ?_
  refine w_iconst (v := 3) dL_law_469 (by decide) ?_
  refine w_iadd dL_law_470 ?_
  refine w_sld (j := (6 * t + 3)) dL_law_471 (show nI (6 * t) + nI 3 = nI (6 * t + 3) from nI_add _ _) (by omega) (by omega) ?_
  refine w_aload_n dL_law_472 rfl ?_
  refine w_callSX dL_law_473 lk_L_125 hCL rfl rfl ⟨⟨lb rfl, lb rfl⟩, (show uc + mc ≤ 601024 by omega), (show us + ms ≤ 7293034 by omega)⟩ (lb rfl) (fun v w1 h => ?_) (fun X w1 h => ?_)
  · obtain ⟨k, I1, J1, R1, ex1, h1, ⟨rfl, h2⟩, h3⟩ := h
    cases h1
    subst h3
    have hm := hCM I1 J1 R1 ex1 h2
    show g_Wp _ _ _ _ _ _ _ _ _ _ _
    refine w_istore dL_law_476 (by decide) rfl ?_
    refine w_aload_n dL_law_478 rfl ?_
    refine w_aload_n dL_law_479 rfl ?_
    refine w_iload dL_law_480 rfl ?_
    refine w_iconst (v := 1) dL_law_482 (by decide) ?_
    refine w_iadd dL_law_483 ?_
    refine w_sld (j := (6 * t + 1)) dL_law_484 (show nI (6 * t) + nI 1 = nI (6 * t + 1) from nI_add _ _) (by omega) (by omega) ?_
    refine w_aload_n dL_law_485 rfl ?_
    refine w_iload dL_law_486 rfl ?_
    refine w_iconst (v := 2) dL_law_488 (by decide) ?_
    refine w_iadd dL_law_489 ?_
    refine w_sld (j := (6 * t + 2)) dL_law_490 (show nI (6 * t) + nI 2 = nI (6 * t + 2) from nI_add _ _) (by omega) (by omega) ?_
    refine w_aload_n dL_law_491 rfl ?_
    refine w_iload dL_law_492 rfl ?_
    refine w_iconst (v := 3) dL_law_494 (by decide) ?_
    refine w_iadd dL_law_495 ?_
    refine w_sld (j := (6 * t + 3)) dL_law_496 (show nI (6 * t) + nI 3 = nI (6 * t + 3) from nI_add _ _) (by omega) (by omega) ?_
    refine j_callV dL_law_497 lk_L_128 [.int (E.2.2.2.2.2 (6 * t + 1)), .int (E.2.2.2.2.2 (6 * t + 2)), .int (E.2.2.2.2.2 (6 * t + 3))] rfl hm (g_recv.obj (ci := 7) rfl (by decide) (show 79 < 102 by decide)) rfl ⟨⟨lb rfl, lb rfl⟩, (show uc + mc + 0 ≤ 601024 by omega), (show us + ms + 0 ≤ 7293034 by omega)⟩ (lb rfl) (fun x_497 I2 J2 h_497 => ?_)
    obtain ⟨m1, m2, sw2, A2, m3⟩ := h_497
    refine w_istore dL_law_500 (by decide) rfl ?_
    refine w_aload_n dL_law_502 rfl ?_
    refine y_callV dL_law_503 lk_L_116 [] rfl (m_thrown E l (show 79 < 102 by decide)) (g_recv.obj (ci := 7) rfl (by decide) (show 79 < 102 by decide)) rfl ⟨⟨lb rfl, lb rfl⟩, (show uc + mc + 0 + 0 ≤ 601024 by omega), (show us + ms + 0 + 0 ≤ 7293034 by omega)⟩ (lb rfl) ?_
    rw [m1]
    refine w_iload dL_law_506 rfl ?_
    refine w_icmp_eq (tgt := 513) dL_law_508 (by decide) (fun c_508 => ?_) (fun c_508 => absurd (rfl) c_508)
    refine w_iload dL_law_513 rfl ?_
    refine w_if_ne (tgt := 537) dL_law_515 (by decide) (fun c_515 => ?_) (fun c_515 => ?_)
    · refine w_goto (tgt := 2159) dL_law_537 (by decide) ?_
      exact w_lv [5, 4, 3, 2, 1, 0] (K I2 J2 R1 D ex1 sw2 A2 mc ms hmc hms m3)
    · refine w_aload_n dL_law_518 rfl ?_
      refine w_iconst (v := 0) dL_law_519 (by decide) ?_
      have k0 : k = 0 := n_eq (b := 0) c_515
      obtain ⟨v1, v2⟩ := m2 k0
      refine x_lald (j := 0) dL_law_520 rfl (show 100 < 102 by decide) rfl (by decide) ?_
      rw [v1]
      refine w_iload dL_law_521 rfl ?_
      refine w_if_eq (tgt := 530) dL_law_523 (by decide) (fun c_523 => ?_) (fun c_523 => ?_)
      · refine w_lconst (v := 0) dL_law_530 (by decide) ?_
        refine w_lcmp dL_law_531 ?_
        refine w_if_eq (tgt := 537) dL_law_532 (by decide) (fun c_532 => ?_) (fun c_532 => absurd ((by first | exact bz0 c_523 | exact bz1 v2 c_523)) c_532)
        refine w_goto (tgt := 2159) dL_law_537 (by decide) ?_
        exact w_lv [5, 4, 3, 2, 1, 0] (K I2 J2 R1 D ex1 sw2 A2 mc ms hmc hms m3)
      · refine w_lconst (v := 1) dL_law_526 (by decide) ?_
        refine w_goto (tgt := 531) dL_law_527 (by decide) ?_
        refine w_lcmp dL_law_531 ?_
        refine w_if_eq (tgt := 537) dL_law_532 (by decide) (fun c_532 => ?_) (fun c_532 => absurd ((by first | exact bz0 c_523 | exact bz1 v2 c_523)) c_532)
        refine w_goto (tgt := 2159) dL_law_537 (by decide) ?_
        exact w_lv [5, 4, 3, 2, 1, 0] (K I2 J2 R1 D ex1 sw2 A2 mc ms hmc hms m3)
  · obtain ⟨k, I1, J1, R1, ex1, h1, h2, h3⟩ := h
    cases h1
set_option maxRecDepth 100000 in
theorem b_amounts {t : Nat} (hE : E.2.2.2.2.1 ≤ 3072) (h6 : 6 * t + 5 < E.2.2.2.2.1) (hI : lwI I J R sw A n c) (hn : n < 90000) (hc : c ≤ 1000) (hu : uc + 1 ≤ 601024) (hs : us + 6 ≤ 7293034) (K : ∀ I1 J1 R1 D1 ex1 sw1 A1 mc ms, mc ≤ 1 → ms ≤ 6 → lwI I1 J1 R1 sw1 A1 (n + 2) (c + 1) → g_Wp E l mLaw rmL Φ (uc + mc) (us + ms) 2159 [(5, .int (nI (6 * t))), (4, .ref 101), (3, .ref 100), (2, .ref 79), (1, .ref 0), (0, .ref 1000)] [] (I1, J1, R1, D1, 102, ex1)) : g_Wp E l mLaw rmL Φ uc us 540 [(5, .int (nI (6 * t))), (4, .ref 101), (3, .ref 100), (2, .ref 79), (1, .ref 0), (0, .ref 1000)] [] (I, J, R, D, 102, ex) := by
  obtain ⟨Kc, mc, ms, Q, k3, hmc, hms, hCL, hCM⟩ := p_amounts E l (D := D) (ex := ex) hI hn hc (E.2.2.2.2.2 (6 * t + 1)) (E.2.2.2.2.2 (6 * t + 2))
  refine w_aload_n dL_law_540 rfl ?_
  refine w_aload_n dL_law_541 rfl ?_
  refine w_iload dL_law_542 rfl ?_
  refine w_iconst (v := 1) dL_law_544 (by decide) ?_
  refine w_iadd dL_law_545 ?_
  refine w_sld (j := (6 * t + 1)) dL_law_546 (show nI (6 * t) + nI 1 = nI (6 * t + 1) from nI_add _ _) (by omega) (by omega) ?_
  refine w_aload_n dL_law_547 rfl ?_
  refine w_iload dL_law_548 rfl ?_
  refine w_iconst (v := 2) dL_law_550 (by decide) ?_
  refine w_iadd dL_law_551 ?_
  refine w_sld (j := (6 * t + 2)) dL_law_552 (show nI (6 * t) + nI 2 = nI (6 * t + 2) from nI_add _ _) (by omega) (by omega) ?_
  refine w_aload_n dL_law_553 rfl ?_
  refine w_callSX dL_law_554 lk_L_129 hCL rfl rfl ⟨⟨lb rfl, lb rfl⟩, (show uc + mc ≤ 601024 by omega), (show us + ms ≤ 7293034 by omega)⟩ (lb rfl) (fun v w1 h => ?_) (fun X w1 h => ?_)
  · obtain ⟨k, I1, J1, R1, ex1, h1, ⟨rfl, h2⟩, h3⟩ := h
    cases h1
    subst h3
    have hm := hCM I1 J1 R1 ex1 h2
    show g_Wp _ _ _ _ _ _ _ _ _ _ _
    refine w_istore dL_law_557 (by decide) rfl ?_
    refine w_aload_n dL_law_559 rfl ?_
    refine w_aload_n dL_law_560 rfl ?_
    refine w_iload dL_law_561 rfl ?_
    refine w_iconst (v := 1) dL_law_563 (by decide) ?_
    refine w_iadd dL_law_564 ?_
    refine w_sld (j := (6 * t + 1)) dL_law_565 (show nI (6 * t) + nI 1 = nI (6 * t + 1) from nI_add _ _) (by omega) (by omega) ?_
    refine w_aload_n dL_law_566 rfl ?_
    refine w_iload dL_law_567 rfl ?_
    refine w_iconst (v := 2) dL_law_569 (by decide) ?_
    refine w_iadd dL_law_570 ?_
    refine w_sld (j := (6 * t + 2)) dL_law_571 (show nI (6 * t) + nI 2 = nI (6 * t + 2) from nI_add _ _) (by omega) (by omega) ?_
    refine j_callV dL_law_572 lk_L_132 [.int (E.2.2.2.2.2 (6 * t + 1)), .int (E.2.2.2.2.2 (6 * t + 2))] rfl hm (g_recv.obj (ci := 7) rfl (by decide) (show 79 < 102 by decide)) rfl ⟨⟨lb rfl, lb rfl⟩, (show uc + mc + 0 ≤ 601024 by omega), (show us + ms + 0 ≤ 7293034 by omega)⟩ (lb rfl) (fun x_572 I2 J2 h_572 => ?_)
    obtain ⟨m1, m2, sw2, A2, m3⟩ := h_572
    refine w_istore dL_law_575 (by decide) rfl ?_
    refine w_aload_n dL_law_577 rfl ?_
    refine y_callV dL_law_578 lk_L_116 [] rfl (m_thrown E l (show 79 < 102 by decide)) (g_recv.obj (ci := 7) rfl (by decide) (show 79 < 102 by decide)) rfl ⟨⟨lb rfl, lb rfl⟩, (show uc + mc + 0 + 0 ≤ 601024 by omega), (show us + ms + 0 + 0 ≤ 7293034 by omega)⟩ (lb rfl) ?_
    rw [m1]
    refine w_iload dL_law_581 rfl ?_
    refine w_icmp_eq (tgt := 588) dL_law_583 (by decide) (fun c_583 => ?_) (fun c_583 => absurd (rfl) c_583)
    refine w_iload dL_law_588 rfl ?_
    refine w_if_ne (tgt := 605) dL_law_590 (by decide) (fun c_590 => ?_) (fun c_590 => ?_)
    · refine w_goto (tgt := 2159) dL_law_605 (by decide) ?_
      exact w_lv [5, 4, 3, 2, 1, 0] (K I2 J2 R1 D ex1 sw2 A2 mc ms hmc hms m3)
    · refine w_aload_n dL_law_593 rfl ?_
      refine w_iconst (v := 0) dL_law_594 (by decide) ?_
      have k0 : k = 0 := n_eq (b := 0) c_590
      obtain ⟨v1, v2⟩ := m2 k0
      refine x_lald (j := 0) dL_law_595 rfl (show 100 < 102 by decide) rfl (by decide) ?_
      rw [v1]
      refine w_iload dL_law_596 rfl ?_
      refine w_i2l dL_law_598 ?_
      refine w_lcmp dL_law_599 ?_
      refine w_if_eq (tgt := 605) dL_law_600 (by decide) (fun c_600 => ?_) (fun c_600 => absurd ((lg_self _)) c_600)
      refine w_goto (tgt := 2159) dL_law_605 (by decide) ?_
      exact w_lv [5, 4, 3, 2, 1, 0] (K I2 J2 R1 D ex1 sw2 A2 mc ms hmc hms m3)
  · obtain ⟨k, I1, J1, R1, ex1, h1, h2, h3⟩ := h
    cases h1
set_option maxRecDepth 100000 in
theorem b_value {t : Nat} (hE : E.2.2.2.2.1 ≤ 3072) (h6 : 6 * t + 5 < E.2.2.2.2.1) (hI : lwI I J R sw A n c) (hn : n < 90000) (hc : c ≤ 1000) (hu : uc + 1 ≤ 601024) (hs : us + 6 ≤ 7293034) (K : ∀ I1 J1 R1 D1 ex1 sw1 A1 mc ms, mc ≤ 1 → ms ≤ 6 → lwI I1 J1 R1 sw1 A1 (n + 2) (c + 1) → g_Wp E l mLaw rmL Φ (uc + mc) (us + ms) 2159 [(5, .int (nI (6 * t))), (4, .ref 101), (3, .ref 100), (2, .ref 79), (1, .ref 0), (0, .ref 1000)] [] (I1, J1, R1, D1, 102, ex1)) : g_Wp E l mLaw rmL Φ uc us 608 [(5, .int (nI (6 * t))), (4, .ref 101), (3, .ref 100), (2, .ref 79), (1, .ref 0), (0, .ref 1000)] [] (I, J, R, D, 102, ex) := by
  obtain ⟨Kc, mc, ms, Q, k3, hmc, hms, hCL, hCM⟩ := p_value E l (D := D) (ex := ex) hI hn hc (E.2.2.2.2.2 (6 * t + 1)) (E.2.2.2.2.2 (6 * t + 2))
  refine w_aload_n dL_law_608 rfl ?_
  refine w_aload_n dL_law_609 rfl ?_
  refine w_iload dL_law_610 rfl ?_
  refine w_iconst (v := 1) dL_law_612 (by decide) ?_
  refine w_iadd dL_law_613 ?_
  refine w_sld (j := (6 * t + 1)) dL_law_614 (show nI (6 * t) + nI 1 = nI (6 * t + 1) from nI_add _ _) (by omega) (by omega) ?_
  refine w_aload_n dL_law_615 rfl ?_
  refine w_iload dL_law_616 rfl ?_
  refine w_iconst (v := 2) dL_law_618 (by decide) ?_
  refine w_iadd dL_law_619 ?_
  refine w_sld (j := (6 * t + 2)) dL_law_620 (show nI (6 * t) + nI 2 = nI (6 * t + 2) from nI_add _ _) (by omega) (by omega) ?_
  refine w_aload_n dL_law_621 rfl ?_
  refine w_callSX dL_law_622 lk_L_133 hCL rfl rfl ⟨⟨lb rfl, lb rfl⟩, (show uc + mc ≤ 601024 by omega), (show us + ms ≤ 7293034 by omega)⟩ (lb rfl) (fun v w1 h => ?_) (fun X w1 h => ?_)
  · obtain ⟨k, I1, J1, R1, ex1, h1, ⟨rfl, h2⟩, h3⟩ := h
    cases h1
    subst h3
    have hm := hCM I1 J1 R1 ex1 h2
    show g_Wp _ _ _ _ _ _ _ _ _ _ _
    refine w_istore dL_law_625 (by decide) rfl ?_
    refine w_aload_n dL_law_627 rfl ?_
    refine w_aload_n dL_law_628 rfl ?_
    refine w_iload dL_law_629 rfl ?_
    refine w_iconst (v := 1) dL_law_631 (by decide) ?_
    refine w_iadd dL_law_632 ?_
    refine w_sld (j := (6 * t + 1)) dL_law_633 (show nI (6 * t) + nI 1 = nI (6 * t + 1) from nI_add _ _) (by omega) (by omega) ?_
    refine w_aload_n dL_law_634 rfl ?_
    refine w_iload dL_law_635 rfl ?_
    refine w_iconst (v := 2) dL_law_637 (by decide) ?_
    refine w_iadd dL_law_638 ?_
    refine w_sld (j := (6 * t + 2)) dL_law_639 (show nI (6 * t) + nI 2 = nI (6 * t + 2) from nI_add _ _) (by omega) (by omega) ?_
    refine j_callV dL_law_640 lk_L_135 [.int (E.2.2.2.2.2 (6 * t + 1)), .int (E.2.2.2.2.2 (6 * t + 2))] rfl hm (g_recv.obj (ci := 7) rfl (by decide) (show 79 < 102 by decide)) rfl ⟨⟨lb rfl, lb rfl⟩, (show uc + mc + 0 ≤ 601024 by omega), (show us + ms + 0 ≤ 7293034 by omega)⟩ (lb rfl) (fun x_640 I2 J2 h_640 => ?_)
    obtain ⟨m1, m2, sw2, A2, m3⟩ := h_640
    refine w_istore dL_law_643 (by decide) rfl ?_
    refine w_aload_n dL_law_645 rfl ?_
    refine y_callV dL_law_646 lk_L_116 [] rfl (m_thrown E l (show 79 < 102 by decide)) (g_recv.obj (ci := 7) rfl (by decide) (show 79 < 102 by decide)) rfl ⟨⟨lb rfl, lb rfl⟩, (show uc + mc + 0 + 0 ≤ 601024 by omega), (show us + ms + 0 + 0 ≤ 7293034 by omega)⟩ (lb rfl) ?_
    rw [m1]
    refine w_iload dL_law_649 rfl ?_
    refine w_icmp_eq (tgt := 656) dL_law_651 (by decide) (fun c_651 => ?_) (fun c_651 => absurd (rfl) c_651)
    refine w_iload dL_law_656 rfl ?_
    refine w_if_ne (tgt := 673) dL_law_658 (by decide) (fun c_658 => ?_) (fun c_658 => ?_)
    · refine w_goto (tgt := 2159) dL_law_673 (by decide) ?_
      exact w_lv [5, 4, 3, 2, 1, 0] (K I2 J2 R1 D ex1 sw2 A2 mc ms hmc hms m3)
    · refine w_aload_n dL_law_661 rfl ?_
      refine w_iconst (v := 0) dL_law_662 (by decide) ?_
      have k0 : k = 0 := n_eq (b := 0) c_658
      obtain ⟨v1, v2⟩ := m2 k0
      refine x_lald (j := 0) dL_law_663 rfl (show 100 < 102 by decide) rfl (by decide) ?_
      rw [v1]
      refine w_iload dL_law_664 rfl ?_
      refine w_i2l dL_law_666 ?_
      refine w_lcmp dL_law_667 ?_
      refine w_if_eq (tgt := 673) dL_law_668 (by decide) (fun c_668 => ?_) (fun c_668 => absurd ((lg_self _)) c_668)
      refine w_goto (tgt := 2159) dL_law_673 (by decide) ?_
      exact w_lv [5, 4, 3, 2, 1, 0] (K I2 J2 R1 D ex1 sw2 A2 mc ms hmc hms m3)
  · obtain ⟨k, I1, J1, R1, ex1, h1, h2, h3⟩ := h
    cases h1
set_option maxRecDepth 100000 in
theorem b_heapWith {t : Nat} (hE : E.2.2.2.2.1 ≤ 3072) (h6 : 6 * t + 5 < E.2.2.2.2.1) (hI : lwI I J R sw A n c) (hn : n < 90000) (hc : c ≤ 1000) (hu : uc + 1 ≤ 601024) (hs : us + 6 ≤ 7293034) (K : ∀ I1 J1 R1 D1 ex1 sw1 A1 mc ms, mc ≤ 1 → ms ≤ 6 → lwI I1 J1 R1 sw1 A1 (n + 2) (c + 1) → g_Wp E l mLaw rmL Φ (uc + mc) (us + ms) 2159 [(5, .int (nI (6 * t))), (4, .ref 101), (3, .ref 100), (2, .ref 79), (1, .ref 0), (0, .ref 1000)] [] (I1, J1, R1, D1, 102, ex1)) : g_Wp E l mLaw rmL Φ uc us 676 [(5, .int (nI (6 * t))), (4, .ref 101), (3, .ref 100), (2, .ref 79), (1, .ref 0), (0, .ref 1000)] [] (I, J, R, D, 102, ex) := by
  obtain ⟨Kc, mc, ms, Q, k3, hmc, hms, hCL, hCM⟩ := p_heapWith E l (D := D) (ex := ex) hI hn hc (E.2.2.2.2.2 (6 * t + 1)) (E.2.2.2.2.2 (6 * t + 2)) (E.2.2.2.2.2 (6 * t + 3))
  refine w_aload_n dL_law_676 rfl ?_
  refine w_aload_n dL_law_677 rfl ?_
  refine w_iload dL_law_678 rfl ?_
  refine w_iconst (v := 1) dL_law_680 (by decide) ?_
  refine w_iadd dL_law_681 ?_
  refine w_sld (j := (6 * t + 1)) dL_law_682 (show nI (6 * t) + nI 1 = nI (6 * t + 1) from nI_add _ _) (by omega) (by omega) ?_
  refine w_aload_n dL_law_683 rfl ?_
  refine w_iload dL_law_684 rfl ?_
  refine w_iconst (v := 2) dL_law_686 (by decide) ?_
  refine w_iadd dL_law_687 ?_
  refine w_sld (j := (6 * t + 2)) dL_law_688 (show nI (6 * t) + nI 2 = nI (6 * t + 2) from nI_add _ _) (by omega) (by omega) ?_
  refine w_aload_n dL_law_689 rfl ?_
  refine w_iload dL_law_690 rfl ?_
  refine w_iconst (v := 3) dL_law_692 (by decide) ?_
  refine w_iadd dL_law_693 ?_
  refine w_sld (j := (6 * t + 3)) dL_law_694 (show nI (6 * t) + nI 3 = nI (6 * t + 3) from nI_add _ _) (by omega) (by omega) ?_
  refine w_aload_n dL_law_695 rfl ?_
  refine w_callSX dL_law_696 lk_L_136 hCL rfl rfl ⟨⟨lb rfl, lb rfl⟩, (show uc + mc ≤ 601024 by omega), (show us + ms ≤ 7293034 by omega)⟩ (lb rfl) (fun v w1 h => ?_) (fun X w1 h => ?_)
  · obtain ⟨k, I1, J1, R1, ex1, h1, ⟨rfl, h2⟩, h3⟩ := h
    cases h1
    subst h3
    have hm := hCM I1 J1 R1 ex1 h2
    show g_Wp _ _ _ _ _ _ _ _ _ _ _
    refine w_istore dL_law_699 (by decide) rfl ?_
    refine w_aload_n dL_law_701 rfl ?_
    refine w_aload_n dL_law_702 rfl ?_
    refine w_iload dL_law_703 rfl ?_
    refine w_iconst (v := 1) dL_law_705 (by decide) ?_
    refine w_iadd dL_law_706 ?_
    refine w_sld (j := (6 * t + 1)) dL_law_707 (show nI (6 * t) + nI 1 = nI (6 * t + 1) from nI_add _ _) (by omega) (by omega) ?_
    refine w_aload_n dL_law_708 rfl ?_
    refine w_iload dL_law_709 rfl ?_
    refine w_iconst (v := 2) dL_law_711 (by decide) ?_
    refine w_iadd dL_law_712 ?_
    refine w_sld (j := (6 * t + 2)) dL_law_713 (show nI (6 * t) + nI 2 = nI (6 * t + 2) from nI_add _ _) (by omega) (by omega) ?_
    refine w_aload_n dL_law_714 rfl ?_
    refine w_iload dL_law_715 rfl ?_
    refine w_iconst (v := 3) dL_law_717 (by decide) ?_
    refine w_iadd dL_law_718 ?_
    refine w_sld (j := (6 * t + 3)) dL_law_719 (show nI (6 * t) + nI 3 = nI (6 * t + 3) from nI_add _ _) (by omega) (by omega) ?_
    refine j_callV dL_law_720 lk_L_138 [.int (E.2.2.2.2.2 (6 * t + 1)), .int (E.2.2.2.2.2 (6 * t + 2)), .int (E.2.2.2.2.2 (6 * t + 3))] rfl hm (g_recv.obj (ci := 7) rfl (by decide) (show 79 < 102 by decide)) rfl ⟨⟨lb rfl, lb rfl⟩, (show uc + mc + 0 ≤ 601024 by omega), (show us + ms + 0 ≤ 7293034 by omega)⟩ (lb rfl) (fun x_720 I2 J2 h_720 => ?_)
    obtain ⟨m1, m2, sw2, A2, m3⟩ := h_720
    refine w_istore dL_law_723 (by decide) rfl ?_
    refine w_aload_n dL_law_725 rfl ?_
    refine y_callV dL_law_726 lk_L_116 [] rfl (m_thrown E l (show 79 < 102 by decide)) (g_recv.obj (ci := 7) rfl (by decide) (show 79 < 102 by decide)) rfl ⟨⟨lb rfl, lb rfl⟩, (show uc + mc + 0 + 0 ≤ 601024 by omega), (show us + ms + 0 + 0 ≤ 7293034 by omega)⟩ (lb rfl) ?_
    rw [m1]
    refine w_iload dL_law_729 rfl ?_
    refine w_icmp_eq (tgt := 736) dL_law_731 (by decide) (fun c_731 => ?_) (fun c_731 => absurd (rfl) c_731)
    refine w_iload dL_law_736 rfl ?_
    refine w_if_ne (tgt := 753) dL_law_738 (by decide) (fun c_738 => ?_) (fun c_738 => ?_)
    · refine w_goto (tgt := 2159) dL_law_753 (by decide) ?_
      exact w_lv [5, 4, 3, 2, 1, 0] (K I2 J2 R1 D ex1 sw2 A2 mc ms hmc hms m3)
    · refine w_aload_n dL_law_741 rfl ?_
      refine w_iconst (v := 0) dL_law_742 (by decide) ?_
      have k0 : k = 0 := n_eq (b := 0) c_738
      obtain ⟨v1, v2⟩ := m2 k0
      refine x_lald (j := 0) dL_law_743 rfl (show 100 < 102 by decide) rfl (by decide) ?_
      rw [v1]
      refine w_iload dL_law_744 rfl ?_
      refine w_i2l dL_law_746 ?_
      refine w_lcmp dL_law_747 ?_
      refine w_if_eq (tgt := 753) dL_law_748 (by decide) (fun c_748 => ?_) (fun c_748 => absurd ((lg_self _)) c_748)
      refine w_goto (tgt := 2159) dL_law_753 (by decide) ?_
      exact w_lv [5, 4, 3, 2, 1, 0] (K I2 J2 R1 D ex1 sw2 A2 mc ms hmc hms m3)
  · obtain ⟨k, I1, J1, R1, ex1, h1, h2, h3⟩ := h
    cases h1
set_option maxRecDepth 100000 in
theorem b_greatest {t : Nat} (hE : E.2.2.2.2.1 ≤ 3072) (h6 : 6 * t + 5 < E.2.2.2.2.1) (hI : lwI I J R sw A n c) (hn : n < 90000) (hc : c ≤ 1000) (hu : uc + 1 ≤ 601024) (hs : us + 6 ≤ 7293034) (K : ∀ I1 J1 R1 D1 ex1 sw1 A1 mc ms, mc ≤ 1 → ms ≤ 6 → lwI I1 J1 R1 sw1 A1 (n + 2) (c + 1) → g_Wp E l mLaw rmL Φ (uc + mc) (us + ms) 2159 [(5, .int (nI (6 * t))), (4, .ref 101), (3, .ref 100), (2, .ref 79), (1, .ref 0), (0, .ref 1000)] [] (I1, J1, R1, D1, 102, ex1)) : g_Wp E l mLaw rmL Φ uc us 756 [(5, .int (nI (6 * t))), (4, .ref 101), (3, .ref 100), (2, .ref 79), (1, .ref 0), (0, .ref 1000)] [] (I, J, R, D, 102, ex) := by
  obtain ⟨Kc, mc, ms, Q, k3, hmc, hms, hCL, hCM⟩ := p_greatest E l (D := D) (ex := ex) hI hn hc (E.2.2.2.2.2 (6 * t + 1)) (E.2.2.2.2.2 (6 * t + 2))
  refine w_aload_n dL_law_756 rfl ?_
  refine w_aload_n dL_law_757 rfl ?_
  refine w_iload dL_law_758 rfl ?_
  refine w_iconst (v := 1) dL_law_760 (by decide) ?_
  refine w_iadd dL_law_761 ?_
  refine w_sld (j := (6 * t + 1)) dL_law_762 (show nI (6 * t) + nI 1 = nI (6 * t + 1) from nI_add _ _) (by omega) (by omega) ?_
  refine w_aload_n dL_law_763 rfl ?_
  refine w_iload dL_law_764 rfl ?_
  refine w_iconst (v := 2) dL_law_766 (by decide) ?_
  refine w_iadd dL_law_767 ?_
  refine w_sld (j := (6 * t + 2)) dL_law_768 (show nI (6 * t) + nI 2 = nI (6 * t + 2) from nI_add _ _) (by omega) (by omega) ?_
  refine w_aload_n dL_law_769 rfl ?_
  refine w_callSX dL_law_770 lk_L_139 hCL rfl rfl ⟨⟨lb rfl, lb rfl⟩, (show uc + mc ≤ 601024 by omega), (show us + ms ≤ 7293034 by omega)⟩ (lb rfl) (fun v w1 h => ?_) (fun X w1 h => ?_)
  · obtain ⟨k, I1, J1, R1, ex1, h1, ⟨rfl, h2⟩, h3⟩ := h
    cases h1
    subst h3
    have hm := hCM I1 J1 R1 ex1 h2
    show g_Wp _ _ _ _ _ _ _ _ _ _ _
    refine w_istore dL_law_773 (by decide) rfl ?_
    refine w_aload_n dL_law_775 rfl ?_
    refine w_aload_n dL_law_776 rfl ?_
    refine w_iload dL_law_777 rfl ?_
    refine w_iconst (v := 1) dL_law_779 (by decide) ?_
    refine w_iadd dL_law_780 ?_
    refine w_sld (j := (6 * t + 1)) dL_law_781 (show nI (6 * t) + nI 1 = nI (6 * t + 1) from nI_add _ _) (by omega) (by omega) ?_
    refine w_aload_n dL_law_782 rfl ?_
    refine w_iload dL_law_783 rfl ?_
    refine w_iconst (v := 2) dL_law_785 (by decide) ?_
    refine w_iadd dL_law_786 ?_
    refine w_sld (j := (6 * t + 2)) dL_law_787 (show nI (6 * t) + nI 2 = nI (6 * t + 2) from nI_add _ _) (by omega) (by omega) ?_
    refine j_callV dL_law_788 lk_L_141 [.int (E.2.2.2.2.2 (6 * t + 1)), .int (E.2.2.2.2.2 (6 * t + 2))] rfl hm (g_recv.obj (ci := 7) rfl (by decide) (show 79 < 102 by decide)) rfl ⟨⟨lb rfl, lb rfl⟩, (show uc + mc + 0 ≤ 601024 by omega), (show us + ms + 0 ≤ 7293034 by omega)⟩ (lb rfl) (fun x_788 I2 J2 h_788 => ?_)
    obtain ⟨m1, m2, sw2, A2, m3⟩ := h_788
    refine w_istore dL_law_791 (by decide) rfl ?_
    refine w_aload_n dL_law_793 rfl ?_
    refine y_callV dL_law_794 lk_L_116 [] rfl (m_thrown E l (show 79 < 102 by decide)) (g_recv.obj (ci := 7) rfl (by decide) (show 79 < 102 by decide)) rfl ⟨⟨lb rfl, lb rfl⟩, (show uc + mc + 0 + 0 ≤ 601024 by omega), (show us + ms + 0 + 0 ≤ 7293034 by omega)⟩ (lb rfl) ?_
    rw [m1]
    refine w_iload dL_law_797 rfl ?_
    refine w_icmp_eq (tgt := 804) dL_law_799 (by decide) (fun c_799 => ?_) (fun c_799 => absurd (rfl) c_799)
    refine w_iload dL_law_804 rfl ?_
    refine w_if_ne (tgt := 821) dL_law_806 (by decide) (fun c_806 => ?_) (fun c_806 => ?_)
    · refine w_goto (tgt := 2159) dL_law_821 (by decide) ?_
      exact w_lv [5, 4, 3, 2, 1, 0] (K I2 J2 R1 D ex1 sw2 A2 mc ms hmc hms m3)
    · refine w_aload_n dL_law_809 rfl ?_
      refine w_iconst (v := 0) dL_law_810 (by decide) ?_
      have k0 : k = 0 := n_eq (b := 0) c_806
      obtain ⟨v1, v2⟩ := m2 k0
      refine x_lald (j := 0) dL_law_811 rfl (show 100 < 102 by decide) rfl (by decide) ?_
      rw [v1]
      refine w_iload dL_law_812 rfl ?_
      refine w_i2l dL_law_814 ?_
      refine w_lcmp dL_law_815 ?_
      refine w_if_eq (tgt := 821) dL_law_816 (by decide) (fun c_816 => ?_) (fun c_816 => absurd ((lg_self _)) c_816)
      refine w_goto (tgt := 2159) dL_law_821 (by decide) ?_
      exact w_lv [5, 4, 3, 2, 1, 0] (K I2 J2 R1 D ex1 sw2 A2 mc ms hmc hms m3)
  · obtain ⟨k, I1, J1, R1, ex1, h1, h2, h3⟩ := h
    cases h1
set_option maxRecDepth 100000 in
theorem b_period {t : Nat} (hE : E.2.2.2.2.1 ≤ 3072) (h6 : 6 * t + 5 < E.2.2.2.2.1) (hI : lwI I J R sw A n c) (hn : n < 90000) (hc : c ≤ 1000) (hu : uc + 1 ≤ 601024) (hs : us + 6 ≤ 7293034) (K : ∀ I1 J1 R1 D1 ex1 sw1 A1 mc ms, mc ≤ 1 → ms ≤ 6 → lwI I1 J1 R1 sw1 A1 (n + 2) (c + 1) → g_Wp E l mLaw rmL Φ (uc + mc) (us + ms) 2159 [(5, .int (nI (6 * t))), (4, .ref 101), (3, .ref 100), (2, .ref 79), (1, .ref 0), (0, .ref 1000)] [] (I1, J1, R1, D1, 102, ex1)) : g_Wp E l mLaw rmL Φ uc us 913 [(5, .int (nI (6 * t))), (4, .ref 101), (3, .ref 100), (2, .ref 79), (1, .ref 0), (0, .ref 1000)] [] (I, J, R, D, 102, ex) := by
  obtain ⟨Kc, mc, ms, Q, k3, hmc, hms, hCL, hCM⟩ := p_period E l (D := D) (ex := ex) hI hn hc (E.2.2.2.2.2 (6 * t + 1)) (E.2.2.2.2.2 (6 * t + 2))
  refine w_aload_n dL_law_913 rfl ?_
  refine w_aload_n dL_law_914 rfl ?_
  refine w_iload dL_law_915 rfl ?_
  refine w_iconst (v := 1) dL_law_917 (by decide) ?_
  refine w_iadd dL_law_918 ?_
  refine w_sld (j := (6 * t + 1)) dL_law_919 (show nI (6 * t) + nI 1 = nI (6 * t + 1) from nI_add _ _) (by omega) (by omega) ?_
  refine w_aload_n dL_law_920 rfl ?_
  refine w_iload dL_law_921 rfl ?_
  refine w_iconst (v := 2) dL_law_923 (by decide) ?_
  refine w_iadd dL_law_924 ?_
  refine w_sld (j := (6 * t + 2)) dL_law_925 (show nI (6 * t) + nI 2 = nI (6 * t + 2) from nI_add _ _) (by omega) (by omega) ?_
  refine w_aload_n dL_law_926 rfl ?_
  refine w_callSX dL_law_927 lk_L_146 hCL rfl rfl ⟨⟨lb rfl, lb rfl⟩, (show uc + mc ≤ 601024 by omega), (show us + ms ≤ 7293034 by omega)⟩ (lb rfl) (fun v w1 h => ?_) (fun X w1 h => ?_)
  · obtain ⟨k, I1, J1, R1, ex1, h1, ⟨rfl, h2⟩, h3⟩ := h
    cases h1
    subst h3
    have hm := hCM I1 J1 R1 ex1 h2
    show g_Wp _ _ _ _ _ _ _ _ _ _ _
    refine w_istore dL_law_930 (by decide) rfl ?_
    refine w_aload_n dL_law_932 rfl ?_
    refine w_aload_n dL_law_933 rfl ?_
    refine w_iload dL_law_934 rfl ?_
    refine w_iconst (v := 1) dL_law_936 (by decide) ?_
    refine w_iadd dL_law_937 ?_
    refine w_sld (j := (6 * t + 1)) dL_law_938 (show nI (6 * t) + nI 1 = nI (6 * t + 1) from nI_add _ _) (by omega) (by omega) ?_
    refine w_aload_n dL_law_939 rfl ?_
    refine w_iload dL_law_940 rfl ?_
    refine w_iconst (v := 2) dL_law_942 (by decide) ?_
    refine w_iadd dL_law_943 ?_
    refine w_sld (j := (6 * t + 2)) dL_law_944 (show nI (6 * t) + nI 2 = nI (6 * t + 2) from nI_add _ _) (by omega) (by omega) ?_
    refine j_callV dL_law_945 lk_L_148 [.int (E.2.2.2.2.2 (6 * t + 1)), .int (E.2.2.2.2.2 (6 * t + 2))] rfl hm (g_recv.obj (ci := 7) rfl (by decide) (show 79 < 102 by decide)) rfl ⟨⟨lb rfl, lb rfl⟩, (show uc + mc + 0 ≤ 601024 by omega), (show us + ms + 0 ≤ 7293034 by omega)⟩ (lb rfl) (fun x_945 I2 J2 h_945 => ?_)
    obtain ⟨m1, m2, sw2, A2, m3⟩ := h_945
    refine w_istore dL_law_948 (by decide) rfl ?_
    refine w_aload_n dL_law_950 rfl ?_
    refine y_callV dL_law_951 lk_L_116 [] rfl (m_thrown E l (show 79 < 102 by decide)) (g_recv.obj (ci := 7) rfl (by decide) (show 79 < 102 by decide)) rfl ⟨⟨lb rfl, lb rfl⟩, (show uc + mc + 0 + 0 ≤ 601024 by omega), (show us + ms + 0 + 0 ≤ 7293034 by omega)⟩ (lb rfl) ?_
    rw [m1]
    refine w_iload dL_law_954 rfl ?_
    refine w_icmp_eq (tgt := 961) dL_law_956 (by decide) (fun c_956 => ?_) (fun c_956 => absurd (rfl) c_956)
    refine w_iload dL_law_961 rfl ?_
    refine w_if_ne (tgt := 978) dL_law_963 (by decide) (fun c_963 => ?_) (fun c_963 => ?_)
    · refine w_goto (tgt := 2159) dL_law_978 (by decide) ?_
      exact w_lv [5, 4, 3, 2, 1, 0] (K I2 J2 R1 D ex1 sw2 A2 mc ms hmc hms m3)
    · refine w_aload_n dL_law_966 rfl ?_
      refine w_iconst (v := 0) dL_law_967 (by decide) ?_
      have k0 : k = 0 := n_eq (b := 0) c_963
      obtain ⟨v1, v2⟩ := m2 k0
      refine x_lald (j := 0) dL_law_968 rfl (show 100 < 102 by decide) rfl (by decide) ?_
      rw [v1]
      refine w_iload dL_law_969 rfl ?_
      refine w_i2l dL_law_971 ?_
      refine w_lcmp dL_law_972 ?_
      refine w_if_eq (tgt := 978) dL_law_973 (by decide) (fun c_973 => ?_) (fun c_973 => absurd ((lg_self _)) c_973)
      refine w_goto (tgt := 2159) dL_law_978 (by decide) ?_
      exact w_lv [5, 4, 3, 2, 1, 0] (K I2 J2 R1 D ex1 sw2 A2 mc ms hmc hms m3)
  · obtain ⟨k, I1, J1, R1, ex1, h1, h2, h3⟩ := h
    cases h1
set_option maxRecDepth 100000 in
theorem b_start {t : Nat} (hE : E.2.2.2.2.1 ≤ 3072) (h6 : 6 * t + 5 < E.2.2.2.2.1) (hI : lwI I J R sw A n c) (hn : n < 90000) (hc : c ≤ 1000) (hu : uc + 1 ≤ 601024) (hs : us + 6 ≤ 7293034) (K : ∀ I1 J1 R1 D1 ex1 sw1 A1 mc ms, mc ≤ 1 → ms ≤ 6 → lwI I1 J1 R1 sw1 A1 (n + 2) (c + 1) → g_Wp E l mLaw rmL Φ (uc + mc) (us + ms) 2159 [(5, .int (nI (6 * t))), (4, .ref 101), (3, .ref 100), (2, .ref 79), (1, .ref 0), (0, .ref 1000)] [] (I1, J1, R1, D1, 102, ex1)) : g_Wp E l mLaw rmL Φ uc us 981 [(5, .int (nI (6 * t))), (4, .ref 101), (3, .ref 100), (2, .ref 79), (1, .ref 0), (0, .ref 1000)] [] (I, J, R, D, 102, ex) := by
  obtain ⟨Kc, mc, ms, Q, k3, hmc, hms, hCL, hCM⟩ := p_start E l (D := D) (ex := ex) hI hn hc (E.2.2.2.2.2 (6 * t + 1)) (E.2.2.2.2.2 (6 * t + 2))
  refine w_aload_n dL_law_981 rfl ?_
  refine w_aload_n dL_law_982 rfl ?_
  refine w_iload dL_law_983 rfl ?_
  refine w_iconst (v := 1) dL_law_985 (by decide) ?_
  refine w_iadd dL_law_986 ?_
  refine w_sld (j := (6 * t + 1)) dL_law_987 (show nI (6 * t) + nI 1 = nI (6 * t + 1) from nI_add _ _) (by omega) (by omega) ?_
  refine w_aload_n dL_law_988 rfl ?_
  refine w_iload dL_law_989 rfl ?_
  refine w_iconst (v := 2) dL_law_991 (by decide) ?_
  refine w_iadd dL_law_992 ?_
  refine w_sld (j := (6 * t + 2)) dL_law_993 (show nI (6 * t) + nI 2 = nI (6 * t + 2) from nI_add _ _) (by omega) (by omega) ?_
  refine w_aload_n dL_law_994 rfl ?_
  refine w_callSX dL_law_995 lk_L_149 hCL rfl rfl ⟨⟨lb rfl, lb rfl⟩, (show uc + mc ≤ 601024 by omega), (show us + ms ≤ 7293034 by omega)⟩ (lb rfl) (fun v w1 h => ?_) (fun X w1 h => ?_)
  · obtain ⟨k, I1, J1, R1, ex1, h1, ⟨rfl, h2⟩, h3⟩ := h
    cases h1
    subst h3
    have hm := hCM I1 J1 R1 ex1 h2
    show g_Wp _ _ _ _ _ _ _ _ _ _ _
    refine w_istore dL_law_998 (by decide) rfl ?_
    refine w_aload_n dL_law_1000 rfl ?_
    refine w_aload_n dL_law_1001 rfl ?_
    refine w_iload dL_law_1002 rfl ?_
    refine w_iconst (v := 1) dL_law_1004 (by decide) ?_
    refine w_iadd dL_law_1005 ?_
    refine w_sld (j := (6 * t + 1)) dL_law_1006 (show nI (6 * t) + nI 1 = nI (6 * t + 1) from nI_add _ _) (by omega) (by omega) ?_
    refine w_aload_n dL_law_1007 rfl ?_
    refine w_iload dL_law_1008 rfl ?_
    refine w_iconst (v := 2) dL_law_1010 (by decide) ?_
    refine w_iadd dL_law_1011 ?_
    refine w_sld (j := (6 * t + 2)) dL_law_1012 (show nI (6 * t) + nI 2 = nI (6 * t + 2) from nI_add _ _) (by omega) (by omega) ?_
    refine j_callV dL_law_1013 lk_L_151 [.int (E.2.2.2.2.2 (6 * t + 1)), .int (E.2.2.2.2.2 (6 * t + 2))] rfl hm (g_recv.obj (ci := 7) rfl (by decide) (show 79 < 102 by decide)) rfl ⟨⟨lb rfl, lb rfl⟩, (show uc + mc + 0 ≤ 601024 by omega), (show us + ms + 0 ≤ 7293034 by omega)⟩ (lb rfl) (fun x_1013 I2 J2 h_1013 => ?_)
    obtain ⟨m1, m2, sw2, A2, m3⟩ := h_1013
    refine w_istore dL_law_1016 (by decide) rfl ?_
    refine w_aload_n dL_law_1018 rfl ?_
    refine y_callV dL_law_1019 lk_L_116 [] rfl (m_thrown E l (show 79 < 102 by decide)) (g_recv.obj (ci := 7) rfl (by decide) (show 79 < 102 by decide)) rfl ⟨⟨lb rfl, lb rfl⟩, (show uc + mc + 0 + 0 ≤ 601024 by omega), (show us + ms + 0 + 0 ≤ 7293034 by omega)⟩ (lb rfl) ?_
    rw [m1]
    refine w_iload dL_law_1022 rfl ?_
    refine w_icmp_eq (tgt := 1029) dL_law_1024 (by decide) (fun c_1024 => ?_) (fun c_1024 => absurd (rfl) c_1024)
    refine w_iload dL_law_1029 rfl ?_
    refine w_if_ne (tgt := 1046) dL_law_1031 (by decide) (fun c_1031 => ?_) (fun c_1031 => ?_)
    · refine w_goto (tgt := 2159) dL_law_1046 (by decide) ?_
      exact w_lv [5, 4, 3, 2, 1, 0] (K I2 J2 R1 D ex1 sw2 A2 mc ms hmc hms m3)
    · refine w_aload_n dL_law_1034 rfl ?_
      refine w_iconst (v := 0) dL_law_1035 (by decide) ?_
      have k0 : k = 0 := n_eq (b := 0) c_1031
      obtain ⟨v1, v2⟩ := m2 k0
      refine x_lald (j := 0) dL_law_1036 rfl (show 100 < 102 by decide) rfl (by decide) ?_
      rw [v1]
      refine w_iload dL_law_1037 rfl ?_
      refine w_i2l dL_law_1039 ?_
      refine w_lcmp dL_law_1040 ?_
      refine w_if_eq (tgt := 1046) dL_law_1041 (by decide) (fun c_1041 => ?_) (fun c_1041 => absurd ((lg_self _)) c_1041)
      refine w_goto (tgt := 2159) dL_law_1046 (by decide) ?_
      exact w_lv [5, 4, 3, 2, 1, 0] (K I2 J2 R1 D ex1 sw2 A2 mc ms hmc hms m3)
  · obtain ⟨k, I1, J1, R1, ex1, h1, h2, h3⟩ := h
    cases h1
set_option maxRecDepth 100000 in
theorem b_isProved {t : Nat} (hE : E.2.2.2.2.1 ≤ 3072) (h6 : 6 * t + 5 < E.2.2.2.2.1) (hI : lwI I J R sw A n c) (hn : n < 90000) (hc : c ≤ 1000) (hu : uc + 1 ≤ 601024) (hs : us + 6 ≤ 7293034) (K : ∀ I1 J1 R1 D1 ex1 sw1 A1 mc ms, mc ≤ 1 → ms ≤ 6 → lwI I1 J1 R1 sw1 A1 (n + 2) (c + 1) → g_Wp E l mLaw rmL Φ (uc + mc) (us + ms) 2159 [(5, .int (nI (6 * t))), (4, .ref 101), (3, .ref 100), (2, .ref 79), (1, .ref 0), (0, .ref 1000)] [] (I1, J1, R1, D1, 102, ex1)) : g_Wp E l mLaw rmL Φ uc us 1049 [(5, .int (nI (6 * t))), (4, .ref 101), (3, .ref 100), (2, .ref 79), (1, .ref 0), (0, .ref 1000)] [] (I, J, R, D, 102, ex) := by
  obtain ⟨Kc, mc, ms, Q, k3, hmc, hms, hCL, hCM⟩ := p_isProved E l (D := D) (ex := ex) hI hn hc (E.2.2.2.2.2 (6 * t + 1)) (E.2.2.2.2.2 (6 * t + 2))
  refine w_aload_n dL_law_1049 rfl ?_
  refine w_aload_n dL_law_1050 rfl ?_
  refine w_iload dL_law_1051 rfl ?_
  refine w_iconst (v := 1) dL_law_1053 (by decide) ?_
  refine w_iadd dL_law_1054 ?_
  refine w_sld (j := (6 * t + 1)) dL_law_1055 (show nI (6 * t) + nI 1 = nI (6 * t + 1) from nI_add _ _) (by omega) (by omega) ?_
  refine w_aload_n dL_law_1056 rfl ?_
  refine w_iload dL_law_1057 rfl ?_
  refine w_iconst (v := 2) dL_law_1059 (by decide) ?_
  refine w_iadd dL_law_1060 ?_
  refine w_sld (j := (6 * t + 2)) dL_law_1061 (show nI (6 * t) + nI 2 = nI (6 * t + 2) from nI_add _ _) (by omega) (by omega) ?_
  refine w_aload_n dL_law_1062 rfl ?_
  refine w_callSX dL_law_1063 lk_L_152 hCL rfl rfl ⟨⟨lb rfl, lb rfl⟩, (show uc + mc ≤ 601024 by omega), (show us + ms ≤ 7293034 by omega)⟩ (lb rfl) (fun v w1 h => ?_) (fun X w1 h => ?_)
  · obtain ⟨k, I1, J1, R1, ex1, h1, ⟨rfl, h2⟩, h3⟩ := h
    cases h1
    subst h3
    have hm := hCM I1 J1 R1 ex1 h2
    show g_Wp _ _ _ _ _ _ _ _ _ _ _
    refine w_istore dL_law_1066 (by decide) rfl ?_
    refine w_aload_n dL_law_1068 rfl ?_
    refine w_aload_n dL_law_1069 rfl ?_
    refine w_iload dL_law_1070 rfl ?_
    refine w_iconst (v := 1) dL_law_1072 (by decide) ?_
    refine w_iadd dL_law_1073 ?_
    refine w_sld (j := (6 * t + 1)) dL_law_1074 (show nI (6 * t) + nI 1 = nI (6 * t + 1) from nI_add _ _) (by omega) (by omega) ?_
    refine w_aload_n dL_law_1075 rfl ?_
    refine w_iload dL_law_1076 rfl ?_
    refine w_iconst (v := 2) dL_law_1078 (by decide) ?_
    refine w_iadd dL_law_1079 ?_
    refine w_sld (j := (6 * t + 2)) dL_law_1080 (show nI (6 * t) + nI 2 = nI (6 * t + 2) from nI_add _ _) (by omega) (by omega) ?_
    refine j_callV dL_law_1081 lk_L_154 [.int (E.2.2.2.2.2 (6 * t + 1)), .int (E.2.2.2.2.2 (6 * t + 2))] rfl hm (g_recv.obj (ci := 7) rfl (by decide) (show 79 < 102 by decide)) rfl ⟨⟨lb rfl, lb rfl⟩, (show uc + mc + 0 ≤ 601024 by omega), (show us + ms + 0 ≤ 7293034 by omega)⟩ (lb rfl) (fun x_1081 I2 J2 h_1081 => ?_)
    obtain ⟨m1, m2, sw2, A2, m3⟩ := h_1081
    refine w_istore dL_law_1084 (by decide) rfl ?_
    refine w_aload_n dL_law_1086 rfl ?_
    refine y_callV dL_law_1087 lk_L_116 [] rfl (m_thrown E l (show 79 < 102 by decide)) (g_recv.obj (ci := 7) rfl (by decide) (show 79 < 102 by decide)) rfl ⟨⟨lb rfl, lb rfl⟩, (show uc + mc + 0 + 0 ≤ 601024 by omega), (show us + ms + 0 + 0 ≤ 7293034 by omega)⟩ (lb rfl) ?_
    rw [m1]
    refine w_iload dL_law_1090 rfl ?_
    refine w_icmp_eq (tgt := 1097) dL_law_1092 (by decide) (fun c_1092 => ?_) (fun c_1092 => absurd (rfl) c_1092)
    refine w_iload dL_law_1097 rfl ?_
    refine w_if_ne (tgt := 1121) dL_law_1099 (by decide) (fun c_1099 => ?_) (fun c_1099 => ?_)
    · refine w_goto (tgt := 2159) dL_law_1121 (by decide) ?_
      exact w_lv [5, 4, 3, 2, 1, 0] (K I2 J2 R1 D ex1 sw2 A2 mc ms hmc hms m3)
    · refine w_aload_n dL_law_1102 rfl ?_
      refine w_iconst (v := 0) dL_law_1103 (by decide) ?_
      have k0 : k = 0 := n_eq (b := 0) c_1099
      obtain ⟨v1, v2⟩ := m2 k0
      refine x_lald (j := 0) dL_law_1104 rfl (show 100 < 102 by decide) rfl (by decide) ?_
      rw [v1]
      refine w_iload dL_law_1105 rfl ?_
      refine w_if_eq (tgt := 1114) dL_law_1107 (by decide) (fun c_1107 => ?_) (fun c_1107 => ?_)
      · refine w_lconst (v := 0) dL_law_1114 (by decide) ?_
        refine w_lcmp dL_law_1115 ?_
        refine w_if_eq (tgt := 1121) dL_law_1116 (by decide) (fun c_1116 => ?_) (fun c_1116 => absurd ((by first | exact bz0 c_1107 | exact bz1 v2 c_1107)) c_1116)
        refine w_goto (tgt := 2159) dL_law_1121 (by decide) ?_
        exact w_lv [5, 4, 3, 2, 1, 0] (K I2 J2 R1 D ex1 sw2 A2 mc ms hmc hms m3)
      · refine w_lconst (v := 1) dL_law_1110 (by decide) ?_
        refine w_goto (tgt := 1115) dL_law_1111 (by decide) ?_
        refine w_lcmp dL_law_1115 ?_
        refine w_if_eq (tgt := 1121) dL_law_1116 (by decide) (fun c_1116 => ?_) (fun c_1116 => absurd ((by first | exact bz0 c_1107 | exact bz1 v2 c_1107)) c_1116)
        refine w_goto (tgt := 2159) dL_law_1121 (by decide) ?_
        exact w_lv [5, 4, 3, 2, 1, 0] (K I2 J2 R1 D ex1 sw2 A2 mc ms hmc hms m3)
  · obtain ⟨k, I1, J1, R1, ex1, h1, h2, h3⟩ := h
    cases h1
set_option maxRecDepth 100000 in
theorem b_heap {t : Nat} (hE : E.2.2.2.2.1 ≤ 3072) (h6 : 6 * t + 5 < E.2.2.2.2.1) (hI : lwI I J R sw A n c) (hn : n < 90000) (hc : c ≤ 1000) (hu : uc + 1 ≤ 601024) (hs : us + 6 ≤ 7293034) (K : ∀ I1 J1 R1 D1 ex1 sw1 A1 mc ms, mc ≤ 1 → ms ≤ 6 → lwI I1 J1 R1 sw1 A1 (n + 2) (c + 1) → g_Wp E l mLaw rmL Φ (uc + mc) (us + ms) 2159 [(5, .int (nI (6 * t))), (4, .ref 101), (3, .ref 100), (2, .ref 79), (1, .ref 0), (0, .ref 1000)] [] (I1, J1, R1, D1, 102, ex1)) : g_Wp E l mLaw rmL Φ uc us 1124 [(5, .int (nI (6 * t))), (4, .ref 101), (3, .ref 100), (2, .ref 79), (1, .ref 0), (0, .ref 1000)] [] (I, J, R, D, 102, ex) := by
  obtain ⟨Kc, mc, ms, Q, k3, hmc, hms, hCL, hCM⟩ := p_heap E l (D := D) (ex := ex) hI hn hc (E.2.2.2.2.2 (6 * t + 1)) (E.2.2.2.2.2 (6 * t + 2))
  refine w_aload_n dL_law_1124 rfl ?_
  refine w_aload_n dL_law_1125 rfl ?_
  refine w_iload dL_law_1126 rfl ?_
  refine w_iconst (v := 1) dL_law_1128 (by decide) ?_
  refine w_iadd dL_law_1129 ?_
  refine w_sld (j := (6 * t + 1)) dL_law_1130 (show nI (6 * t) + nI 1 = nI (6 * t + 1) from nI_add _ _) (by omega) (by omega) ?_
  refine w_aload_n dL_law_1131 rfl ?_
  refine w_iload dL_law_1132 rfl ?_
  refine w_iconst (v := 2) dL_law_1134 (by decide) ?_
  refine w_iadd dL_law_1135 ?_
  refine w_sld (j := (6 * t + 2)) dL_law_1136 (show nI (6 * t) + nI 2 = nI (6 * t + 2) from nI_add _ _) (by omega) (by omega) ?_
  refine w_aload_n dL_law_1137 rfl ?_
  refine w_callSX dL_law_1138 lk_L_155 hCL rfl rfl ⟨⟨lb rfl, lb rfl⟩, (show uc + mc ≤ 601024 by omega), (show us + ms ≤ 7293034 by omega)⟩ (lb rfl) (fun v w1 h => ?_) (fun X w1 h => ?_)
  · obtain ⟨k, I1, J1, R1, ex1, h1, ⟨rfl, h2⟩, h3⟩ := h
    cases h1
    subst h3
    have hm := hCM I1 J1 R1 ex1 h2
    show g_Wp _ _ _ _ _ _ _ _ _ _ _
    refine w_istore dL_law_1141 (by decide) rfl ?_
    refine w_aload_n dL_law_1143 rfl ?_
    refine w_aload_n dL_law_1144 rfl ?_
    refine w_iload dL_law_1145 rfl ?_
    refine w_iconst (v := 1) dL_law_1147 (by decide) ?_
    refine w_iadd dL_law_1148 ?_
    refine w_sld (j := (6 * t + 1)) dL_law_1149 (show nI (6 * t) + nI 1 = nI (6 * t + 1) from nI_add _ _) (by omega) (by omega) ?_
    refine w_aload_n dL_law_1150 rfl ?_
    refine w_iload dL_law_1151 rfl ?_
    refine w_iconst (v := 2) dL_law_1153 (by decide) ?_
    refine w_iadd dL_law_1154 ?_
    refine w_sld (j := (6 * t + 2)) dL_law_1155 (show nI (6 * t) + nI 2 = nI (6 * t + 2) from nI_add _ _) (by omega) (by omega) ?_
    refine j_callV dL_law_1156 lk_L_157 [.int (E.2.2.2.2.2 (6 * t + 1)), .int (E.2.2.2.2.2 (6 * t + 2))] rfl hm (g_recv.obj (ci := 7) rfl (by decide) (show 79 < 102 by decide)) rfl ⟨⟨lb rfl, lb rfl⟩, (show uc + mc + 0 ≤ 601024 by omega), (show us + ms + 0 ≤ 7293034 by omega)⟩ (lb rfl) (fun x_1156 I2 J2 h_1156 => ?_)
    obtain ⟨m1, m2, sw2, A2, m3⟩ := h_1156
    refine w_istore dL_law_1159 (by decide) rfl ?_
    refine w_aload_n dL_law_1161 rfl ?_
    refine y_callV dL_law_1162 lk_L_116 [] rfl (m_thrown E l (show 79 < 102 by decide)) (g_recv.obj (ci := 7) rfl (by decide) (show 79 < 102 by decide)) rfl ⟨⟨lb rfl, lb rfl⟩, (show uc + mc + 0 + 0 ≤ 601024 by omega), (show us + ms + 0 + 0 ≤ 7293034 by omega)⟩ (lb rfl) ?_
    rw [m1]
    refine w_iload dL_law_1165 rfl ?_
    refine w_icmp_eq (tgt := 1172) dL_law_1167 (by decide) (fun c_1167 => ?_) (fun c_1167 => absurd (rfl) c_1167)
    refine w_iload dL_law_1172 rfl ?_
    refine w_if_ne (tgt := 1189) dL_law_1174 (by decide) (fun c_1174 => ?_) (fun c_1174 => ?_)
    · refine w_goto (tgt := 2159) dL_law_1189 (by decide) ?_
      exact w_lv [5, 4, 3, 2, 1, 0] (K I2 J2 R1 D ex1 sw2 A2 mc ms hmc hms m3)
    · refine w_aload_n dL_law_1177 rfl ?_
      refine w_iconst (v := 0) dL_law_1178 (by decide) ?_
      have k0 : k = 0 := n_eq (b := 0) c_1174
      obtain ⟨v1, v2⟩ := m2 k0
      refine x_lald (j := 0) dL_law_1179 rfl (show 100 < 102 by decide) rfl (by decide) ?_
      rw [v1]
      refine w_iload dL_law_1180 rfl ?_
      refine w_i2l dL_law_1182 ?_
      refine w_lcmp dL_law_1183 ?_
      refine w_if_eq (tgt := 1189) dL_law_1184 (by decide) (fun c_1184 => ?_) (fun c_1184 => absurd ((lg_self _)) c_1184)
      refine w_goto (tgt := 2159) dL_law_1189 (by decide) ?_
      exact w_lv [5, 4, 3, 2, 1, 0] (K I2 J2 R1 D ex1 sw2 A2 mc ms hmc hms m3)
  · obtain ⟨k, I1, J1, R1, ex1, h1, h2, h3⟩ := h
    cases h1
set_option maxRecDepth 100000 in
theorem b_move {t : Nat} (hE : E.2.2.2.2.1 ≤ 3072) (h6 : 6 * t + 5 < E.2.2.2.2.1) (hI : lwI I J R sw A n c) (hn : n < 90000) (hc : c ≤ 1000) (hu : uc + 1 ≤ 601024) (hs : us + 6 ≤ 7293034) (K : ∀ I1 J1 R1 D1 ex1 sw1 A1 mc ms, mc ≤ 1 → ms ≤ 6 → lwI I1 J1 R1 sw1 A1 (n + 2) (c + 1) → g_Wp E l mLaw rmL Φ (uc + mc) (us + ms) 2159 [(5, .int (nI (6 * t))), (4, .ref 101), (3, .ref 100), (2, .ref 79), (1, .ref 0), (0, .ref 1000)] [] (I1, J1, R1, D1, 102, ex1)) : g_Wp E l mLaw rmL Φ uc us 1257 [(5, .int (nI (6 * t))), (4, .ref 101), (3, .ref 100), (2, .ref 79), (1, .ref 0), (0, .ref 1000)] [] (I, J, R, D, 102, ex) := by
  obtain ⟨Kc, mc, ms, Q, k3, hmc, hms, hCL, hCM⟩ := p_move E l (D := D) (ex := ex) hI hn hc (E.2.2.2.2.2 (6 * t + 1)) (E.2.2.2.2.2 (6 * t + 2))
  refine w_aload_n dL_law_1257 rfl ?_
  refine w_aload_n dL_law_1258 rfl ?_
  refine w_iload dL_law_1259 rfl ?_
  refine w_iconst (v := 1) dL_law_1261 (by decide) ?_
  refine w_iadd dL_law_1262 ?_
  refine w_sld (j := (6 * t + 1)) dL_law_1263 (show nI (6 * t) + nI 1 = nI (6 * t + 1) from nI_add _ _) (by omega) (by omega) ?_
  refine w_aload_n dL_law_1264 rfl ?_
  refine w_iload dL_law_1265 rfl ?_
  refine w_iconst (v := 2) dL_law_1267 (by decide) ?_
  refine w_iadd dL_law_1268 ?_
  refine w_sld (j := (6 * t + 2)) dL_law_1269 (show nI (6 * t) + nI 2 = nI (6 * t + 2) from nI_add _ _) (by omega) (by omega) ?_
  refine w_aload_n dL_law_1270 rfl ?_
  refine w_callSX dL_law_1271 lk_L_179 hCL rfl rfl ⟨⟨lb rfl, lb rfl⟩, (show uc + mc ≤ 601024 by omega), (show us + ms ≤ 7293034 by omega)⟩ (lb rfl) (fun v w1 h => ?_) (fun X w1 h => ?_)
  · obtain ⟨k, I1, J1, R1, ex1, h1, ⟨rfl, h2⟩, h3⟩ := h
    cases h1
    subst h3
    have hm := hCM I1 J1 R1 ex1 h2
    show g_Wp _ _ _ _ _ _ _ _ _ _ _
    refine w_istore dL_law_1274 (by decide) rfl ?_
    refine w_aload_n dL_law_1276 rfl ?_
    refine w_aload_n dL_law_1277 rfl ?_
    refine w_iload dL_law_1278 rfl ?_
    refine w_iconst (v := 1) dL_law_1280 (by decide) ?_
    refine w_iadd dL_law_1281 ?_
    refine w_sld (j := (6 * t + 1)) dL_law_1282 (show nI (6 * t) + nI 1 = nI (6 * t + 1) from nI_add _ _) (by omega) (by omega) ?_
    refine w_aload_n dL_law_1283 rfl ?_
    refine w_iload dL_law_1284 rfl ?_
    refine w_iconst (v := 2) dL_law_1286 (by decide) ?_
    refine w_iadd dL_law_1287 ?_
    refine w_sld (j := (6 * t + 2)) dL_law_1288 (show nI (6 * t) + nI 2 = nI (6 * t + 2) from nI_add _ _) (by omega) (by omega) ?_
    refine j_callV dL_law_1289 lk_L_181 [.int (E.2.2.2.2.2 (6 * t + 1)), .int (E.2.2.2.2.2 (6 * t + 2))] rfl hm (g_recv.obj (ci := 7) rfl (by decide) (show 79 < 102 by decide)) rfl ⟨⟨lb rfl, lb rfl⟩, (show uc + mc + 0 ≤ 601024 by omega), (show us + ms + 0 ≤ 7293034 by omega)⟩ (lb rfl) (fun x_1289 I2 J2 h_1289 => ?_)
    obtain ⟨m1, m2, sw2, A2, m3⟩ := h_1289
    refine w_istore dL_law_1292 (by decide) rfl ?_
    refine w_aload_n dL_law_1294 rfl ?_
    refine y_callV dL_law_1295 lk_L_116 [] rfl (m_thrown E l (show 79 < 102 by decide)) (g_recv.obj (ci := 7) rfl (by decide) (show 79 < 102 by decide)) rfl ⟨⟨lb rfl, lb rfl⟩, (show uc + mc + 0 + 0 ≤ 601024 by omega), (show us + ms + 0 + 0 ≤ 7293034 by omega)⟩ (lb rfl) ?_
    rw [m1]
    refine w_iload dL_law_1298 rfl ?_
    refine w_icmp_eq (tgt := 1305) dL_law_1300 (by decide) (fun c_1300 => ?_) (fun c_1300 => absurd (rfl) c_1300)
    refine w_iload dL_law_1305 rfl ?_
    refine w_if_ne (tgt := 1322) dL_law_1307 (by decide) (fun c_1307 => ?_) (fun c_1307 => ?_)
    · refine w_goto (tgt := 2159) dL_law_1322 (by decide) ?_
      exact w_lv [5, 4, 3, 2, 1, 0] (K I2 J2 R1 D ex1 sw2 A2 mc ms hmc hms m3)
    · refine w_aload_n dL_law_1310 rfl ?_
      refine w_iconst (v := 0) dL_law_1311 (by decide) ?_
      have k0 : k = 0 := n_eq (b := 0) c_1307
      obtain ⟨v1, v2⟩ := m2 k0
      refine x_lald (j := 0) dL_law_1312 rfl (show 100 < 102 by decide) rfl (by decide) ?_
      rw [v1]
      refine w_iload dL_law_1313 rfl ?_
      refine w_i2l dL_law_1315 ?_
      refine w_lcmp dL_law_1316 ?_
      refine w_if_eq (tgt := 1322) dL_law_1317 (by decide) (fun c_1317 => ?_) (fun c_1317 => absurd ((lg_self _)) c_1317)
      refine w_goto (tgt := 2159) dL_law_1322 (by decide) ?_
      exact w_lv [5, 4, 3, 2, 1, 0] (K I2 J2 R1 D ex1 sw2 A2 mc ms hmc hms m3)
  · obtain ⟨k, I1, J1, R1, ex1, h1, h2, h3⟩ := h
    cases h1
set_option maxRecDepth 100000 in
theorem b_lostWith {t : Nat} (hE : E.2.2.2.2.1 ≤ 3072) (h6 : 6 * t + 5 < E.2.2.2.2.1) (hI : lwI I J R sw A n c) (hn : n < 90000) (hc : c ≤ 1000) (hu : uc + 1 ≤ 601024) (hs : us + 6 ≤ 7293034) (K : ∀ I1 J1 R1 D1 ex1 sw1 A1 mc ms, mc ≤ 1 → ms ≤ 6 → lwI I1 J1 R1 sw1 A1 (n + 2) (c + 1) → g_Wp E l mLaw rmL Φ (uc + mc) (us + ms) 2159 [(5, .int (nI (6 * t))), (4, .ref 101), (3, .ref 100), (2, .ref 79), (1, .ref 0), (0, .ref 1000)] [] (I1, J1, R1, D1, 102, ex1)) : g_Wp E l mLaw rmL Φ uc us 1351 [(5, .int (nI (6 * t))), (4, .ref 101), (3, .ref 100), (2, .ref 79), (1, .ref 0), (0, .ref 1000)] [] (I, J, R, D, 102, ex) := by
  obtain ⟨Kc, mc, ms, Q, k3, hmc, hms, hCL, hCM⟩ := p_lostWith E l (D := D) (ex := ex) hI hn hc (E.2.2.2.2.2 (6 * t + 1))
  refine w_aload_n dL_law_1351 rfl ?_
  refine w_aload_n dL_law_1352 rfl ?_
  refine w_iload dL_law_1353 rfl ?_
  refine w_iconst (v := 1) dL_law_1355 (by decide) ?_
  refine w_iadd dL_law_1356 ?_
  refine w_sld (j := (6 * t + 1)) dL_law_1357 (show nI (6 * t) + nI 1 = nI (6 * t + 1) from nI_add _ _) (by omega) (by omega) ?_
  refine w_aload_n dL_law_1358 rfl ?_
  refine w_callSX dL_law_1359 lk_L_190 hCL rfl rfl ⟨⟨lb rfl, lb rfl⟩, (show uc + mc ≤ 601024 by omega), (show us + ms ≤ 7293034 by omega)⟩ (lb rfl) (fun v w1 h => ?_) (fun X w1 h => ?_)
  · obtain ⟨k, I1, J1, R1, ex1, h1, ⟨rfl, h2⟩, h3⟩ := h
    cases h1
    subst h3
    have hm := hCM I1 J1 R1 ex1 h2
    show g_Wp _ _ _ _ _ _ _ _ _ _ _
    refine w_istore dL_law_1362 (by decide) rfl ?_
    refine w_aload_n dL_law_1364 rfl ?_
    refine w_aload_n dL_law_1365 rfl ?_
    refine w_iload dL_law_1366 rfl ?_
    refine w_iconst (v := 1) dL_law_1368 (by decide) ?_
    refine w_iadd dL_law_1369 ?_
    refine w_sld (j := (6 * t + 1)) dL_law_1370 (show nI (6 * t) + nI 1 = nI (6 * t + 1) from nI_add _ _) (by omega) (by omega) ?_
    refine j_callV dL_law_1371 lk_L_192 [.int (E.2.2.2.2.2 (6 * t + 1))] rfl hm (g_recv.obj (ci := 7) rfl (by decide) (show 79 < 102 by decide)) rfl ⟨⟨lb rfl, lb rfl⟩, (show uc + mc + 0 ≤ 601024 by omega), (show us + ms + 0 ≤ 7293034 by omega)⟩ (lb rfl) (fun x_1371 I2 J2 h_1371 => ?_)
    obtain ⟨m1, m2, sw2, A2, m3⟩ := h_1371
    refine w_istore dL_law_1374 (by decide) rfl ?_
    refine w_aload_n dL_law_1376 rfl ?_
    refine y_callV dL_law_1377 lk_L_116 [] rfl (m_thrown E l (show 79 < 102 by decide)) (g_recv.obj (ci := 7) rfl (by decide) (show 79 < 102 by decide)) rfl ⟨⟨lb rfl, lb rfl⟩, (show uc + mc + 0 + 0 ≤ 601024 by omega), (show us + ms + 0 + 0 ≤ 7293034 by omega)⟩ (lb rfl) ?_
    rw [m1]
    refine w_iload dL_law_1380 rfl ?_
    refine w_icmp_eq (tgt := 1387) dL_law_1382 (by decide) (fun c_1382 => ?_) (fun c_1382 => absurd (rfl) c_1382)
    refine w_iload dL_law_1387 rfl ?_
    refine w_if_ne (tgt := 1404) dL_law_1389 (by decide) (fun c_1389 => ?_) (fun c_1389 => ?_)
    · refine w_goto (tgt := 2159) dL_law_1404 (by decide) ?_
      exact w_lv [5, 4, 3, 2, 1, 0] (K I2 J2 R1 D ex1 sw2 A2 mc ms hmc hms m3)
    · refine w_aload_n dL_law_1392 rfl ?_
      refine w_iconst (v := 0) dL_law_1393 (by decide) ?_
      have k0 : k = 0 := n_eq (b := 0) c_1389
      obtain ⟨v1, v2⟩ := m2 k0
      refine x_lald (j := 0) dL_law_1394 rfl (show 100 < 102 by decide) rfl (by decide) ?_
      rw [v1]
      refine w_iload dL_law_1395 rfl ?_
      refine w_i2l dL_law_1397 ?_
      refine w_lcmp dL_law_1398 ?_
      refine w_if_eq (tgt := 1404) dL_law_1399 (by decide) (fun c_1399 => ?_) (fun c_1399 => absurd ((lg_self _)) c_1399)
      refine w_goto (tgt := 2159) dL_law_1404 (by decide) ?_
      exact w_lv [5, 4, 3, 2, 1, 0] (K I2 J2 R1 D ex1 sw2 A2 mc ms hmc hms m3)
  · obtain ⟨k, I1, J1, R1, ex1, h1, h2, h3⟩ := h
    cases h1
set_option maxRecDepth 100000 in
theorem b_played {t : Nat} (hE : E.2.2.2.2.1 ≤ 3072) (h6 : 6 * t + 5 < E.2.2.2.2.1) (hI : lwI I J R sw A n c) (hn : n < 90000) (hc : c ≤ 1000) (hu : uc + 1 ≤ 601024) (hs : us + 6 ≤ 7293034) (K : ∀ I1 J1 R1 D1 ex1 sw1 A1 mc ms, mc ≤ 1 → ms ≤ 6 → lwI I1 J1 R1 sw1 A1 (n + 2) (c + 1) → g_Wp E l mLaw rmL Φ (uc + mc) (us + ms) 2159 [(5, .int (nI (6 * t))), (4, .ref 101), (3, .ref 100), (2, .ref 79), (1, .ref 0), (0, .ref 1000)] [] (I1, J1, R1, D1, 102, ex1)) : g_Wp E l mLaw rmL Φ uc us 1420 [(5, .int (nI (6 * t))), (4, .ref 101), (3, .ref 100), (2, .ref 79), (1, .ref 0), (0, .ref 1000)] [] (I, J, R, D, 102, ex) := by
  obtain ⟨Kc, mc, ms, Q, k3, hmc, hms, hCL, hCM⟩ := p_played E l (D := D) (ex := ex) hI hn hc (E.2.2.2.2.2 (6 * t + 1)) (E.2.2.2.2.2 (6 * t + 2))
  refine w_aload_n dL_law_1420 rfl ?_
  refine w_aload_n dL_law_1421 rfl ?_
  refine w_iload dL_law_1422 rfl ?_
  refine w_iconst (v := 1) dL_law_1424 (by decide) ?_
  refine w_iadd dL_law_1425 ?_
  refine w_sld (j := (6 * t + 1)) dL_law_1426 (show nI (6 * t) + nI 1 = nI (6 * t + 1) from nI_add _ _) (by omega) (by omega) ?_
  refine w_aload_n dL_law_1427 rfl ?_
  refine w_iload dL_law_1428 rfl ?_
  refine w_iconst (v := 2) dL_law_1430 (by decide) ?_
  refine w_iadd dL_law_1431 ?_
  refine w_sld (j := (6 * t + 2)) dL_law_1432 (show nI (6 * t) + nI 2 = nI (6 * t + 2) from nI_add _ _) (by omega) (by omega) ?_
  refine w_aload_n dL_law_1433 rfl ?_
  refine w_callSX dL_law_1434 lk_L_197 hCL rfl rfl ⟨⟨lb rfl, lb rfl⟩, (show uc + mc ≤ 601024 by omega), (show us + ms ≤ 7293034 by omega)⟩ (lb rfl) (fun v w1 h => ?_) (fun X w1 h => ?_)
  · obtain ⟨k, I1, J1, R1, ex1, h1, ⟨rfl, h2⟩, h3⟩ := h
    cases h1
    subst h3
    have hm := hCM I1 J1 R1 ex1 h2
    show g_Wp _ _ _ _ _ _ _ _ _ _ _
    refine w_istore dL_law_1437 (by decide) rfl ?_
    refine w_aload_n dL_law_1439 rfl ?_
    refine w_aload_n dL_law_1440 rfl ?_
    refine w_iload dL_law_1441 rfl ?_
    refine w_iconst (v := 1) dL_law_1443 (by decide) ?_
    refine w_iadd dL_law_1444 ?_
    refine w_sld (j := (6 * t + 1)) dL_law_1445 (show nI (6 * t) + nI 1 = nI (6 * t + 1) from nI_add _ _) (by omega) (by omega) ?_
    refine w_aload_n dL_law_1446 rfl ?_
    refine w_iload dL_law_1447 rfl ?_
    refine w_iconst (v := 2) dL_law_1449 (by decide) ?_
    refine w_iadd dL_law_1450 ?_
    refine w_sld (j := (6 * t + 2)) dL_law_1451 (show nI (6 * t) + nI 2 = nI (6 * t + 2) from nI_add _ _) (by omega) (by omega) ?_
    refine j_callV dL_law_1452 lk_L_199 [.int (E.2.2.2.2.2 (6 * t + 1)), .int (E.2.2.2.2.2 (6 * t + 2))] rfl hm (g_recv.obj (ci := 7) rfl (by decide) (show 79 < 102 by decide)) rfl ⟨⟨lb rfl, lb rfl⟩, (show uc + mc + 0 ≤ 601024 by omega), (show us + ms + 0 ≤ 7293034 by omega)⟩ (lb rfl) (fun x_1452 I2 J2 h_1452 => ?_)
    obtain ⟨m1, m2, sw2, A2, m3⟩ := h_1452
    refine w_istore dL_law_1455 (by decide) rfl ?_
    refine w_aload_n dL_law_1457 rfl ?_
    refine y_callV dL_law_1458 lk_L_116 [] rfl (m_thrown E l (show 79 < 102 by decide)) (g_recv.obj (ci := 7) rfl (by decide) (show 79 < 102 by decide)) rfl ⟨⟨lb rfl, lb rfl⟩, (show uc + mc + 0 + 0 ≤ 601024 by omega), (show us + ms + 0 + 0 ≤ 7293034 by omega)⟩ (lb rfl) ?_
    rw [m1]
    refine w_iload dL_law_1461 rfl ?_
    refine w_icmp_eq (tgt := 1468) dL_law_1463 (by decide) (fun c_1463 => ?_) (fun c_1463 => absurd (rfl) c_1463)
    refine w_iload dL_law_1468 rfl ?_
    refine w_if_ne (tgt := 1485) dL_law_1470 (by decide) (fun c_1470 => ?_) (fun c_1470 => ?_)
    · refine w_goto (tgt := 2159) dL_law_1485 (by decide) ?_
      exact w_lv [5, 4, 3, 2, 1, 0] (K I2 J2 R1 D ex1 sw2 A2 mc ms hmc hms m3)
    · refine w_aload_n dL_law_1473 rfl ?_
      refine w_iconst (v := 0) dL_law_1474 (by decide) ?_
      have k0 : k = 0 := n_eq (b := 0) c_1470
      obtain ⟨v1, v2⟩ := m2 k0
      refine x_lald (j := 0) dL_law_1475 rfl (show 100 < 102 by decide) rfl (by decide) ?_
      rw [v1]
      refine w_iload dL_law_1476 rfl ?_
      refine w_i2l dL_law_1478 ?_
      refine w_lcmp dL_law_1479 ?_
      refine w_if_eq (tgt := 1485) dL_law_1480 (by decide) (fun c_1480 => ?_) (fun c_1480 => absurd ((lg_self _)) c_1480)
      refine w_goto (tgt := 2159) dL_law_1485 (by decide) ?_
      exact w_lv [5, 4, 3, 2, 1, 0] (K I2 J2 R1 D ex1 sw2 A2 mc ms hmc hms m3)
  · obtain ⟨k, I1, J1, R1, ex1, h1, h2, h3⟩ := h
    cases h1
set_option maxRecDepth 100000 in
theorem b_take {t : Nat} (hE : E.2.2.2.2.1 ≤ 3072) (h6 : 6 * t + 5 < E.2.2.2.2.1) (hI : lwI I J R sw A n c) (hn : n < 90000) (hc : c ≤ 1000) (hu : uc + 1 ≤ 601024) (hs : us + 6 ≤ 7293034) (K : ∀ I1 J1 R1 D1 ex1 sw1 A1 mc ms, mc ≤ 1 → ms ≤ 6 → lwI I1 J1 R1 sw1 A1 (n + 2) (c + 1) → g_Wp E l mLaw rmL Φ (uc + mc) (us + ms) 2159 [(5, .int (nI (6 * t))), (4, .ref 101), (3, .ref 100), (2, .ref 79), (1, .ref 0), (0, .ref 1000)] [] (I1, J1, R1, D1, 102, ex1)) : g_Wp E l mLaw rmL Φ uc us 1488 [(5, .int (nI (6 * t))), (4, .ref 101), (3, .ref 100), (2, .ref 79), (1, .ref 0), (0, .ref 1000)] [] (I, J, R, D, 102, ex) := by
  obtain ⟨Kc, mc, ms, Q, k3, hmc, hms, hCL, hCM⟩ := p_take E l (D := D) (ex := ex) hI hn hc (E.2.2.2.2.2 (6 * t + 1)) (E.2.2.2.2.2 (6 * t + 2))
  refine w_aload_n dL_law_1488 rfl ?_
  refine w_aload_n dL_law_1489 rfl ?_
  refine w_iload dL_law_1490 rfl ?_
  refine w_iconst (v := 1) dL_law_1492 (by decide) ?_
  refine w_iadd dL_law_1493 ?_
  refine w_sld (j := (6 * t + 1)) dL_law_1494 (show nI (6 * t) + nI 1 = nI (6 * t + 1) from nI_add _ _) (by omega) (by omega) ?_
  refine w_aload_n dL_law_1495 rfl ?_
  refine w_iload dL_law_1496 rfl ?_
  refine w_iconst (v := 2) dL_law_1498 (by decide) ?_
  refine w_iadd dL_law_1499 ?_
  refine w_sld (j := (6 * t + 2)) dL_law_1500 (show nI (6 * t) + nI 2 = nI (6 * t + 2) from nI_add _ _) (by omega) (by omega) ?_
  refine w_aload_n dL_law_1501 rfl ?_
  refine w_callSX dL_law_1502 lk_L_200 hCL rfl rfl ⟨⟨lb rfl, lb rfl⟩, (show uc + mc ≤ 601024 by omega), (show us + ms ≤ 7293034 by omega)⟩ (lb rfl) (fun v w1 h => ?_) (fun X w1 h => ?_)
  · obtain ⟨k, I1, J1, R1, ex1, h1, ⟨rfl, h2⟩, h3⟩ := h
    cases h1
    subst h3
    have hm := hCM I1 J1 R1 ex1 h2
    show g_Wp _ _ _ _ _ _ _ _ _ _ _
    refine w_istore dL_law_1505 (by decide) rfl ?_
    refine w_aload_n dL_law_1507 rfl ?_
    refine w_aload_n dL_law_1508 rfl ?_
    refine w_iload dL_law_1509 rfl ?_
    refine w_iconst (v := 1) dL_law_1511 (by decide) ?_
    refine w_iadd dL_law_1512 ?_
    refine w_sld (j := (6 * t + 1)) dL_law_1513 (show nI (6 * t) + nI 1 = nI (6 * t + 1) from nI_add _ _) (by omega) (by omega) ?_
    refine w_aload_n dL_law_1514 rfl ?_
    refine w_iload dL_law_1515 rfl ?_
    refine w_iconst (v := 2) dL_law_1517 (by decide) ?_
    refine w_iadd dL_law_1518 ?_
    refine w_sld (j := (6 * t + 2)) dL_law_1519 (show nI (6 * t) + nI 2 = nI (6 * t + 2) from nI_add _ _) (by omega) (by omega) ?_
    refine j_callV dL_law_1520 lk_L_202 [.int (E.2.2.2.2.2 (6 * t + 1)), .int (E.2.2.2.2.2 (6 * t + 2))] rfl hm (g_recv.obj (ci := 7) rfl (by decide) (show 79 < 102 by decide)) rfl ⟨⟨lb rfl, lb rfl⟩, (show uc + mc + 0 ≤ 601024 by omega), (show us + ms + 0 ≤ 7293034 by omega)⟩ (lb rfl) (fun x_1520 I2 J2 h_1520 => ?_)
    obtain ⟨m1, m2, sw2, A2, m3⟩ := h_1520
    refine w_istore dL_law_1523 (by decide) rfl ?_
    refine w_aload_n dL_law_1525 rfl ?_
    refine y_callV dL_law_1526 lk_L_116 [] rfl (m_thrown E l (show 79 < 102 by decide)) (g_recv.obj (ci := 7) rfl (by decide) (show 79 < 102 by decide)) rfl ⟨⟨lb rfl, lb rfl⟩, (show uc + mc + 0 + 0 ≤ 601024 by omega), (show us + ms + 0 + 0 ≤ 7293034 by omega)⟩ (lb rfl) ?_
    rw [m1]
    refine w_iload dL_law_1529 rfl ?_
    refine w_icmp_eq (tgt := 1536) dL_law_1531 (by decide) (fun c_1531 => ?_) (fun c_1531 => absurd (rfl) c_1531)
    refine w_iload dL_law_1536 rfl ?_
    refine w_if_ne (tgt := 1553) dL_law_1538 (by decide) (fun c_1538 => ?_) (fun c_1538 => ?_)
    · refine w_goto (tgt := 2159) dL_law_1553 (by decide) ?_
      exact w_lv [5, 4, 3, 2, 1, 0] (K I2 J2 R1 D ex1 sw2 A2 mc ms hmc hms m3)
    · refine w_aload_n dL_law_1541 rfl ?_
      refine w_iconst (v := 0) dL_law_1542 (by decide) ?_
      have k0 : k = 0 := n_eq (b := 0) c_1538
      obtain ⟨v1, v2⟩ := m2 k0
      refine x_lald (j := 0) dL_law_1543 rfl (show 100 < 102 by decide) rfl (by decide) ?_
      rw [v1]
      refine w_iload dL_law_1544 rfl ?_
      refine w_i2l dL_law_1546 ?_
      refine w_lcmp dL_law_1547 ?_
      refine w_if_eq (tgt := 1553) dL_law_1548 (by decide) (fun c_1548 => ?_) (fun c_1548 => absurd ((lg_self _)) c_1548)
      refine w_goto (tgt := 2159) dL_law_1553 (by decide) ?_
      exact w_lv [5, 4, 3, 2, 1, 0] (K I2 J2 R1 D ex1 sw2 A2 mc ms hmc hms m3)
  · obtain ⟨k, I1, J1, R1, ex1, h1, h2, h3⟩ := h
    cases h1
set_option maxRecDepth 100000 in
theorem b_takeBoth {t : Nat} (hE : E.2.2.2.2.1 ≤ 3072) (h6 : 6 * t + 5 < E.2.2.2.2.1) (hI : lwI I J R sw A n c) (hn : n < 90000) (hc : c ≤ 1000) (hu : uc + 1 ≤ 601024) (hs : us + 6 ≤ 7293034) (K : ∀ I1 J1 R1 D1 ex1 sw1 A1 mc ms, mc ≤ 1 → ms ≤ 6 → lwI I1 J1 R1 sw1 A1 (n + 2) (c + 1) → g_Wp E l mLaw rmL Φ (uc + mc) (us + ms) 2159 [(5, .int (nI (6 * t))), (4, .ref 101), (3, .ref 100), (2, .ref 79), (1, .ref 0), (0, .ref 1000)] [] (I1, J1, R1, D1, 102, ex1)) : g_Wp E l mLaw rmL Φ uc us 1556 [(5, .int (nI (6 * t))), (4, .ref 101), (3, .ref 100), (2, .ref 79), (1, .ref 0), (0, .ref 1000)] [] (I, J, R, D, 102, ex) := by
  obtain ⟨Kc, mc, ms, Q, k3, hmc, hms, hCL, hCM⟩ := p_takeBoth E l (D := D) (ex := ex) hI hn hc (E.2.2.2.2.2 (6 * t + 1)) (E.2.2.2.2.2 (6 * t + 2)) (E.2.2.2.2.2 (6 * t + 3))
  refine w_aload_n dL_law_1556 rfl ?_
  refine w_aload_n dL_law_1557 rfl ?_
  refine w_iload dL_law_1558 rfl ?_
  refine w_iconst (v := 1) dL_law_1560 (by decide) ?_
  refine w_iadd dL_law_1561 ?_
  refine w_sld (j := (6 * t + 1)) dL_law_1562 (show nI (6 * t) + nI 1 = nI (6 * t + 1) from nI_add _ _) (by omega) (by omega) ?_
  refine w_aload_n dL_law_1563 rfl ?_
  refine w_iload dL_law_1564 rfl ?_
  refine w_iconst (v := 2) dL_law_1566 (by decide) ?_
  refine w_iadd dL_law_1567 ?_
  refine w_sld (j := (6 * t + 2)) dL_law_1568 (show nI (6 * t) + nI 2 = nI (6 * t + 2) from nI_add _ _) (by omega) (by omega) ?_
  refine w_aload_n dL_law_1569 rfl ?_
  refine w_iload dL_law_1570 rfl ?_
  refine w_iconst (v := 3) dL_law_1572 (by decide) ?_
  refine w_iadd dL_law_1573 ?_
  refine w_sld (j := (6 * t + 3)) dL_law_1574 (show nI (6 * t) + nI 3 = nI (6 * t + 3) from nI_add _ _) (by omega) (by omega) ?_
  refine w_aload_n dL_law_1575 rfl ?_
  refine w_callSX dL_law_1576 lk_L_203 hCL rfl rfl ⟨⟨lb rfl, lb rfl⟩, (show uc + mc ≤ 601024 by omega), (show us + ms ≤ 7293034 by omega)⟩ (lb rfl) (fun v w1 h => ?_) (fun X w1 h => ?_)
  · obtain ⟨k, I1, J1, R1, ex1, h1, ⟨rfl, h2⟩, h3⟩ := h
    cases h1
    subst h3
    have hm := hCM I1 J1 R1 ex1 h2
    show g_Wp _ _ _ _ _ _ _ _ _ _ _
    refine w_istore dL_law_1579 (by decide) rfl ?_
    refine w_aload_n dL_law_1581 rfl ?_
    refine w_aload_n dL_law_1582 rfl ?_
    refine w_iload dL_law_1583 rfl ?_
    refine w_iconst (v := 1) dL_law_1585 (by decide) ?_
    refine w_iadd dL_law_1586 ?_
    refine w_sld (j := (6 * t + 1)) dL_law_1587 (show nI (6 * t) + nI 1 = nI (6 * t + 1) from nI_add _ _) (by omega) (by omega) ?_
    refine w_aload_n dL_law_1588 rfl ?_
    refine w_iload dL_law_1589 rfl ?_
    refine w_iconst (v := 2) dL_law_1591 (by decide) ?_
    refine w_iadd dL_law_1592 ?_
    refine w_sld (j := (6 * t + 2)) dL_law_1593 (show nI (6 * t) + nI 2 = nI (6 * t + 2) from nI_add _ _) (by omega) (by omega) ?_
    refine w_aload_n dL_law_1594 rfl ?_
    refine w_iload dL_law_1595 rfl ?_
    refine w_iconst (v := 3) dL_law_1597 (by decide) ?_
    refine w_iadd dL_law_1598 ?_
    refine w_sld (j := (6 * t + 3)) dL_law_1599 (show nI (6 * t) + nI 3 = nI (6 * t + 3) from nI_add _ _) (by omega) (by omega) ?_
    refine j_callV dL_law_1600 lk_L_205 [.int (E.2.2.2.2.2 (6 * t + 1)), .int (E.2.2.2.2.2 (6 * t + 2)), .int (E.2.2.2.2.2 (6 * t + 3))] rfl hm (g_recv.obj (ci := 7) rfl (by decide) (show 79 < 102 by decide)) rfl ⟨⟨lb rfl, lb rfl⟩, (show uc + mc + 0 ≤ 601024 by omega), (show us + ms + 0 ≤ 7293034 by omega)⟩ (lb rfl) (fun x_1600 I2 J2 h_1600 => ?_)
    obtain ⟨m1, m2, sw2, A2, m3⟩ := h_1600
    refine w_istore dL_law_1603 (by decide) rfl ?_
    refine w_aload_n dL_law_1605 rfl ?_
    refine y_callV dL_law_1606 lk_L_116 [] rfl (m_thrown E l (show 79 < 102 by decide)) (g_recv.obj (ci := 7) rfl (by decide) (show 79 < 102 by decide)) rfl ⟨⟨lb rfl, lb rfl⟩, (show uc + mc + 0 + 0 ≤ 601024 by omega), (show us + ms + 0 + 0 ≤ 7293034 by omega)⟩ (lb rfl) ?_
    rw [m1]
    refine w_iload dL_law_1609 rfl ?_
    refine w_icmp_eq (tgt := 1616) dL_law_1611 (by decide) (fun c_1611 => ?_) (fun c_1611 => absurd (rfl) c_1611)
    refine w_iload dL_law_1616 rfl ?_
    refine w_if_ne (tgt := 1633) dL_law_1618 (by decide) (fun c_1618 => ?_) (fun c_1618 => ?_)
    · refine w_goto (tgt := 2159) dL_law_1633 (by decide) ?_
      exact w_lv [5, 4, 3, 2, 1, 0] (K I2 J2 R1 D ex1 sw2 A2 mc ms hmc hms m3)
    · refine w_aload_n dL_law_1621 rfl ?_
      refine w_iconst (v := 0) dL_law_1622 (by decide) ?_
      have k0 : k = 0 := n_eq (b := 0) c_1618
      obtain ⟨v1, v2⟩ := m2 k0
      refine x_lald (j := 0) dL_law_1623 rfl (show 100 < 102 by decide) rfl (by decide) ?_
      rw [v1]
      refine w_iload dL_law_1624 rfl ?_
      refine w_i2l dL_law_1626 ?_
      refine w_lcmp dL_law_1627 ?_
      refine w_if_eq (tgt := 1633) dL_law_1628 (by decide) (fun c_1628 => ?_) (fun c_1628 => absurd ((lg_self _)) c_1628)
      refine w_goto (tgt := 2159) dL_law_1633 (by decide) ?_
      exact w_lv [5, 4, 3, 2, 1, 0] (K I2 J2 R1 D ex1 sw2 A2 mc ms hmc hms m3)
  · obtain ⟨k, I1, J1, R1, ex1, h1, h2, h3⟩ := h
    cases h1
set_option maxRecDepth 100000 in
theorem b_pass {t : Nat} (hE : E.2.2.2.2.1 ≤ 3072) (h6 : 6 * t + 5 < E.2.2.2.2.1) (hI : lwI I J R sw A n c) (hn : n < 90000) (hc : c ≤ 1000) (hu : uc + 1 ≤ 601024) (hs : us + 6 ≤ 7293034) (K : ∀ I1 J1 R1 D1 ex1 sw1 A1 mc ms, mc ≤ 1 → ms ≤ 6 → lwI I1 J1 R1 sw1 A1 (n + 2) (c + 1) → g_Wp E l mLaw rmL Φ (uc + mc) (us + ms) 2159 [(5, .int (nI (6 * t))), (4, .ref 101), (3, .ref 100), (2, .ref 79), (1, .ref 0), (0, .ref 1000)] [] (I1, J1, R1, D1, 102, ex1)) : g_Wp E l mLaw rmL Φ uc us 1636 [(5, .int (nI (6 * t))), (4, .ref 101), (3, .ref 100), (2, .ref 79), (1, .ref 0), (0, .ref 1000)] [] (I, J, R, D, 102, ex) := by
  obtain ⟨Kc, mc, ms, Q, k3, hmc, hms, hCL, hCM⟩ := p_pass E l (D := D) (ex := ex) hI hn hc
  refine w_aload_n dL_law_1636 rfl ?_
  refine w_aload_n dL_law_1637 rfl ?_
  refine w_callSX dL_law_1638 lk_L_206 hCL rfl rfl ⟨⟨lb rfl, lb rfl⟩, (show uc + mc ≤ 601024 by omega), (show us + ms ≤ 7293034 by omega)⟩ (lb rfl) (fun v w1 h => ?_) (fun X w1 h => ?_)
  · obtain ⟨k, I1, J1, R1, ex1, h1, ⟨rfl, h2⟩, h3⟩ := h
    cases h1
    subst h3
    have hm := hCM I1 J1 R1 ex1 h2
    show g_Wp _ _ _ _ _ _ _ _ _ _ _
    refine w_istore dL_law_1641 (by decide) rfl ?_
    refine w_aload_n dL_law_1643 rfl ?_
    refine j_callV dL_law_1644 lk_L_209 [] rfl hm (g_recv.obj (ci := 7) rfl (by decide) (show 79 < 102 by decide)) rfl ⟨⟨lb rfl, lb rfl⟩, (show uc + mc + 0 ≤ 601024 by omega), (show us + ms + 0 ≤ 7293034 by omega)⟩ (lb rfl) (fun x_1644 I2 J2 h_1644 => ?_)
    obtain ⟨m1, m2, sw2, A2, m3⟩ := h_1644
    refine w_istore dL_law_1647 (by decide) rfl ?_
    refine w_aload_n dL_law_1649 rfl ?_
    refine y_callV dL_law_1650 lk_L_116 [] rfl (m_thrown E l (show 79 < 102 by decide)) (g_recv.obj (ci := 7) rfl (by decide) (show 79 < 102 by decide)) rfl ⟨⟨lb rfl, lb rfl⟩, (show uc + mc + 0 + 0 ≤ 601024 by omega), (show us + ms + 0 + 0 ≤ 7293034 by omega)⟩ (lb rfl) ?_
    rw [m1]
    refine w_iload dL_law_1653 rfl ?_
    refine w_icmp_eq (tgt := 1660) dL_law_1655 (by decide) (fun c_1655 => ?_) (fun c_1655 => absurd (rfl) c_1655)
    refine w_iload dL_law_1660 rfl ?_
    refine w_if_ne (tgt := 1677) dL_law_1662 (by decide) (fun c_1662 => ?_) (fun c_1662 => ?_)
    · refine w_goto (tgt := 2159) dL_law_1677 (by decide) ?_
      exact w_lv [5, 4, 3, 2, 1, 0] (K I2 J2 R1 D ex1 sw2 A2 mc ms hmc hms m3)
    · refine w_aload_n dL_law_1665 rfl ?_
      refine w_iconst (v := 0) dL_law_1666 (by decide) ?_
      have k0 : k = 0 := n_eq (b := 0) c_1662
      obtain ⟨v1, v2⟩ := m2 k0
      refine x_lald (j := 0) dL_law_1667 rfl (show 100 < 102 by decide) rfl (by decide) ?_
      rw [v1]
      refine w_iload dL_law_1668 rfl ?_
      refine w_i2l dL_law_1670 ?_
      refine w_lcmp dL_law_1671 ?_
      refine w_if_eq (tgt := 1677) dL_law_1672 (by decide) (fun c_1672 => ?_) (fun c_1672 => absurd ((lg_self _)) c_1672)
      refine w_goto (tgt := 2159) dL_law_1677 (by decide) ?_
      exact w_lv [5, 4, 3, 2, 1, 0] (K I2 J2 R1 D ex1 sw2 A2 mc ms hmc hms m3)
  · obtain ⟨k, I1, J1, R1, ex1, h1, h2, h3⟩ := h
    cases h1
set_option maxRecDepth 100000 in
theorem b_play {t : Nat} (hE : E.2.2.2.2.1 ≤ 3072) (h6 : 6 * t + 5 < E.2.2.2.2.1) (hI : lwI I J R sw A n c) (hn : n < 90000) (hc : c ≤ 1000) (hu : uc + 1 ≤ 601024) (hs : us + 6 ≤ 7293034) (K : ∀ I1 J1 R1 D1 ex1 sw1 A1 mc ms, mc ≤ 1 → ms ≤ 6 → lwI I1 J1 R1 sw1 A1 (n + 2) (c + 1) → g_Wp E l mLaw rmL Φ (uc + mc) (us + ms) 2159 [(5, .int (nI (6 * t))), (4, .ref 101), (3, .ref 100), (2, .ref 79), (1, .ref 0), (0, .ref 1000)] [] (I1, J1, R1, D1, 102, ex1)) : g_Wp E l mLaw rmL Φ uc us 1680 [(5, .int (nI (6 * t))), (4, .ref 101), (3, .ref 100), (2, .ref 79), (1, .ref 0), (0, .ref 1000)] [] (I, J, R, D, 102, ex) := by
  obtain ⟨Kc, mc, ms, Q, k3, hmc, hms, hCL, hCM⟩ := p_play E l (D := D) (ex := ex) hI hn hc
  refine w_aload_n dL_law_1680 rfl ?_
  refine w_aload_n dL_law_1681 rfl ?_
  refine w_callSX dL_law_1682 lk_L_210 hCL rfl rfl ⟨⟨lb rfl, lb rfl⟩, (show uc + mc ≤ 601024 by omega), (show us + ms ≤ 7293034 by omega)⟩ (lb rfl) (fun v w1 h => ?_) (fun X w1 h => ?_)
  · obtain ⟨k, I1, J1, R1, ex1, h1, ⟨rfl, h2⟩, h3⟩ := h
    cases h1
    subst h3
    have hm := hCM I1 J1 R1 ex1 h2
    show g_Wp _ _ _ _ _ _ _ _ _ _ _
    refine w_istore dL_law_1685 (by decide) rfl ?_
    refine w_aload_n dL_law_1687 rfl ?_
    refine j_callV dL_law_1688 lk_L_212 [] rfl hm (g_recv.obj (ci := 7) rfl (by decide) (show 79 < 102 by decide)) rfl ⟨⟨lb rfl, lb rfl⟩, (show uc + mc + 0 ≤ 601024 by omega), (show us + ms + 0 ≤ 7293034 by omega)⟩ (lb rfl) (fun x_1688 I2 J2 h_1688 => ?_)
    obtain ⟨m1, m2, sw2, A2, m3⟩ := h_1688
    refine w_istore dL_law_1691 (by decide) rfl ?_
    refine w_aload_n dL_law_1693 rfl ?_
    refine y_callV dL_law_1694 lk_L_116 [] rfl (m_thrown E l (show 79 < 102 by decide)) (g_recv.obj (ci := 7) rfl (by decide) (show 79 < 102 by decide)) rfl ⟨⟨lb rfl, lb rfl⟩, (show uc + mc + 0 + 0 ≤ 601024 by omega), (show us + ms + 0 + 0 ≤ 7293034 by omega)⟩ (lb rfl) ?_
    rw [m1]
    refine w_iload dL_law_1697 rfl ?_
    refine w_icmp_eq (tgt := 1704) dL_law_1699 (by decide) (fun c_1699 => ?_) (fun c_1699 => absurd (rfl) c_1699)
    refine w_iload dL_law_1704 rfl ?_
    refine w_if_ne (tgt := 1721) dL_law_1706 (by decide) (fun c_1706 => ?_) (fun c_1706 => ?_)
    · refine w_goto (tgt := 2159) dL_law_1721 (by decide) ?_
      exact w_lv [5, 4, 3, 2, 1, 0] (K I2 J2 R1 D ex1 sw2 A2 mc ms hmc hms m3)
    · refine w_aload_n dL_law_1709 rfl ?_
      refine w_iconst (v := 0) dL_law_1710 (by decide) ?_
      have k0 : k = 0 := n_eq (b := 0) c_1706
      obtain ⟨v1, v2⟩ := m2 k0
      refine x_lald (j := 0) dL_law_1711 rfl (show 100 < 102 by decide) rfl (by decide) ?_
      rw [v1]
      refine w_iload dL_law_1712 rfl ?_
      refine w_i2l dL_law_1714 ?_
      refine w_lcmp dL_law_1715 ?_
      refine w_if_eq (tgt := 1721) dL_law_1716 (by decide) (fun c_1716 => ?_) (fun c_1716 => absurd ((lg_self _)) c_1716)
      refine w_goto (tgt := 2159) dL_law_1721 (by decide) ?_
      exact w_lv [5, 4, 3, 2, 1, 0] (K I2 J2 R1 D ex1 sw2 A2 mc ms hmc hms m3)
  · obtain ⟨k, I1, J1, R1, ex1, h1, h2, h3⟩ := h
    cases h1
set_option maxRecDepth 100000 in
theorem b_setSize {t : Nat} (hE : E.2.2.2.2.1 ≤ 3072) (h6 : 6 * t + 5 < E.2.2.2.2.1) (hI : lwI I J R sw A n c) (hn : n < 90000) (hc : c ≤ 1000) (hu : uc + 1 ≤ 601024) (hs : us + 6 ≤ 7293034) (K : ∀ I1 J1 R1 D1 ex1 sw1 A1 mc ms, mc ≤ 1 → ms ≤ 6 → lwI I1 J1 R1 sw1 A1 (n + 2) (c + 1) → g_Wp E l mLaw rmL Φ (uc + mc) (us + ms) 2159 [(5, .int (nI (6 * t))), (4, .ref 101), (3, .ref 100), (2, .ref 79), (1, .ref 0), (0, .ref 1000)] [] (I1, J1, R1, D1, 102, ex1)) : g_Wp E l mLaw rmL Φ uc us 1724 [(5, .int (nI (6 * t))), (4, .ref 101), (3, .ref 100), (2, .ref 79), (1, .ref 0), (0, .ref 1000)] [] (I, J, R, D, 102, ex) := by
  obtain ⟨Kc, mc, ms, Q, k3, hmc, hms, hCL, hCM⟩ := p_setSize E l (D := D) (ex := ex) hI hn hc (E.2.2.2.2.2 (6 * t + 1)) (E.2.2.2.2.2 (6 * t + 2))
  refine w_aload_n dL_law_1724 rfl ?_
  refine w_aload_n dL_law_1725 rfl ?_
  refine w_iload dL_law_1726 rfl ?_
  refine w_iconst (v := 1) dL_law_1728 (by decide) ?_
  refine w_iadd dL_law_1729 ?_
  refine w_sld (j := (6 * t + 1)) dL_law_1730 (show nI (6 * t) + nI 1 = nI (6 * t + 1) from nI_add _ _) (by omega) (by omega) ?_
  refine w_aload_n dL_law_1731 rfl ?_
  refine w_iload dL_law_1732 rfl ?_
  refine w_iconst (v := 2) dL_law_1734 (by decide) ?_
  refine w_iadd dL_law_1735 ?_
  refine w_sld (j := (6 * t + 2)) dL_law_1736 (show nI (6 * t) + nI 2 = nI (6 * t + 2) from nI_add _ _) (by omega) (by omega) ?_
  refine w_aload_n dL_law_1737 rfl ?_
  refine w_callSX dL_law_1738 lk_L_213 hCL rfl rfl ⟨⟨lb rfl, lb rfl⟩, (show uc + mc ≤ 601024 by omega), (show us + ms ≤ 7293034 by omega)⟩ (lb rfl) (fun v w1 h => ?_) (fun X w1 h => ?_)
  · obtain ⟨k, I1, J1, R1, ex1, h1, ⟨rfl, h2⟩, h3⟩ := h
    cases h1
    subst h3
    have hm := hCM I1 J1 R1 ex1 h2
    show g_Wp _ _ _ _ _ _ _ _ _ _ _
    refine w_istore dL_law_1741 (by decide) rfl ?_
    refine w_aload_n dL_law_1743 rfl ?_
    refine w_aload_n dL_law_1744 rfl ?_
    refine w_iload dL_law_1745 rfl ?_
    refine w_iconst (v := 1) dL_law_1747 (by decide) ?_
    refine w_iadd dL_law_1748 ?_
    refine w_sld (j := (6 * t + 1)) dL_law_1749 (show nI (6 * t) + nI 1 = nI (6 * t + 1) from nI_add _ _) (by omega) (by omega) ?_
    refine w_aload_n dL_law_1750 rfl ?_
    refine w_iload dL_law_1751 rfl ?_
    refine w_iconst (v := 2) dL_law_1753 (by decide) ?_
    refine w_iadd dL_law_1754 ?_
    refine w_sld (j := (6 * t + 2)) dL_law_1755 (show nI (6 * t) + nI 2 = nI (6 * t + 2) from nI_add _ _) (by omega) (by omega) ?_
    refine j_callV dL_law_1756 lk_L_215 [.int (E.2.2.2.2.2 (6 * t + 1)), .int (E.2.2.2.2.2 (6 * t + 2))] rfl hm (g_recv.obj (ci := 7) rfl (by decide) (show 79 < 102 by decide)) rfl ⟨⟨lb rfl, lb rfl⟩, (show uc + mc + 0 ≤ 601024 by omega), (show us + ms + 0 ≤ 7293034 by omega)⟩ (lb rfl) (fun x_1756 I2 J2 h_1756 => ?_)
    obtain ⟨m1, m2, sw2, A2, m3⟩ := h_1756
    refine w_istore dL_law_1759 (by decide) rfl ?_
    refine w_aload_n dL_law_1761 rfl ?_
    refine y_callV dL_law_1762 lk_L_116 [] rfl (m_thrown E l (show 79 < 102 by decide)) (g_recv.obj (ci := 7) rfl (by decide) (show 79 < 102 by decide)) rfl ⟨⟨lb rfl, lb rfl⟩, (show uc + mc + 0 + 0 ≤ 601024 by omega), (show us + ms + 0 + 0 ≤ 7293034 by omega)⟩ (lb rfl) ?_
    rw [m1]
    refine w_iload dL_law_1765 rfl ?_
    refine w_icmp_eq (tgt := 1772) dL_law_1767 (by decide) (fun c_1767 => ?_) (fun c_1767 => absurd (rfl) c_1767)
    refine w_iload dL_law_1772 rfl ?_
    refine w_if_ne (tgt := 1789) dL_law_1774 (by decide) (fun c_1774 => ?_) (fun c_1774 => ?_)
    · refine w_goto (tgt := 2159) dL_law_1789 (by decide) ?_
      exact w_lv [5, 4, 3, 2, 1, 0] (K I2 J2 R1 D ex1 sw2 A2 mc ms hmc hms m3)
    · refine w_aload_n dL_law_1777 rfl ?_
      refine w_iconst (v := 0) dL_law_1778 (by decide) ?_
      have k0 : k = 0 := n_eq (b := 0) c_1774
      obtain ⟨v1, v2⟩ := m2 k0
      refine x_lald (j := 0) dL_law_1779 rfl (show 100 < 102 by decide) rfl (by decide) ?_
      rw [v1]
      refine w_iload dL_law_1780 rfl ?_
      refine w_i2l dL_law_1782 ?_
      refine w_lcmp dL_law_1783 ?_
      refine w_if_eq (tgt := 1789) dL_law_1784 (by decide) (fun c_1784 => ?_) (fun c_1784 => absurd ((lg_self _)) c_1784)
      refine w_goto (tgt := 2159) dL_law_1789 (by decide) ?_
      exact w_lv [5, 4, 3, 2, 1, 0] (K I2 J2 R1 D ex1 sw2 A2 mc ms hmc hms m3)
  · obtain ⟨k, I1, J1, R1, ex1, h1, h2, h3⟩ := h
    cases h1
set_option maxRecDepth 100000 in
theorem b_setPasses {t : Nat} (hE : E.2.2.2.2.1 ≤ 3072) (h6 : 6 * t + 5 < E.2.2.2.2.1) (hI : lwI I J R sw A n c) (hn : n < 90000) (hc : c ≤ 1000) (hu : uc + 1 ≤ 601024) (hs : us + 6 ≤ 7293034) (K : ∀ I1 J1 R1 D1 ex1 sw1 A1 mc ms, mc ≤ 1 → ms ≤ 6 → lwI I1 J1 R1 sw1 A1 (n + 2) (c + 1) → g_Wp E l mLaw rmL Φ (uc + mc) (us + ms) 2159 [(5, .int (nI (6 * t))), (4, .ref 101), (3, .ref 100), (2, .ref 79), (1, .ref 0), (0, .ref 1000)] [] (I1, J1, R1, D1, 102, ex1)) : g_Wp E l mLaw rmL Φ uc us 1792 [(5, .int (nI (6 * t))), (4, .ref 101), (3, .ref 100), (2, .ref 79), (1, .ref 0), (0, .ref 1000)] [] (I, J, R, D, 102, ex) := by
  obtain ⟨Kc, mc, ms, Q, k3, hmc, hms, hCL, hCM⟩ := p_setPasses E l (D := D) (ex := ex) hI hn hc (E.2.2.2.2.2 (6 * t + 1))
  refine w_aload_n dL_law_1792 rfl ?_
  refine w_aload_n dL_law_1793 rfl ?_
  refine w_iload dL_law_1794 rfl ?_
  refine w_iconst (v := 1) dL_law_1796 (by decide) ?_
  refine w_iadd dL_law_1797 ?_
  refine w_sld (j := (6 * t + 1)) dL_law_1798 (show nI (6 * t) + nI 1 = nI (6 * t + 1) from nI_add _ _) (by omega) (by omega) ?_
  refine w_aload_n dL_law_1799 rfl ?_
  refine w_callSX dL_law_1800 lk_L_216 hCL rfl rfl ⟨⟨lb rfl, lb rfl⟩, (show uc + mc ≤ 601024 by omega), (show us + ms ≤ 7293034 by omega)⟩ (lb rfl) (fun v w1 h => ?_) (fun X w1 h => ?_)
  · obtain ⟨k, I1, J1, R1, ex1, h1, ⟨rfl, h2⟩, h3⟩ := h
    cases h1
    subst h3
    have hm := hCM I1 J1 R1 ex1 h2
    show g_Wp _ _ _ _ _ _ _ _ _ _ _
    refine w_istore dL_law_1803 (by decide) rfl ?_
    refine w_aload_n dL_law_1805 rfl ?_
    refine w_aload_n dL_law_1806 rfl ?_
    refine w_iload dL_law_1807 rfl ?_
    refine w_iconst (v := 1) dL_law_1809 (by decide) ?_
    refine w_iadd dL_law_1810 ?_
    refine w_sld (j := (6 * t + 1)) dL_law_1811 (show nI (6 * t) + nI 1 = nI (6 * t + 1) from nI_add _ _) (by omega) (by omega) ?_
    refine j_callV dL_law_1812 lk_L_218 [.int (E.2.2.2.2.2 (6 * t + 1))] rfl hm (g_recv.obj (ci := 7) rfl (by decide) (show 79 < 102 by decide)) rfl ⟨⟨lb rfl, lb rfl⟩, (show uc + mc + 0 ≤ 601024 by omega), (show us + ms + 0 ≤ 7293034 by omega)⟩ (lb rfl) (fun x_1812 I2 J2 h_1812 => ?_)
    obtain ⟨m1, m2, sw2, A2, m3⟩ := h_1812
    refine w_istore dL_law_1815 (by decide) rfl ?_
    refine w_aload_n dL_law_1817 rfl ?_
    refine y_callV dL_law_1818 lk_L_116 [] rfl (m_thrown E l (show 79 < 102 by decide)) (g_recv.obj (ci := 7) rfl (by decide) (show 79 < 102 by decide)) rfl ⟨⟨lb rfl, lb rfl⟩, (show uc + mc + 0 + 0 ≤ 601024 by omega), (show us + ms + 0 + 0 ≤ 7293034 by omega)⟩ (lb rfl) ?_
    rw [m1]
    refine w_iload dL_law_1821 rfl ?_
    refine w_icmp_eq (tgt := 1828) dL_law_1823 (by decide) (fun c_1823 => ?_) (fun c_1823 => absurd (rfl) c_1823)
    refine w_iload dL_law_1828 rfl ?_
    refine w_if_ne (tgt := 1845) dL_law_1830 (by decide) (fun c_1830 => ?_) (fun c_1830 => ?_)
    · refine w_goto (tgt := 2159) dL_law_1845 (by decide) ?_
      exact w_lv [5, 4, 3, 2, 1, 0] (K I2 J2 R1 D ex1 sw2 A2 mc ms hmc hms m3)
    · refine w_aload_n dL_law_1833 rfl ?_
      refine w_iconst (v := 0) dL_law_1834 (by decide) ?_
      have k0 : k = 0 := n_eq (b := 0) c_1830
      obtain ⟨v1, v2⟩ := m2 k0
      refine x_lald (j := 0) dL_law_1835 rfl (show 100 < 102 by decide) rfl (by decide) ?_
      rw [v1]
      refine w_iload dL_law_1836 rfl ?_
      refine w_i2l dL_law_1838 ?_
      refine w_lcmp dL_law_1839 ?_
      refine w_if_eq (tgt := 1845) dL_law_1840 (by decide) (fun c_1840 => ?_) (fun c_1840 => absurd ((lg_self _)) c_1840)
      refine w_goto (tgt := 2159) dL_law_1845 (by decide) ?_
      exact w_lv [5, 4, 3, 2, 1, 0] (K I2 J2 R1 D ex1 sw2 A2 mc ms hmc hms m3)
  · obtain ⟨k, I1, J1, R1, ex1, h1, h2, h3⟩ := h
    cases h1
set_option maxRecDepth 100000 in
theorem b_addHeap {t : Nat} (hE : E.2.2.2.2.1 ≤ 3072) (h6 : 6 * t + 5 < E.2.2.2.2.1) (hI : lwI I J R sw A n c) (hn : n < 90000) (hc : c ≤ 1000) (hu : uc + 1 ≤ 601024) (hs : us + 6 ≤ 7293034) (K : ∀ I1 J1 R1 D1 ex1 sw1 A1 mc ms, mc ≤ 1 → ms ≤ 6 → lwI I1 J1 R1 sw1 A1 (n + 2) (c + 1) → g_Wp E l mLaw rmL Φ (uc + mc) (us + ms) 2159 [(5, .int (nI (6 * t))), (4, .ref 101), (3, .ref 100), (2, .ref 79), (1, .ref 0), (0, .ref 1000)] [] (I1, J1, R1, D1, 102, ex1)) : g_Wp E l mLaw rmL Φ uc us 1889 [(5, .int (nI (6 * t))), (4, .ref 101), (3, .ref 100), (2, .ref 79), (1, .ref 0), (0, .ref 1000)] [] (I, J, R, D, 102, ex) := by
  obtain ⟨Kc, mc, ms, Q, k3, hmc, hms, hCL, hCM⟩ := p_addHeap E l (D := D) (ex := ex) hI hn hc (E.2.2.2.2.2 (6 * t + 1)) (E.2.2.2.2.2 (6 * t + 2))
  refine w_aload_n dL_law_1889 rfl ?_
  refine w_aload_n dL_law_1890 rfl ?_
  refine w_iload dL_law_1891 rfl ?_
  refine w_iconst (v := 1) dL_law_1893 (by decide) ?_
  refine w_iadd dL_law_1894 ?_
  refine w_sld (j := (6 * t + 1)) dL_law_1895 (show nI (6 * t) + nI 1 = nI (6 * t + 1) from nI_add _ _) (by omega) (by omega) ?_
  refine w_aload_n dL_law_1896 rfl ?_
  refine w_iload dL_law_1897 rfl ?_
  refine w_iconst (v := 2) dL_law_1899 (by decide) ?_
  refine w_iadd dL_law_1900 ?_
  refine w_sld (j := (6 * t + 2)) dL_law_1901 (show nI (6 * t) + nI 2 = nI (6 * t + 2) from nI_add _ _) (by omega) (by omega) ?_
  refine w_aload_n dL_law_1902 rfl ?_
  refine w_callSX dL_law_1903 lk_L_224 hCL rfl rfl ⟨⟨lb rfl, lb rfl⟩, (show uc + mc ≤ 601024 by omega), (show us + ms ≤ 7293034 by omega)⟩ (lb rfl) (fun v w1 h => ?_) (fun X w1 h => ?_)
  · obtain ⟨k, I1, J1, R1, ex1, h1, ⟨rfl, h2⟩, h3⟩ := h
    cases h1
    subst h3
    have hm := hCM I1 J1 R1 ex1 h2
    show g_Wp _ _ _ _ _ _ _ _ _ _ _
    refine w_istore dL_law_1906 (by decide) rfl ?_
    refine w_aload_n dL_law_1908 rfl ?_
    refine w_aload_n dL_law_1909 rfl ?_
    refine w_iload dL_law_1910 rfl ?_
    refine w_iconst (v := 1) dL_law_1912 (by decide) ?_
    refine w_iadd dL_law_1913 ?_
    refine w_sld (j := (6 * t + 1)) dL_law_1914 (show nI (6 * t) + nI 1 = nI (6 * t + 1) from nI_add _ _) (by omega) (by omega) ?_
    refine w_aload_n dL_law_1915 rfl ?_
    refine w_iload dL_law_1916 rfl ?_
    refine w_iconst (v := 2) dL_law_1918 (by decide) ?_
    refine w_iadd dL_law_1919 ?_
    refine w_sld (j := (6 * t + 2)) dL_law_1920 (show nI (6 * t) + nI 2 = nI (6 * t + 2) from nI_add _ _) (by omega) (by omega) ?_
    refine j_callV dL_law_1921 lk_L_226 [.int (E.2.2.2.2.2 (6 * t + 1)), .int (E.2.2.2.2.2 (6 * t + 2))] rfl hm (g_recv.obj (ci := 7) rfl (by decide) (show 79 < 102 by decide)) rfl ⟨⟨lb rfl, lb rfl⟩, (show uc + mc + 0 ≤ 601024 by omega), (show us + ms + 0 ≤ 7293034 by omega)⟩ (lb rfl) (fun x_1921 I2 J2 h_1921 => ?_)
    obtain ⟨m1, m2, sw2, A2, m3⟩ := h_1921
    refine w_istore dL_law_1924 (by decide) rfl ?_
    refine w_aload_n dL_law_1926 rfl ?_
    refine y_callV dL_law_1927 lk_L_116 [] rfl (m_thrown E l (show 79 < 102 by decide)) (g_recv.obj (ci := 7) rfl (by decide) (show 79 < 102 by decide)) rfl ⟨⟨lb rfl, lb rfl⟩, (show uc + mc + 0 + 0 ≤ 601024 by omega), (show us + ms + 0 + 0 ≤ 7293034 by omega)⟩ (lb rfl) ?_
    rw [m1]
    refine w_iload dL_law_1930 rfl ?_
    refine w_icmp_eq (tgt := 1937) dL_law_1932 (by decide) (fun c_1932 => ?_) (fun c_1932 => absurd (rfl) c_1932)
    refine w_iload dL_law_1937 rfl ?_
    refine w_if_ne (tgt := 1954) dL_law_1939 (by decide) (fun c_1939 => ?_) (fun c_1939 => ?_)
    · refine w_goto (tgt := 2159) dL_law_1954 (by decide) ?_
      exact w_lv [5, 4, 3, 2, 1, 0] (K I2 J2 R1 D ex1 sw2 A2 mc ms hmc hms m3)
    · refine w_aload_n dL_law_1942 rfl ?_
      refine w_iconst (v := 0) dL_law_1943 (by decide) ?_
      have k0 : k = 0 := n_eq (b := 0) c_1939
      obtain ⟨v1, v2⟩ := m2 k0
      refine x_lald (j := 0) dL_law_1944 rfl (show 100 < 102 by decide) rfl (by decide) ?_
      rw [v1]
      refine w_iload dL_law_1945 rfl ?_
      refine w_i2l dL_law_1947 ?_
      refine w_lcmp dL_law_1948 ?_
      refine w_if_eq (tgt := 1954) dL_law_1949 (by decide) (fun c_1949 => ?_) (fun c_1949 => absurd ((lg_self _)) c_1949)
      refine w_goto (tgt := 2159) dL_law_1954 (by decide) ?_
      exact w_lv [5, 4, 3, 2, 1, 0] (K I2 J2 R1 D ex1 sw2 A2 mc ms hmc hms m3)
  · obtain ⟨k, I1, J1, R1, ex1, h1, h2, h3⟩ := h
    cases h1
set_option maxRecDepth 100000 in
theorem b_removeHeap {t : Nat} (hE : E.2.2.2.2.1 ≤ 3072) (h6 : 6 * t + 5 < E.2.2.2.2.1) (hI : lwI I J R sw A n c) (hn : n < 90000) (hc : c ≤ 1000) (hu : uc + 1 ≤ 601024) (hs : us + 6 ≤ 7293034) (K : ∀ I1 J1 R1 D1 ex1 sw1 A1 mc ms, mc ≤ 1 → ms ≤ 6 → lwI I1 J1 R1 sw1 A1 (n + 2) (c + 1) → g_Wp E l mLaw rmL Φ (uc + mc) (us + ms) 2159 [(5, .int (nI (6 * t))), (4, .ref 101), (3, .ref 100), (2, .ref 79), (1, .ref 0), (0, .ref 1000)] [] (I1, J1, R1, D1, 102, ex1)) : g_Wp E l mLaw rmL Φ uc us 1957 [(5, .int (nI (6 * t))), (4, .ref 101), (3, .ref 100), (2, .ref 79), (1, .ref 0), (0, .ref 1000)] [] (I, J, R, D, 102, ex) := by
  obtain ⟨Kc, mc, ms, Q, k3, hmc, hms, hCL, hCM⟩ := p_removeHeap E l (D := D) (ex := ex) hI hn hc (E.2.2.2.2.2 (6 * t + 1))
  refine w_aload_n dL_law_1957 rfl ?_
  refine w_aload_n dL_law_1958 rfl ?_
  refine w_iload dL_law_1959 rfl ?_
  refine w_iconst (v := 1) dL_law_1961 (by decide) ?_
  refine w_iadd dL_law_1962 ?_
  refine w_sld (j := (6 * t + 1)) dL_law_1963 (show nI (6 * t) + nI 1 = nI (6 * t + 1) from nI_add _ _) (by omega) (by omega) ?_
  refine w_aload_n dL_law_1964 rfl ?_
  refine w_callSX dL_law_1965 lk_L_227 hCL rfl rfl ⟨⟨lb rfl, lb rfl⟩, (show uc + mc ≤ 601024 by omega), (show us + ms ≤ 7293034 by omega)⟩ (lb rfl) (fun v w1 h => ?_) (fun X w1 h => ?_)
  · obtain ⟨k, I1, J1, R1, ex1, h1, ⟨rfl, h2⟩, h3⟩ := h
    cases h1
    subst h3
    have hm := hCM I1 J1 R1 ex1 h2
    show g_Wp _ _ _ _ _ _ _ _ _ _ _
    refine w_istore dL_law_1968 (by decide) rfl ?_
    refine w_aload_n dL_law_1970 rfl ?_
    refine w_aload_n dL_law_1971 rfl ?_
    refine w_iload dL_law_1972 rfl ?_
    refine w_iconst (v := 1) dL_law_1974 (by decide) ?_
    refine w_iadd dL_law_1975 ?_
    refine w_sld (j := (6 * t + 1)) dL_law_1976 (show nI (6 * t) + nI 1 = nI (6 * t + 1) from nI_add _ _) (by omega) (by omega) ?_
    refine j_callV dL_law_1977 lk_L_229 [.int (E.2.2.2.2.2 (6 * t + 1))] rfl hm (g_recv.obj (ci := 7) rfl (by decide) (show 79 < 102 by decide)) rfl ⟨⟨lb rfl, lb rfl⟩, (show uc + mc + 0 ≤ 601024 by omega), (show us + ms + 0 ≤ 7293034 by omega)⟩ (lb rfl) (fun x_1977 I2 J2 h_1977 => ?_)
    obtain ⟨m1, m2, sw2, A2, m3⟩ := h_1977
    refine w_istore dL_law_1980 (by decide) rfl ?_
    refine w_aload_n dL_law_1982 rfl ?_
    refine y_callV dL_law_1983 lk_L_116 [] rfl (m_thrown E l (show 79 < 102 by decide)) (g_recv.obj (ci := 7) rfl (by decide) (show 79 < 102 by decide)) rfl ⟨⟨lb rfl, lb rfl⟩, (show uc + mc + 0 + 0 ≤ 601024 by omega), (show us + ms + 0 + 0 ≤ 7293034 by omega)⟩ (lb rfl) ?_
    rw [m1]
    refine w_iload dL_law_1986 rfl ?_
    refine w_icmp_eq (tgt := 1993) dL_law_1988 (by decide) (fun c_1988 => ?_) (fun c_1988 => absurd (rfl) c_1988)
    refine w_iload dL_law_1993 rfl ?_
    refine w_if_ne (tgt := 2010) dL_law_1995 (by decide) (fun c_1995 => ?_) (fun c_1995 => ?_)
    · refine w_goto (tgt := 2159) dL_law_2010 (by decide) ?_
      exact w_lv [5, 4, 3, 2, 1, 0] (K I2 J2 R1 D ex1 sw2 A2 mc ms hmc hms m3)
    · refine w_aload_n dL_law_1998 rfl ?_
      refine w_iconst (v := 0) dL_law_1999 (by decide) ?_
      have k0 : k = 0 := n_eq (b := 0) c_1995
      obtain ⟨v1, v2⟩ := m2 k0
      refine x_lald (j := 0) dL_law_2000 rfl (show 100 < 102 by decide) rfl (by decide) ?_
      rw [v1]
      refine w_iload dL_law_2001 rfl ?_
      refine w_i2l dL_law_2003 ?_
      refine w_lcmp dL_law_2004 ?_
      refine w_if_eq (tgt := 2010) dL_law_2005 (by decide) (fun c_2005 => ?_) (fun c_2005 => absurd ((lg_self _)) c_2005)
      refine w_goto (tgt := 2159) dL_law_2010 (by decide) ?_
      exact w_lv [5, 4, 3, 2, 1, 0] (K I2 J2 R1 D ex1 sw2 A2 mc ms hmc hms m3)
  · obtain ⟨k, I1, J1, R1, ex1, h1, h2, h3⟩ := h
    cases h1
set_option maxRecDepth 100000 in
theorem b_saveSnapshot {t : Nat} (hE : E.2.2.2.2.1 ≤ 3072) (h6 : 6 * t + 5 < E.2.2.2.2.1) (hI : lwI I J R sw A n c) (hn : n < 90000) (hc : c ≤ 1000) (hu : uc + 1 ≤ 601024) (hs : us + 6 ≤ 7293034) (K : ∀ I1 J1 R1 D1 ex1 sw1 A1 mc ms, mc ≤ 1 → ms ≤ 6 → lwI I1 J1 R1 sw1 A1 (n + 2) (c + 1) → g_Wp E l mLaw rmL Φ (uc + mc) (us + ms) 2159 [(5, .int (nI (6 * t))), (4, .ref 101), (3, .ref 100), (2, .ref 79), (1, .ref 0), (0, .ref 1000)] [] (I1, J1, R1, D1, 102, ex1)) : g_Wp E l mLaw rmL Φ uc us 2026 [(5, .int (nI (6 * t))), (4, .ref 101), (3, .ref 100), (2, .ref 79), (1, .ref 0), (0, .ref 1000)] [] (I, J, R, D, 102, ex) := by
  obtain ⟨Kc, mc, ms, Q, k3, hmc, hms, hCL, hCM⟩ := p_saveSnapshot E l (D := D) (ex := ex) hI hn hc (E.2.2.2.2.2 (6 * t + 1))
  refine w_aload_n dL_law_2026 rfl ?_
  refine w_aload_n dL_law_2027 rfl ?_
  refine w_iload dL_law_2028 rfl ?_
  refine w_iconst (v := 1) dL_law_2030 (by decide) ?_
  refine w_iadd dL_law_2031 ?_
  refine w_sld (j := (6 * t + 1)) dL_law_2032 (show nI (6 * t) + nI 1 = nI (6 * t + 1) from nI_add _ _) (by omega) (by omega) ?_
  refine w_aload_n dL_law_2033 rfl ?_
  refine w_callSX dL_law_2034 lk_L_234 hCL rfl rfl ⟨⟨lb rfl, lb rfl⟩, (show uc + mc ≤ 601024 by omega), (show us + ms ≤ 7293034 by omega)⟩ (lb rfl) (fun v w1 h => ?_) (fun X w1 h => ?_)
  · obtain ⟨k, I1, J1, R1, ex1, h1, ⟨rfl, h2⟩, h3⟩ := h
    cases h1
    subst h3
    have hm := hCM I1 J1 R1 ex1 h2
    show g_Wp _ _ _ _ _ _ _ _ _ _ _
    refine w_istore dL_law_2037 (by decide) rfl ?_
    refine w_aload_n dL_law_2039 rfl ?_
    refine w_aload_n dL_law_2040 rfl ?_
    refine w_iload dL_law_2041 rfl ?_
    refine w_iconst (v := 1) dL_law_2043 (by decide) ?_
    refine w_iadd dL_law_2044 ?_
    refine w_sld (j := (6 * t + 1)) dL_law_2045 (show nI (6 * t) + nI 1 = nI (6 * t + 1) from nI_add _ _) (by omega) (by omega) ?_
    refine j_callV dL_law_2046 lk_L_236 [.int (E.2.2.2.2.2 (6 * t + 1))] rfl hm (g_recv.obj (ci := 7) rfl (by decide) (show 79 < 102 by decide)) rfl ⟨⟨lb rfl, lb rfl⟩, (show uc + mc + 0 ≤ 601024 by omega), (show us + ms + 0 ≤ 7293034 by omega)⟩ (lb rfl) (fun x_2046 I2 J2 h_2046 => ?_)
    obtain ⟨m1, m2, sw2, A2, m3⟩ := h_2046
    refine w_istore dL_law_2049 (by decide) rfl ?_
    refine w_aload_n dL_law_2051 rfl ?_
    refine y_callV dL_law_2052 lk_L_116 [] rfl (m_thrown E l (show 79 < 102 by decide)) (g_recv.obj (ci := 7) rfl (by decide) (show 79 < 102 by decide)) rfl ⟨⟨lb rfl, lb rfl⟩, (show uc + mc + 0 + 0 ≤ 601024 by omega), (show us + ms + 0 + 0 ≤ 7293034 by omega)⟩ (lb rfl) ?_
    rw [m1]
    refine w_iload dL_law_2055 rfl ?_
    refine w_icmp_eq (tgt := 2062) dL_law_2057 (by decide) (fun c_2057 => ?_) (fun c_2057 => absurd (rfl) c_2057)
    refine w_iload dL_law_2062 rfl ?_
    refine w_if_ne (tgt := 2086) dL_law_2064 (by decide) (fun c_2064 => ?_) (fun c_2064 => ?_)
    · refine w_goto (tgt := 2159) dL_law_2086 (by decide) ?_
      exact w_lv [5, 4, 3, 2, 1, 0] (K I2 J2 R1 D ex1 sw2 A2 mc ms hmc hms m3)
    · refine w_aload_n dL_law_2067 rfl ?_
      refine w_iconst (v := 0) dL_law_2068 (by decide) ?_
      have k0 : k = 0 := n_eq (b := 0) c_2064
      obtain ⟨v1, v2⟩ := m2 k0
      refine x_lald (j := 0) dL_law_2069 rfl (show 100 < 102 by decide) rfl (by decide) ?_
      rw [v1]
      refine w_iload dL_law_2070 rfl ?_
      refine w_if_eq (tgt := 2079) dL_law_2072 (by decide) (fun c_2072 => ?_) (fun c_2072 => ?_)
      · refine w_lconst (v := 0) dL_law_2079 (by decide) ?_
        refine w_lcmp dL_law_2080 ?_
        refine w_if_eq (tgt := 2086) dL_law_2081 (by decide) (fun c_2081 => ?_) (fun c_2081 => absurd ((by first | exact bz0 c_2072 | exact bz1 v2 c_2072)) c_2081)
        refine w_goto (tgt := 2159) dL_law_2086 (by decide) ?_
        exact w_lv [5, 4, 3, 2, 1, 0] (K I2 J2 R1 D ex1 sw2 A2 mc ms hmc hms m3)
      · refine w_lconst (v := 1) dL_law_2075 (by decide) ?_
        refine w_goto (tgt := 2080) dL_law_2076 (by decide) ?_
        refine w_lcmp dL_law_2080 ?_
        refine w_if_eq (tgt := 2086) dL_law_2081 (by decide) (fun c_2081 => ?_) (fun c_2081 => absurd ((by first | exact bz0 c_2072 | exact bz1 v2 c_2072)) c_2081)
        refine w_goto (tgt := 2159) dL_law_2086 (by decide) ?_
        exact w_lv [5, 4, 3, 2, 1, 0] (K I2 J2 R1 D ex1 sw2 A2 mc ms hmc hms m3)
  · obtain ⟨k, I1, J1, R1, ex1, h1, h2, h3⟩ := h
    cases h1
set_option maxRecDepth 100000 in
theorem b_restoreSnapshot {t : Nat} (hE : E.2.2.2.2.1 ≤ 3072) (h6 : 6 * t + 5 < E.2.2.2.2.1) (hI : lwI I J R sw A n c) (hn : n < 90000) (hc : c ≤ 1000) (hu : uc + 1 ≤ 601024) (hs : us + 6 ≤ 7293034) (K : ∀ I1 J1 R1 D1 ex1 sw1 A1 mc ms, mc ≤ 1 → ms ≤ 6 → lwI I1 J1 R1 sw1 A1 (n + 2) (c + 1) → g_Wp E l mLaw rmL Φ (uc + mc) (us + ms) 2159 [(5, .int (nI (6 * t))), (4, .ref 101), (3, .ref 100), (2, .ref 79), (1, .ref 0), (0, .ref 1000)] [] (I1, J1, R1, D1, 102, ex1)) : g_Wp E l mLaw rmL Φ uc us 2089 [(5, .int (nI (6 * t))), (4, .ref 101), (3, .ref 100), (2, .ref 79), (1, .ref 0), (0, .ref 1000)] [] (I, J, R, D, 102, ex) := by
  obtain ⟨Kc, mc, ms, Q, k3, hmc, hms, hCL, hCM⟩ := p_restoreSnapshot E l (D := D) (ex := ex) hI hn hc (E.2.2.2.2.2 (6 * t + 1))
  refine w_aload_n dL_law_2089 rfl ?_
  refine w_aload_n dL_law_2090 rfl ?_
  refine w_iload dL_law_2091 rfl ?_
  refine w_iconst (v := 1) dL_law_2093 (by decide) ?_
  refine w_iadd dL_law_2094 ?_
  refine w_sld (j := (6 * t + 1)) dL_law_2095 (show nI (6 * t) + nI 1 = nI (6 * t + 1) from nI_add _ _) (by omega) (by omega) ?_
  refine w_aload_n dL_law_2096 rfl ?_
  refine w_callSX dL_law_2097 lk_L_237 hCL rfl rfl ⟨⟨lb rfl, lb rfl⟩, (show uc + mc ≤ 601024 by omega), (show us + ms ≤ 7293034 by omega)⟩ (lb rfl) (fun v w1 h => ?_) (fun X w1 h => ?_)
  · obtain ⟨k, I1, J1, R1, ex1, h1, ⟨rfl, h2⟩, h3⟩ := h
    cases h1
    subst h3
    have hm := hCM I1 J1 R1 ex1 h2
    show g_Wp _ _ _ _ _ _ _ _ _ _ _
    refine w_istore dL_law_2100 (by decide) rfl ?_
    refine w_aload_n dL_law_2102 rfl ?_
    refine w_aload_n dL_law_2103 rfl ?_
    refine w_iload dL_law_2104 rfl ?_
    refine w_iconst (v := 1) dL_law_2106 (by decide) ?_
    refine w_iadd dL_law_2107 ?_
    refine w_sld (j := (6 * t + 1)) dL_law_2108 (show nI (6 * t) + nI 1 = nI (6 * t + 1) from nI_add _ _) (by omega) (by omega) ?_
    refine j_callV dL_law_2109 lk_L_239 [.int (E.2.2.2.2.2 (6 * t + 1))] rfl hm (g_recv.obj (ci := 7) rfl (by decide) (show 79 < 102 by decide)) rfl ⟨⟨lb rfl, lb rfl⟩, (show uc + mc + 0 ≤ 601024 by omega), (show us + ms + 0 ≤ 7293034 by omega)⟩ (lb rfl) (fun x_2109 I2 J2 h_2109 => ?_)
    obtain ⟨m1, m2, sw2, A2, m3⟩ := h_2109
    refine w_istore dL_law_2112 (by decide) rfl ?_
    refine w_aload_n dL_law_2114 rfl ?_
    refine y_callV dL_law_2115 lk_L_116 [] rfl (m_thrown E l (show 79 < 102 by decide)) (g_recv.obj (ci := 7) rfl (by decide) (show 79 < 102 by decide)) rfl ⟨⟨lb rfl, lb rfl⟩, (show uc + mc + 0 + 0 ≤ 601024 by omega), (show us + ms + 0 + 0 ≤ 7293034 by omega)⟩ (lb rfl) ?_
    rw [m1]
    refine w_iload dL_law_2118 rfl ?_
    refine w_icmp_eq (tgt := 2125) dL_law_2120 (by decide) (fun c_2120 => ?_) (fun c_2120 => absurd (rfl) c_2120)
    refine w_iload dL_law_2125 rfl ?_
    refine w_if_ne (tgt := 2142) dL_law_2127 (by decide) (fun c_2127 => ?_) (fun c_2127 => ?_)
    · refine w_goto (tgt := 2159) dL_law_2142 (by decide) ?_
      exact w_lv [5, 4, 3, 2, 1, 0] (K I2 J2 R1 D ex1 sw2 A2 mc ms hmc hms m3)
    · refine w_aload_n dL_law_2130 rfl ?_
      refine w_iconst (v := 0) dL_law_2131 (by decide) ?_
      have k0 : k = 0 := n_eq (b := 0) c_2127
      obtain ⟨v1, v2⟩ := m2 k0
      refine x_lald (j := 0) dL_law_2132 rfl (show 100 < 102 by decide) rfl (by decide) ?_
      rw [v1]
      refine w_iload dL_law_2133 rfl ?_
      refine w_i2l dL_law_2135 ?_
      refine w_lcmp dL_law_2136 ?_
      refine w_if_eq (tgt := 2142) dL_law_2137 (by decide) (fun c_2137 => ?_) (fun c_2137 => absurd ((lg_self _)) c_2137)
      refine w_goto (tgt := 2159) dL_law_2142 (by decide) ?_
      exact w_lv [5, 4, 3, 2, 1, 0] (K I2 J2 R1 D ex1 sw2 A2 mc ms hmc hms m3)
  · obtain ⟨k, I1, J1, R1, ex1, h1, h2, h3⟩ := h
    cases h1
end BL
