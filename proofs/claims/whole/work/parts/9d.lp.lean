/-! HeapGamesLaw.law: its loop, its start -/
theorem and63 (x : Int32) : ∃ k, k < 64 ∧ x &&& 63 = nI k := by
  have h1 : (x &&& 63).toBitVec.toNat ≤ 63 := by
    rw [Int32.toBitVec_and, BitVec.toNat_and]
    exact Nat.and_le_right
  have h2 : (x &&& 63).toInt = ((x &&& 63).toBitVec.toNat : Int) := BitVec.toInt_eq_toNat_of_lt (by omega)
  refine ⟨(x &&& 63).toBitVec.toNat, by omega, ?_⟩
  apply Int32.toInt_inj.mp
  rw [nI_toInt (by omega), h2]
theorem sub6 {L a : Nat} (hL : L ≤ 3072) (ha : a ≤ 4000) : nI L - 6 < nI a ↔ ¬ a + 5 < L := by
  rw [Int32.lt_iff_toInt_lt, Int32.toInt_sub, nI_toInt (by omega), nI_toInt (by omega), show (6 : Int32).toInt = 6 from rfl, Int.bmod_eq_of_le (by omega) (by omega)]
  omega
section LP
variable {E : GE} {l : Launch} {Φ : List Frame → Array Value → State → State → Prop}
set_option maxRecDepth 100000 in
theorem law_loop (hE : E.2.2.2.2.1 ≤ 3072) (hret : ∀ uc us ls w, uc ≤ 601024 → us ≤ 7293034 → g_Wp E l mLaw rmL Φ uc us 2166 ls [.int 1] w) : ∀ f t : Nat, t + f = 513 → ∀ (I : Nat → Nat → Int32) (J : Nat → Nat → Int64) (R : Nat → Nat → Option Nat) (D : Nat → Nat → UInt64) (ex sw : Bool) (A : AS) (n c uc us : Nat), lwI I J R sw A n c → n ≤ 2 * t → c ≤ t → uc ≤ 200 + t → us ≤ 600000 + 6 * t → g_Wp E l mLaw rmL Φ uc us 28 [(5, .int (nI (6 * t))), (4, .ref 101), (3, .ref 100), (2, .ref 79), (1, .ref 0), (0, .ref 1000)] [] (I, J, R, D, 102, ex) := by
  intro f
  induction f with
  | zero =>
    intro t ht I J R D ex sw A n c uc us hI hn hc hu hs
    refine w_iload dL_law_28 rfl ?_
    refine w_aload_n dL_law_30 rfl ?_
    refine w_slen dL_law_31 ?_
    refine w_bipush (v := 6) dL_law_32 (by decide) ?_
    refine w_isub dL_law_34 ?_
    refine w_icmp_gt (tgt := 2165) dL_law_35 (by decide) (fun c_35 => ?_) (fun c_35 => absurd (((sub6 hE (by omega)).mpr (by omega))) c_35)
    refine w_iconst (v := 1) dL_law_2165 (by decide) ?_
    exact hret _ _ _ _ (by omega) (by omega)
  | succ f ih =>
    intro t ht I J R D ex sw A n c uc us hI hn hc hu hs
    by_cases h6 : 6 * t + 5 < E.2.2.2.2.1
    · have K : ∀ I1 J1 R1 D1 ex1 sw1 A1 mc ms, mc ≤ 1 → ms ≤ 6 → lwI I1 J1 R1 sw1 A1 (n + 2) (c + 1) → g_Wp E l mLaw rmL Φ (uc + mc) (us + ms) 2159 [(5, .int (nI (6 * t))), (4, .ref 101), (3, .ref 100), (2, .ref 79), (1, .ref 0), (0, .ref 1000)] [] (I1, J1, R1, D1, 102, ex1) := by
        intro I1 J1 R1 D1 ex1 sw1 A1 mc ms hmc hms hI1
        have nx := ih (t + 1) (by omega) I1 J1 R1 D1 ex1 sw1 A1 (n + 2) (c + 1) (uc + mc) (us + ms) hI1 (by omega) (by omega) (by omega) (by omega)
        refine w_iinc (v := nI (6 * (t + 1))) dL_law_2159 rfl (show nI (6 * t) + nI 6 = nI (6 * (t + 1)) from (nI_add _ _).trans (congrArg nI (by omega))) (by decide) rfl ?_
        refine w_goto (tgt := 28) dL_law_2162 (by decide) ?_
        exact nx
      obtain ⟨k, hk, hx⟩ := and63 (E.2.2.2.2.2 (6 * t))
      have hI2 : lwI I J R sw A (n + 2) (c + 1) := ⟨hI.1, hI.2.1, hI.2.2.1.mono (by omega), hI.2.2.2.up (by omega)⟩
      refine w_iload dL_law_28 rfl ?_
      refine w_aload_n dL_law_30 rfl ?_
      refine w_slen dL_law_31 ?_
      refine w_bipush (v := 6) dL_law_32 (by decide) ?_
      refine w_isub dL_law_34 ?_
      refine w_icmp_gt (tgt := 2165) dL_law_35 (by decide) (fun c_35 => absurd c_35 ((fun q => (sub6 hE (by omega)).mp q h6))) (fun c_35 => ?_)
      refine w_aload_n dL_law_38 rfl ?_
      refine w_iload dL_law_39 rfl ?_
      refine w_sld (j := 6 * t) dL_law_41 rfl (by omega) (by omega) ?_
      refine w_bipush (v := 63) dL_law_42 (by decide) ?_
      refine w_iand dL_law_44 ?_
      rw [hx]
      rcases (show k = 0 ∨ k = 1 ∨ k = 2 ∨ k = 3 ∨ k = 4 ∨ k = 5 ∨ k = 6 ∨ k = 7 ∨ k = 8 ∨ k = 9 ∨ k = 10 ∨ k = 11 ∨ k = 12 ∨ k = 13 ∨ k = 14 ∨ k = 15 ∨ k = 16 ∨ k = 17 ∨ k = 18 ∨ k = 19 ∨ k = 20 ∨ k = 21 ∨ k = 22 ∨ k = 23 ∨ k = 24 ∨ k = 25 ∨ k = 26 ∨ k = 27 ∨ k = 28 ∨ k = 29 ∨ k = 30 ∨ k = 31 ∨ k = 32 ∨ k = 33 ∨ k = 34 ∨ k = 35 ∨ k = 36 ∨ k = 37 ∨ 38 ≤ k by omega) with rfl | rfl | rfl | rfl | rfl | rfl | rfl | rfl | rfl | rfl | rfl | rfl | rfl | rfl | rfl | rfl | rfl | rfl | rfl | rfl | rfl | rfl | rfl | rfl | rfl | rfl | rfl | rfl | rfl | rfl | rfl | rfl | rfl | rfl | rfl | rfl | rfl | rfl | h38
      · refine w_tblIn (off := 167) (tgt := 212) dL_law_45 (by decide) (by decide) (by decide) (by decide) ?_
        exact b_append hE h6 hI (by omega) (by omega) (by omega) (by omega) K
      · refine w_tblIn (off := 240) (tgt := 285) dL_law_45 (by decide) (by decide) (by decide) (by decide) ?_
        exact b_parse hE h6 hI (by omega) (by omega) (by omega) (by omega) K
      · refine w_tblIn (off := 296) (tgt := 341) dL_law_45 (by decide) (by decide) (by decide) (by decide) ?_
        exact b_size hE h6 hI (by omega) (by omega) (by omega) (by omega) K
      · refine w_tblIn (off := 352) (tgt := 397) dL_law_45 (by decide) (by decide) (by decide) (by decide) ?_
        exact b_kind hE h6 hI (by omega) (by omega) (by omega) (by omega) K
      · refine w_tblIn (off := 408) (tgt := 453) dL_law_45 (by decide) (by decide) (by decide) (by decide) ?_
        exact b_mayTake hE h6 hI (by omega) (by omega) (by omega) (by omega) K
      · refine w_tblIn (off := 495) (tgt := 540) dL_law_45 (by decide) (by decide) (by decide) (by decide) ?_
        exact b_amounts hE h6 hI (by omega) (by omega) (by omega) (by omega) K
      · refine w_tblIn (off := 563) (tgt := 608) dL_law_45 (by decide) (by decide) (by decide) (by decide) ?_
        exact b_value hE h6 hI (by omega) (by omega) (by omega) (by omega) K
      · refine w_tblIn (off := 631) (tgt := 676) dL_law_45 (by decide) (by decide) (by decide) (by decide) ?_
        exact b_heapWith hE h6 hI (by omega) (by omega) (by omega) (by omega) K
      · refine w_tblIn (off := 711) (tgt := 756) dL_law_45 (by decide) (by decide) (by decide) (by decide) ?_
        exact b_greatest hE h6 hI (by omega) (by omega) (by omega) (by omega) K
      · refine w_tblIn (off := 779) (tgt := 824) dL_law_45 (by decide) (by decide) (by decide) (by decide) ?_
        exact b_zeros hE h6 hI (by omega) (by omega) (by omega) (by omega) K
      · refine w_tblIn (off := 868) (tgt := 913) dL_law_45 (by decide) (by decide) (by decide) (by decide) ?_
        exact b_period hE h6 hI (by omega) (by omega) (by omega) (by omega) K
      · refine w_tblIn (off := 936) (tgt := 981) dL_law_45 (by decide) (by decide) (by decide) (by decide) ?_
        exact b_start hE h6 hI (by omega) (by omega) (by omega) (by omega) K
      · refine w_tblIn (off := 1004) (tgt := 1049) dL_law_45 (by decide) (by decide) (by decide) (by decide) ?_
        exact b_isProved hE h6 hI (by omega) (by omega) (by omega) (by omega) K
      · refine w_tblIn (off := 1079) (tgt := 1124) dL_law_45 (by decide) (by decide) (by decide) (by decide) ?_
        exact b_heap hE h6 hI (by omega) (by omega) (by omega) (by omega) K
      · refine w_tblIn (off := 1147) (tgt := 1192) dL_law_45 (by decide) (by decide) (by decide) (by decide) ?_
        exact b_nimSum hE h6 hI (by omega) (by omega) (by omega) (by omega) K
      · refine w_tblIn (off := 1160) (tgt := 1205) dL_law_45 (by decide) (by decide) (by decide) (by decide) ?_
        exact b_positionValue hE h6 hI (by omega) (by omega) (by omega) (by omega) K
      · refine w_tblIn (off := 1173) (tgt := 1218) dL_law_45 (by decide) (by decide) (by decide) (by decide) ?_
        exact b_isWon hE h6 hI (by omega) (by omega) (by omega) (by omega) K
      · refine w_tblIn (off := 1186) (tgt := 1231) dL_law_45 (by decide) (by decide) (by decide) (by decide) ?_
        exact b_length hE h6 hI (by omega) (by omega) (by omega) (by omega) K
      · refine w_tblIn (off := 1199) (tgt := 1244) dL_law_45 (by decide) (by decide) (by decide) (by decide) ?_
        exact b_moves hE h6 hI (by omega) (by omega) (by omega) (by omega) K
      · refine w_tblIn (off := 1212) (tgt := 1257) dL_law_45 (by decide) (by decide) (by decide) (by decide) ?_
        exact b_move hE h6 hI (by omega) (by omega) (by omega) (by omega) K
      · refine w_tblIn (off := 1280) (tgt := 1325) dL_law_45 (by decide) (by decide) (by decide) (by decide) ?_
        exact b_winning hE h6 hI (by omega) (by omega) (by omega) (by omega) K
      · refine w_tblIn (off := 1293) (tgt := 1338) dL_law_45 (by decide) (by decide) (by decide) (by decide) ?_
        exact b_best hE h6 hI (by omega) (by omega) (by omega) (by omega) K
      · refine w_tblIn (off := 1306) (tgt := 1351) dL_law_45 (by decide) (by decide) (by decide) (by decide) ?_
        exact b_lostWith hE h6 hI (by omega) (by omega) (by omega) (by omega) K
      · refine w_tblIn (off := 1362) (tgt := 1407) dL_law_45 (by decide) (by decide) (by decide) (by decide) ?_
        exact b_lostBelow hE h6 hI (by omega) (by omega) (by omega) (by omega) K
      · refine w_tblIn (off := 1375) (tgt := 1420) dL_law_45 (by decide) (by decide) (by decide) (by decide) ?_
        exact b_played hE h6 hI (by omega) (by omega) (by omega) (by omega) K
      · refine w_tblIn (off := 1443) (tgt := 1488) dL_law_45 (by decide) (by decide) (by decide) (by decide) ?_
        exact b_take hE h6 hI (by omega) (by omega) (by omega) (by omega) K
      · refine w_tblIn (off := 1511) (tgt := 1556) dL_law_45 (by decide) (by decide) (by decide) (by decide) ?_
        exact b_takeBoth hE h6 hI (by omega) (by omega) (by omega) (by omega) K
      · refine w_tblIn (off := 1591) (tgt := 1636) dL_law_45 (by decide) (by decide) (by decide) (by decide) ?_
        exact b_pass hE h6 hI (by omega) (by omega) (by omega) (by omega) K
      · refine w_tblIn (off := 1635) (tgt := 1680) dL_law_45 (by decide) (by decide) (by decide) (by decide) ?_
        exact b_play hE h6 hI (by omega) (by omega) (by omega) (by omega) K
      · refine w_tblIn (off := 1679) (tgt := 1724) dL_law_45 (by decide) (by decide) (by decide) (by decide) ?_
        exact b_setSize hE h6 hI (by omega) (by omega) (by omega) (by omega) K
      · refine w_tblIn (off := 1747) (tgt := 1792) dL_law_45 (by decide) (by decide) (by decide) (by decide) ?_
        exact b_setPasses hE h6 hI (by omega) (by omega) (by omega) (by omega) K
      · refine w_tblIn (off := 1803) (tgt := 1848) dL_law_45 (by decide) (by decide) (by decide) (by decide) ?_
        exact b_setMisere hE h6 hI (by omega) (by omega) (by omega) (by omega) K
      · refine w_tblIn (off := 1844) (tgt := 1889) dL_law_45 (by decide) (by decide) (by decide) (by decide) ?_
        exact b_addHeap hE h6 hI (by omega) (by omega) (by omega) (by omega) K
      · refine w_tblIn (off := 1912) (tgt := 1957) dL_law_45 (by decide) (by decide) (by decide) (by decide) ?_
        exact b_removeHeap hE h6 hI (by omega) (by omega) (by omega) (by omega) K
      · refine w_tblIn (off := 1968) (tgt := 2013) dL_law_45 (by decide) (by decide) (by decide) (by decide) ?_
        exact b_undo hE h6 hI (by omega) (by omega) (by omega) (by omega) K
      · refine w_tblIn (off := 1981) (tgt := 2026) dL_law_45 (by decide) (by decide) (by decide) (by decide) ?_
        exact b_saveSnapshot hE h6 hI (by omega) (by omega) (by omega) (by omega) K
      · refine w_tblIn (off := 2044) (tgt := 2089) dL_law_45 (by decide) (by decide) (by decide) (by decide) ?_
        exact b_restoreSnapshot hE h6 hI (by omega) (by omega) (by omega) (by omega) K
      · refine w_tblIn (off := 2100) (tgt := 2145) dL_law_45 (by decide) (by decide) (by decide) (by decide) ?_
        exact b_checksum hE h6 hI (by omega) (by omega) (by omega) (by omega) K
      · refine w_tblOut (tgt := 2159) dL_law_45 (Or.inr (by rw [nI_toInt (by omega)]; omega)) (by decide) ?_
        exact K I J R D ex sw A 0 0 (by decide) (by decide) hI2
    · refine w_iload dL_law_28 rfl ?_
      refine w_aload_n dL_law_30 rfl ?_
      refine w_slen dL_law_31 ?_
      refine w_bipush (v := 6) dL_law_32 (by decide) ?_
      refine w_isub dL_law_34 ?_
      refine w_icmp_gt (tgt := 2165) dL_law_35 (by decide) (fun c_35 => ?_) (fun c_35 => absurd (((sub6 hE (by omega)).mpr h6)) c_35)
      refine w_iconst (v := 1) dL_law_2165 (by decide) ?_
      exact hret _ _ _ _ (by omega) (by omega)
def Iz : Nat → Nat → Int32 := fun _ _ => 0
def Rz : Nat → Nat → Option Nat := fun _ _ => none
def Dz : Nat → Nat → UInt64 := fun _ _ => 0
theorem zf0 (n : Nat) : g_zf Iz J0 Rz Dz n := fun _ _ _ => ⟨rfl, rfl, rfl, rfl⟩
theorem lw0 : lwI I0 J0 R0 false A0 0 0 := ⟨lk_0, lkM_0, rC_0, rM_0⟩
set_option maxRecDepth 100000 in
theorem law_all (hE : E.2.2.2.2.1 ≤ 3072) (hret : ∀ uc us ls w, uc ≤ 601024 → us ≤ 7293034 → g_Wp E l mLaw rmL Φ uc us 2166 ls [.int 1] w) : g_Wp E l mLaw rmL Φ 0 0 0 [(0, .ref 1000)] [] (Iz, J0, Rz, Dz, 0, true) := by
  have l0 := law_loop hE hret 513 0 rfl I0 J0 R0 Dz true false A0 0 0
  refine x_new (ci := 6) dL_law_0 (by decide) rfl (by decide) cl_L_8 inst_6 init_6 (zf0 0) (by decide) (by decide) ?_
  refine w_dup dL_law_3 rfl ?_
  refine z_callI dL_law_4 lk_L_101 [] rfl (c_X6_init E l (zf0 1)) rfl ⟨⟨by decide, by decide⟩, by decide, by decide⟩ (lb rfl) ?_
  refine w_astore_n dL_law_7 (by decide) rfl ?_
  refine x_new (ci := 7) dL_law_8 (by decide) rfl (by decide) cl_L_102 inst_7 init_7 (rTop_z (zf0 1)) (by decide) (by decide) ?_
  refine w_dup dL_law_11 rfl ?_
  refine z_callI dL_law_12 lk_L_104 [] rfl (c_X7_init E l ((rTop_z (zf0 1)).mono (by decide))) rfl ⟨⟨by decide, by decide⟩, by decide, by decide⟩ (lb rfl) ?_
  refine w_astore_n dL_law_15 (by decide) rfl ?_
  refine w_iconst (v := 1) dL_law_16 (by decide) ?_
  refine x_newarr (c := 9) (L := 1) dL_law_17 (by decide) rfl (by decide) (by decide) rfl arrc_9 rfl (r7_z ((rTop_z (zf0 1)).mono (by decide)) 20) (by decide) (by decide) ?_
  refine w_astore_n dL_law_19 (by decide) rfl ?_
  refine w_iconst (v := 1) dL_law_20 (by decide) ?_
  refine x_newarr (c := 12) (L := 1) dL_law_21 (by decide) rfl (by decide) (by decide) rfl arrc_12 rfl ((r7_z ((rTop_z (zf0 1)).mono (by decide)) 20).mono (by decide)) (by decide) (by decide) ?_
  refine w_astore dL_law_23 (by decide) rfl ?_
  refine w_iconst (v := 0) dL_law_25 (by decide) ?_
  refine w_istore dL_law_26 (by decide) rfl ?_
  exact l0 _ _ lw0 (by decide) (by decide) (by decide) (by decide)
end LP
