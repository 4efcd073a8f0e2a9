/-! HeapGamesLaw: both calls, side by side -/
theorem okI_ex {k : Nat} {S : Nat → Bool} {n : Nat} {x : Int32} (h : okI k S n x = true) : ∃ a, x = nI a ∧ okA k S n a = true := by
  unfold okI at h
  rw [Bool.and_eq_true, decide_eq_true_eq] at h
  refine ⟨x.toInt.toNat, ?_, h.2⟩
  apply Int32.toInt_inj.mp
  have h1 := x.toInt_lt
  rw [nI_toInt (by omega)]
  omega
section PR
variable (E : GE) (l : Launch)
variable {I : Nat → Nat → Int32} {J : Nat → Nat → Int64} {R : Nat → Nat → Option Nat} {D : Nat → Nat → UInt64} {N : Nat} {ex sw : Bool} {A A' : AS} {n c K f q mc ms k : Nat} {μ : GM} {as : List Value} {cd : String → Nat} {I' : Nat → Nat → Int32} {J' : Nat → Nat → Int64} {R' : Nat → Nat → Option Nat}
variable {Pv : Int32 → (Nat → Nat → Int32) → (Nat → Nat → Int64) → (Nat → Nat → Option Nat) → Prop} {Px : String → (Nat → Nat → Int32) → Prop}
theorem lw_u (h : g_Ct E l μ f q mc ms as (I, J, R, D, 102, ex) (g_lw (lwQ cd (fun v I1 J1 R1 => ∃ y : Int32, v = y.toInt64 ∧ Pv y I1 J1 R1) Px J R) D)) : g_Ct E l μ f q mc ms as (I, J, R, D, 102, ex) (g_lw (lwU cd Pv Px J R) D) := by
  refine h.mono ?_
  rintro o w1 ⟨k, I1, J1, R1, ex1, z1, z2, z3⟩
  refine ⟨k, I1, J1, R1, ex1, z1, ?_, z3⟩
  rcases z2 with ⟨y1, v, J2, ⟨y, y2, y3⟩, y4⟩ | y
  · exact Or.inl ⟨y1, y, J2, y3, by rw [y4, y2]⟩
  · exact Or.inr y
theorem lw_ub (h : g_Ct E l μ f q mc ms as (I, J, R, D, 102, ex) (g_lw (lwQ cd (fun v I1 J1 R1 => ∃ b : Bool, v = (if b then 1 else 0) ∧ Pv (b2i b) I1 J1 R1) Px J R) D)) : g_Ct E l μ f q mc ms as (I, J, R, D, 102, ex) (g_lw (lwU cd Pv Px J R) D) := by
  refine h.mono ?_
  rintro o w1 ⟨k, I1, J1, R1, ex1, z1, z2, z3⟩
  refine ⟨k, I1, J1, R1, ex1, z1, ?_, z3⟩
  rcases z2 with ⟨y1, v, J2, ⟨b, y2, y3⟩, y4⟩ | y
  · exact Or.inl ⟨y1, b2i b, J2, y3, by rw [y4, y2, b2i_l]⟩
  · exact Or.inr y
theorem h_kind {p0 : Int32} : hlT E l mX6_kind 7 111 [.ref 0, .int p0] mL_kind 8 132 [.ref 0, .int p0, .ref 100] cd_kind (fun X => X = sIO) (fun _ => True) I J R D ex := fun mc ms Pv Px hC hX hb => lw_u E l (l_kind E l hC hX)
set_option maxRecDepth 100000 in
theorem p_kind (hI : lwI I J R sw A n c) (hn : n < 90000) (hc : c ≤ 1000) (p0 : Int32) : ccR E l mL_kind mX7_kind 8 132 2 43 [.ref 0, .int p0, .ref 100] [.ref 79, .int p0] (fun _ => True) I J R D ex n c := by
  obtain ⟨i1, i2, i3, i4⟩ := id hI
  have hA := i3.ok
  have h6 := hA.1
  have h4 := hA.2.2.1.1
  have hpl : A.st.pl.length ≤ 40 := hA.2.2.1.2.2.2.1
  rcases i_rng p0 (A.nr) (by omega) with ⟨k, hk, rfl⟩ | hx
  · exact cc_v E l hI (h_kind E l) trivial (is_ri E l (c_kind E l i1 i3 hk)) (fun x I1 z => ⟨z.1, by rw [z.2]; exact frM.refl I, by rw [z.2]; exact i3.mono (by omega)⟩) (fun I1 J1 ex1 hm => mq0 E l hm (m_kind E l i2 hA hm hk))
  · exact cc_x E l hI (h_kind E l) (K := 1) (ths_rx E l (c_kind_x E l i1 i3 hx)) (fun I1 z => ⟨by rw [z]; exact frM.refl I, by rw [z]; exact i3.mono (by omega)⟩) rfl (by decide) (by decide) (fun I1 J1 ex1 hm => mq1 E l hm (m_kind_x E l i2 hA hm hx))
theorem h_amounts {p0 p1 : Int32} : hlT E l mX6_amounts 7 111 [.ref 0, .int p0, .int p1] mL_amounts 8 134 [.ref 0, .int p0, .int p1, .ref 100] cd_amounts (fun X => X = sIO ∨ X = sIA) (fun _ => True) I J R D ex := fun mc ms Pv Px hC hX hb => lw_u E l (l_amounts E l hC hX)
set_option maxRecDepth 100000 in
theorem p_amounts (hI : lwI I J R sw A n c) (hn : n < 90000) (hc : c ≤ 1000) (p0 p1 : Int32) : ccR E l mL_amounts mX7_amounts 8 134 3 70 [.ref 0, .int p0, .int p1, .ref 100] [.ref 79, .int p0, .int p1] (fun _ => True) I J R D ex n c := by
  obtain ⟨i1, i2, i3, i4⟩ := id hI
  have hA := i3.ok
  have h6 := hA.1
  have h4 := hA.2.2.1.1
  have hpl : A.st.pl.length ≤ 40 := hA.2.2.1.2.2.2.1
  rcases i_rng p0 (A.nr) (by omega) with ⟨k, hk, rfl⟩ | hx
  · rcases i_rng p1 (301) (by omega) with ⟨z, hz, rfl⟩ | hx
    · exact cc_v E l hI (h_amounts E l) trivial (is_ri E l (c_amounts E l i1 i3 hk hz)) (fun x I1 z => ⟨z.1, by rw [z.2]; exact frM.refl I, by rw [z.2]; exact i3.mono (by omega)⟩) (fun I1 J1 ex1 hm => mq0 E l hm (m_amounts E l i2 hA hm hk hz))
    · exact cc_x E l hI (h_amounts E l) (K := 2) (ths_rx E l (c_amounts_x2 E l i1 i3 hk hx)) (fun I1 z => ⟨by rw [z]; exact frM.refl I, by rw [z]; exact i3.mono (by omega)⟩) (Or.inr rfl) (by decide) (by decide) (fun I1 J1 ex1 hm => mq1 E l hm (m_amounts_x2 E l i2 hA hm hk hx))
  · exact cc_x E l hI (h_amounts E l) (K := 1) (ths_rx E l (c_amounts_x1 E l i1 i3 hx _)) (fun I1 z => ⟨by rw [z]; exact frM.refl I, by rw [z]; exact i3.mono (by omega)⟩) (Or.inl rfl) (by decide) (by decide) (fun I1 J1 ex1 hm => mq1 E l hm (m_amounts_x1 E l i2 hA hm hx _))
theorem h_value {p0 p1 : Int32} : hlT E l mX6_value 7 111 [.ref 0, .int p0, .int p1] mL_value 8 134 [.ref 0, .int p0, .int p1, .ref 100] cd_value (fun X => X = sIO ∨ X = sIA) (fun _ => True) I J R D ex := fun mc ms Pv Px hC hX hb => lw_u E l (l_value E l hC hX)
set_option maxRecDepth 100000 in
theorem p_value (hI : lwI I J R sw A n c) (hn : n < 90000) (hc : c ≤ 1000) (p0 p1 : Int32) : ccR E l mL_value mX7_value 8 134 3 65 [.ref 0, .int p0, .int p1, .ref 100] [.ref 79, .int p0, .int p1] (fun _ => True) I J R D ex n c := by
  obtain ⟨i1, i2, i3, i4⟩ := id hI
  have hA := i3.ok
  have h6 := hA.1
  have h4 := hA.2.2.1.1
  have hpl : A.st.pl.length ≤ 40 := hA.2.2.1.2.2.2.1
  rcases i_rng p0 (A.nr) (by omega) with ⟨k, hk, rfl⟩ | hx
  · rcases i_rng p1 (301) (by omega) with ⟨z, hz, rfl⟩ | hx
    · exact cc_v E l hI (h_value E l) trivial (is_ri E l (c_value E l i1 i3 hk hz)) (fun x I1 z => ⟨z.1, by rw [z.2]; exact frM.refl I, by rw [z.2]; exact i3.mono (by omega)⟩) (fun I1 J1 ex1 hm => mq0 E l hm (m_value E l i2 hA hm hk hz))
    · exact cc_x E l hI (h_value E l) (K := 2) (ths_rx E l (c_value_x2 E l i1 i3 hk hx)) (fun I1 z => ⟨by rw [z]; exact frM.refl I, by rw [z]; exact i3.mono (by omega)⟩) (Or.inr rfl) (by decide) (by decide) (fun I1 J1 ex1 hm => mq1 E l hm (m_value_x2 E l i2 hA hm hk hx))
  · exact cc_x E l hI (h_value E l) (K := 1) (ths_rx E l (c_value_x1 E l i1 i3 hx _)) (fun I1 z => ⟨by rw [z]; exact frM.refl I, by rw [z]; exact i3.mono (by omega)⟩) (Or.inl rfl) (by decide) (by decide) (fun I1 J1 ex1 hm => mq1 E l hm (m_value_x1 E l i2 hA hm hx _))
theorem h_greatest {p0 p1 : Int32} : hlT E l mX6_greatest 7 111 [.ref 0, .int p0, .int p1] mL_greatest 8 136 [.ref 0, .int p0, .int p1, .ref 100] cd_greatest (fun X => X = sIO ∨ X = sIA) (fun _ => True) I J R D ex := fun mc ms Pv Px hC hX hb => lw_u E l (l_greatest E l hC hX)
set_option maxRecDepth 100000 in
theorem p_greatest (hI : lwI I J R sw A n c) (hn : n < 90000) (hc : c ≤ 1000) (p0 p1 : Int32) : ccR E l mL_greatest mX7_greatest 8 136 3 65 [.ref 0, .int p0, .int p1, .ref 100] [.ref 79, .int p0, .int p1] (fun _ => True) I J R D ex n c := by
  obtain ⟨i1, i2, i3, i4⟩ := id hI
  have hA := i3.ok
  have h6 := hA.1
  have h4 := hA.2.2.1.1
  have hpl : A.st.pl.length ≤ 40 := hA.2.2.1.2.2.2.1
  rcases i_rng p0 (A.nr) (by omega) with ⟨k, hk, rfl⟩ | hx
  · rcases i_rng p1 (301) (by omega) with ⟨z, hz, rfl⟩ | hx
    · exact cc_v E l hI (h_greatest E l) trivial (is_ri E l (c_greatest E l i1 i3 hk hz)) (fun x I1 z => ⟨z.1, by rw [z.2]; exact frM.refl I, by rw [z.2]; exact i3.mono (by omega)⟩) (fun I1 J1 ex1 hm => mq0 E l hm (m_greatest E l i2 hA hm hk hz))
    · exact cc_x E l hI (h_greatest E l) (K := 2) (ths_rx E l (c_greatest_x2 E l i1 i3 hk hx)) (fun I1 z => ⟨by rw [z]; exact frM.refl I, by rw [z]; exact i3.mono (by omega)⟩) (Or.inr rfl) (by decide) (by decide) (fun I1 J1 ex1 hm => mq1 E l hm (m_greatest_x2 E l i2 hA hm hk hx))
  · exact cc_x E l hI (h_greatest E l) (K := 1) (ths_rx E l (c_greatest_x1 E l i1 i3 hx _)) (fun I1 z => ⟨by rw [z]; exact frM.refl I, by rw [z]; exact i3.mono (by omega)⟩) (Or.inl rfl) (by decide) (by decide) (fun I1 J1 ex1 hm => mq1 E l hm (m_greatest_x1 E l i2 hA hm hx _))
theorem h_period {p0 p1 : Int32} : hlT E l mX6_period 7 111 [.ref 0, .int p0, .int p1] mL_period 8 134 [.ref 0, .int p0, .int p1, .ref 100] cd_period (fun X => X = sIO ∨ X = sIA) (fun _ => True) I J R D ex := fun mc ms Pv Px hC hX hb => lw_u E l (l_period E l hC hX)
set_option maxRecDepth 100000 in
theorem p_period (hI : lwI I J R sw A n c) (hn : n < 90000) (hc : c ≤ 1000) (p0 p1 : Int32) : ccR E l mL_period mX7_period 8 134 3 70 [.ref 0, .int p0, .int p1, .ref 100] [.ref 79, .int p0, .int p1] (fun _ => True) I J R D ex n c := by
  obtain ⟨i1, i2, i3, i4⟩ := id hI
  have hA := i3.ok
  have h6 := hA.1
  have h4 := hA.2.2.1.1
  have hpl : A.st.pl.length ≤ 40 := hA.2.2.1.2.2.2.1
  rcases i_rng p0 (A.nr) (by omega) with ⟨k, hk, rfl⟩ | hx
  · rcases i_rng p1 (301) (by omega) with ⟨z, hz, rfl⟩ | hx
    · exact cc_v E l hI (h_period E l) trivial (is_ri E l (c_period E l i1 i3 hk hz)) (fun x I1 z => ⟨z.1, by rw [z.2]; exact frM.refl I, by rw [z.2]; exact i3.mono (by omega)⟩) (fun I1 J1 ex1 hm => mq0 E l hm (m_period E l i2 hA hm hk hz))
    · exact cc_x E l hI (h_period E l) (K := 2) (ths_rx E l (c_period_x2 E l i1 i3 hk hx)) (fun I1 z => ⟨by rw [z]; exact frM.refl I, by rw [z]; exact i3.mono (by omega)⟩) (Or.inr rfl) (by decide) (by decide) (fun I1 J1 ex1 hm => mq1 E l hm (m_period_x2 E l i2 hA hm hk hx))
  · exact cc_x E l hI (h_period E l) (K := 1) (ths_rx E l (c_period_x1 E l i1 i3 hx _)) (fun I1 z => ⟨by rw [z]; exact frM.refl I, by rw [z]; exact i3.mono (by omega)⟩) (Or.inl rfl) (by decide) (by decide) (fun I1 J1 ex1 hm => mq1 E l hm (m_period_x1 E l i2 hA hm hx _))
theorem h_start {p0 p1 : Int32} : hlT E l mX6_start 7 111 [.ref 0, .int p0, .int p1] mL_start 8 135 [.ref 0, .int p0, .int p1, .ref 100] cd_start (fun X => X = sIO ∨ X = sIA) (fun _ => True) I J R D ex := fun mc ms Pv Px hC hX hb => lw_u E l (l_start E l hC hX)
set_option maxRecDepth 100000 in
theorem p_start (hI : lwI I J R sw A n c) (hn : n < 90000) (hc : c ≤ 1000) (p0 p1 : Int32) : ccR E l mL_start mX7_start 8 135 4 94 [.ref 0, .int p0, .int p1, .ref 100] [.ref 79, .int p0, .int p1] (fun _ => True) I J R D ex n c := by
  obtain ⟨i1, i2, i3, i4⟩ := id hI
  have hA := i3.ok
  have h6 := hA.1
  have h4 := hA.2.2.1.1
  have hpl : A.st.pl.length ≤ 40 := hA.2.2.1.2.2.2.1
  rcases i_rng p0 (A.nr) (by omega) with ⟨k, hk, rfl⟩ | hx
  · rcases i_rng p1 (301) (by omega) with ⟨z, hz, rfl⟩ | hx
    · exact cc_v E l hI (h_start E l) trivial (is_ri E l (c_start E l i1 i3 hk hz)) (fun x I1 z => ⟨z.1, by rw [z.2]; exact frM.refl I, by rw [z.2]; exact i3.mono (by omega)⟩) (fun I1 J1 ex1 hm => mq0 E l hm (m_start E l i2 hA hm hk hz))
    · exact cc_x E l hI (h_start E l) (K := 2) (ths_rx E l (c_start_x2 E l i1 i3 hk hx)) (fun I1 z => ⟨by rw [z]; exact frM.refl I, by rw [z]; exact i3.mono (by omega)⟩) (Or.inr rfl) (by decide) (by decide) (fun I1 J1 ex1 hm => mq1 E l hm (m_start_x2 E l i2 hA hm hk hx))
  · exact cc_x E l hI (h_start E l) (K := 1) (ths_rx E l (c_start_x1 E l i1 i3 hx _)) (fun I1 z => ⟨by rw [z]; exact frM.refl I, by rw [z]; exact i3.mono (by omega)⟩) (Or.inl rfl) (by decide) (by decide) (fun I1 J1 ex1 hm => mq1 E l hm (m_start_x1 E l i2 hA hm hx _))
theorem h_isProved {p0 p1 : Int32} : hlT E l mX6_isProved 7 111 [.ref 0, .int p0, .int p1] mL_isProved 8 135 [.ref 0, .int p0, .int p1, .ref 100] cd_isProved (fun X => X = sIO ∨ X = sIA) (fun v => ∃ b, v = b2i b) I J R D ex := fun mc ms Pv Px hC hX hb => lw_ub E l (l_isProved E l hC hX hb)
set_option maxRecDepth 100000 in
theorem p_isProved (hI : lwI I J R sw A n c) (hn : n < 90000) (hc : c ≤ 1000) (p0 p1 : Int32) : ccR E l mL_isProved mX7_isProved 8 135 4 94 [.ref 0, .int p0, .int p1, .ref 100] [.ref 79, .int p0, .int p1] (fun v => ∃ b, v = b2i b) I J R D ex n c := by
  obtain ⟨i1, i2, i3, i4⟩ := id hI
  have hA := i3.ok
  have h6 := hA.1
  have h4 := hA.2.2.1.1
  have hpl : A.st.pl.length ≤ 40 := hA.2.2.1.2.2.2.1
  rcases i_rng p0 (A.nr) (by omega) with ⟨k, hk, rfl⟩ | hx
  · rcases i_rng p1 (301) (by omega) with ⟨z, hz, rfl⟩ | hx
    · exact cc_v E l hI (h_isProved E l) ⟨_, rfl⟩ (is_ri E l (c_isProved E l i1 i3 hk hz)) (fun x I1 z => ⟨z.1, by rw [z.2]; exact frM.refl I, by rw [z.2]; exact i3.mono (by omega)⟩) (fun I1 J1 ex1 hm => mq0 E l hm (m_isProved E l i2 hA hm hk hz))
    · exact cc_x E l hI (h_isProved E l) (K := 2) (ths_rx E l (c_isProved_x2 E l i1 i3 hk hx)) (fun I1 z => ⟨by rw [z]; exact frM.refl I, by rw [z]; exact i3.mono (by omega)⟩) (Or.inr rfl) (by decide) (by decide) (fun I1 J1 ex1 hm => mq1 E l hm (m_isProved_x2 E l i2 hA hm hk hx))
  · exact cc_x E l hI (h_isProved E l) (K := 1) (ths_rx E l (c_isProved_x1 E l i1 i3 hx _)) (fun I1 z => ⟨by rw [z]; exact frM.refl I, by rw [z]; exact i3.mono (by omega)⟩) (Or.inl rfl) (by decide) (by decide) (fun I1 J1 ex1 hm => mq1 E l hm (m_isProved_x1 E l i2 hA hm hx _))
theorem h_mayTake {p0 p1 p2 : Int32} : hlT E l mX6_mayTake 7 111 [.ref 0, .int p0, .int p1, .int p2] mL_mayTake 8 135 [.ref 0, .int p0, .int p1, .int p2, .ref 100] cd_mayTake (fun X => X = sIO ∨ X = sIA) (fun v => ∃ b, v = b2i b) I J R D ex := fun mc ms Pv Px hC hX hb => lw_ub E l (l_mayTake E l hC hX hb)
set_option maxRecDepth 100000 in
theorem p_mayTake (hI : lwI I J R sw A n c) (hn : n < 90000) (hc : c ≤ 1000) (p0 p1 p2 : Int32) : ccR E l mL_mayTake mX7_mayTake 8 135 3 65 [.ref 0, .int p0, .int p1, .int p2, .ref 100] [.ref 79, .int p0, .int p1, .int p2] (fun v => ∃ b, v = b2i b) I J R D ex n c := by
  obtain ⟨i1, i2, i3, i4⟩ := id hI
  have hA := i3.ok
  have h6 := hA.1
  have h4 := hA.2.2.1.1
  have hpl : A.st.pl.length ≤ 40 := hA.2.2.1.2.2.2.1
  rcases i_rng p0 (A.nr) (by omega) with ⟨k, hk, rfl⟩ | hx
  · rcases i_rng p1 (301) (by omega) with ⟨z, hz, rfl⟩ | hx
    · exact cc_v E l hI (h_mayTake E l) ⟨_, rfl⟩ (is_ri E l (c_mayTake E l i1 i3 hk hz _)) (fun x I1 z => ⟨z.1, by rw [z.2]; exact frM.refl I, by rw [z.2]; exact i3.mono (by omega)⟩) (fun I1 J1 ex1 hm => mq0 E l hm (m_mayTake E l i2 hA hm hk hz _))
    · exact cc_x E l hI (h_mayTake E l) (K := 2) (ths_rx E l (c_mayTake_x2 E l i1 i3 hk hx _)) (fun I1 z => ⟨by rw [z]; exact frM.refl I, by rw [z]; exact i3.mono (by omega)⟩) (Or.inr rfl) (by decide) (by decide) (fun I1 J1 ex1 hm => mq1 E l hm (m_mayTake_x2 E l i2 hA hm hk hx _))
  · exact cc_x E l hI (h_mayTake E l) (K := 1) (ths_rx E l (c_mayTake_x1 E l i1 i3 hx _ _)) (fun I1 z => ⟨by rw [z]; exact frM.refl I, by rw [z]; exact i3.mono (by omega)⟩) (Or.inl rfl) (by decide) (by decide) (fun I1 J1 ex1 hm => mq1 E l hm (m_mayTake_x1 E l i2 hA hm hx _ _))
theorem h_heapWith {p0 p1 p2 : Int32} : hlT E l mX6_heapWith 7 111 [.ref 0, .int p0, .int p1, .int p2] mL_heapWith 8 137 [.ref 0, .int p0, .int p1, .int p2, .ref 100] cd_heapWith (fun X => X = sIO) (fun _ => True) I J R D ex := fun mc ms Pv Px hC hX hb => lw_u E l (l_heapWith E l hC hX)
set_option maxRecDepth 100000 in
theorem p_heapWith (hI : lwI I J R sw A n c) (hn : n < 90000) (hc : c ≤ 1000) (p0 p1 p2 : Int32) : ccR E l mL_heapWith mX7_heapWith 8 137 2 43 [.ref 0, .int p0, .int p1, .int p2, .ref 100] [.ref 79, .int p0, .int p1, .int p2] (fun _ => True) I J R D ex n c := by
  obtain ⟨i1, i2, i3, i4⟩ := id hI
  have hA := i3.ok
  have h6 := hA.1
  have h4 := hA.2.2.1.1
  have hpl : A.st.pl.length ≤ 40 := hA.2.2.1.2.2.2.1
  rcases i_rng p0 (A.nr) (by omega) with ⟨k, hk, rfl⟩ | hx
  · exact cc_v E l hI (h_heapWith E l) trivial (is_ri E l (c_heapWith E l i1 i3 hk _ _)) (fun x I1 z => ⟨z.1, by rw [z.2]; exact frM.refl I, by rw [z.2]; exact i3.mono (by omega)⟩) (fun I1 J1 ex1 hm => mq0 E l hm (m_heapWith E l i2 hA hm hk _ _))
  · exact cc_x E l hI (h_heapWith E l) (K := 1) (ths_rx E l (c_heapWith_x E l i1 i3 hx _ _)) (fun I1 z => ⟨by rw [z]; exact frM.refl I, by rw [z]; exact i3.mono (by omega)⟩) rfl (by decide) (by decide) (fun I1 J1 ex1 hm => mq1 E l hm (m_heapWith_x E l i2 hA hm hx _ _))
theorem h_heap {p0 p1 : Int32} : hlT E l mX6_heap 7 111 [.ref 0, .int p0, .int p1] mL_heap 8 134 [.ref 0, .int p0, .int p1, .ref 100] cd_heap (fun X => X = sIO ∨ X = sIA) (fun _ => True) I J R D ex := fun mc ms Pv Px hC hX hb => lw_u E l (l_heap E l hC hX)
set_option maxRecDepth 100000 in
theorem p_heap (hI : lwI I J R sw A n c) (hn : n < 90000) (hc : c ≤ 1000) (p0 p1 : Int32) : ccR E l mL_heap mX7_heap 8 134 3 70 [.ref 0, .int p0, .int p1, .ref 100] [.ref 79, .int p0, .int p1] (fun _ => True) I J R D ex n c := by
  obtain ⟨i1, i2, i3, i4⟩ := id hI
  have hA := i3.ok
  have h6 := hA.1
  have h4 := hA.2.2.1.1
  have hpl : A.st.pl.length ≤ 40 := hA.2.2.1.2.2.2.1
  rcases i_rng p0 (A.st.hs.length) (by omega) with ⟨k, hk, rfl⟩ | hx
  · rcases i_rng p1 (4) (by omega) with ⟨z, hz, rfl⟩ | hx
    · exact cc_v E l hI (h_heap E l) trivial (is_ri E l (c_heap E l i1 i3 hk hz)) (fun x I1 z => ⟨z.1, by rw [z.2]; exact frM.refl I, by rw [z.2]; exact i3.mono (by omega)⟩) (fun I1 J1 ex1 hm => mq0 E l hm (m_heap E l i2 hA hm hk hz))
    · exact cc_x E l hI (h_heap E l) (K := 2) (ths_rx E l (c_heap_x2 E l i1 i3 hk hx)) (fun I1 z => ⟨by rw [z]; exact frM.refl I, by rw [z]; exact i3.mono (by omega)⟩) (Or.inr rfl) (by decide) (by decide) (fun I1 J1 ex1 hm => mq1 E l hm (m_heap_x2 E l i2 hA hm hk hx))
  · exact cc_x E l hI (h_heap E l) (K := 1) (ths_rx E l (c_heap_x1 E l i1 i3 hx _)) (fun I1 z => ⟨by rw [z]; exact frM.refl I, by rw [z]; exact i3.mono (by omega)⟩) (Or.inl rfl) (by decide) (by decide) (fun I1 J1 ex1 hm => mq1 E l hm (m_heap_x1 E l i2 hA hm hx _))
theorem h_played {p0 p1 : Int32} : hlT E l mX6_played 6 90 [.ref 0, .int p0, .int p1] mL_played 7 112 [.ref 0, .int p0, .int p1, .ref 100] cd_played (fun X => X = sIO ∨ X = sIA) (fun _ => True) I J R D ex := fun mc ms Pv Px hC hX hb => lw_u E l (l_played E l hC hX)
set_option maxRecDepth 100000 in
theorem p_played (hI : lwI I J R sw A n c) (hn : n < 90000) (hc : c ≤ 1000) (p0 p1 : Int32) : ccR E l mL_played mX7_played 7 112 1 22 [.ref 0, .int p0, .int p1, .ref 100] [.ref 79, .int p0, .int p1] (fun _ => True) I J R D ex n c := by
  obtain ⟨i1, i2, i3, i4⟩ := id hI
  have hA := i3.ok
  have h6 := hA.1
  have h4 := hA.2.2.1.1
  have hpl : A.st.pl.length ≤ 40 := hA.2.2.1.2.2.2.1
  rcases i_rng p0 (A.st.pl.length) (by omega) with ⟨k, hk, rfl⟩ | hx
  · rcases i_rng p1 (4) (by omega) with ⟨z, hz, rfl⟩ | hx
    · exact cc_v E l hI (h_played E l) trivial (is_ri E l (c_played E l i1 i3 hk hz)) (fun x I1 z => ⟨z.1, by rw [z.2]; exact frM.refl I, by rw [z.2]; exact i3.mono (by omega)⟩) (fun I1 J1 ex1 hm => mq0 E l hm (m_played E l i2 hA hm hk hz))
    · exact cc_x E l hI (h_played E l) (K := 2) (ths_rx E l (c_played_x2 E l i1 i3 hk hx)) (fun I1 z => ⟨by rw [z]; exact frM.refl I, by rw [z]; exact i3.mono (by omega)⟩) (Or.inr rfl) (by decide) (by decide) (fun I1 J1 ex1 hm => mq1 E l hm (m_played_x2 E l i2 hA hm hk hx))
  · exact cc_x E l hI (h_played E l) (K := 1) (ths_rx E l (c_played_x1 E l i1 i3 hx _)) (fun I1 z => ⟨by rw [z]; exact frM.refl I, by rw [z]; exact i3.mono (by omega)⟩) (Or.inl rfl) (by decide) (by decide) (fun I1 J1 ex1 hm => mq1 E l hm (m_played_x1 E l i2 hA hm hx _))
theorem h_size {p0 : Int32} : hlT E l mX6_size 6 132 [.ref 0, .int p0] mL_size 7 154 [.ref 0, .int p0, .ref 100] cd_size (fun X => X = sIA) (fun _ => True) I J R D ex := fun mc ms Pv Px hC hX hb => lw_u E l (l_size E l hC hX)
set_option maxRecDepth 100000 in
theorem p_size (hI : lwI I J R sw A n c) (hn : n < 90000) (hc : c ≤ 1000) (p0 : Int32) : ccR E l mL_size mX7_size 7 154 7 158 [.ref 0, .int p0, .ref 100] [.ref 79, .int p0] (fun _ => True) I J R D ex n c := by
  obtain ⟨i1, i2, i3, i4⟩ := id hI
  have hA := i3.ok
  have h6 := hA.1
  have h4 := hA.2.2.1.1
  have hpl : A.st.pl.length ≤ 40 := hA.2.2.1.2.2.2.1
  rcases i_rng p0 (10) (by omega) with ⟨k, hk, rfl⟩ | hx
  · exact cc_v E l hI (h_size E l) trivial (c_size E l i1 i3 (by omega) hk) (fun x I1 z => ⟨z.1, z.2.1.m, i3.sv z.2.1 (z.2.2.mono (by omega))⟩) (fun I1 J1 ex1 hm => m_size E l i2 hA hm hk)
  · exact cc_x E l hI (h_size E l) (K := 1) (ths_rx E l (c_size_x E l i1 hx)) (fun I1 z => ⟨by rw [z]; exact frM.refl I, by rw [z]; exact i3.mono (by omega)⟩) rfl (by decide) (by decide) (fun I1 J1 ex1 hm => mq1 E l hm (m_size_x E l i2 hA hm hx))
theorem h_lostWith {p0 : Int32} : hlT E l mX6_lostWith 7 122 [.ref 0, .int p0] mL_lostWith 8 145 [.ref 0, .int p0, .ref 100] cd_lostWith (fun X => X = sIO) (fun _ => True) I J R D ex := fun mc ms Pv Px hC hX hb => lw_u E l (l_lostWith E l hC hX)
set_option maxRecDepth 100000 in
theorem p_lostWith (hI : lwI I J R sw A n c) (hn : n < 90000) (hc : c ≤ 1000) (p0 : Int32) : ccR E l mL_lostWith mX7_lostWith 8 145 5 114 [.ref 0, .int p0, .ref 100] [.ref 79, .int p0] (fun _ => True) I J R D ex n c := by
  obtain ⟨i1, i2, i3, i4⟩ := id hI
  have hA := i3.ok
  have h6 := hA.1
  have h4 := hA.2.2.1.1
  have hpl : A.st.pl.length ≤ 40 := hA.2.2.1.2.2.2.1
  rcases i_rng p0 (A.st.hs.length) (by omega) with ⟨k, hk, rfl⟩ | hx
  · exact cc_v E l hI (h_lostWith E l) trivial (c_lostWith E l i1 i3 (by omega) hk) (fun x I1 z => ⟨z.1, z.2.1.m, (i3.pr z.2.1 z.2.2).mono (by omega)⟩) (fun I1 J1 ex1 hm => m_lostWith E l i2 hA hm hc hk)
  · exact cc_x E l hI (h_lostWith E l) (K := 1) (ths_rx E l (c_lostWith_x E l i1 i3 hx)) (fun I1 z => ⟨by rw [z]; exact frM.refl I, by rw [z]; exact i3.mono (by omega)⟩) rfl (by decide) (by decide) (fun I1 J1 ex1 hm => mq1 E l hm (m_lostWith_x E l i2 hA hm hx))
theorem h_take {p0 p1 : Int32} : hlT E l mX6_take 7 123 [.ref 0, .int p0, .int p1] mL_take 8 145 [.ref 0, .int p0, .int p1, .ref 100] cd_take (fun X => X = sIO ∨ X = sIA) (fun _ => True) I J R D ex := fun mc ms Pv Px hC hX hb => lw_u E l (l_take E l hC hX)
set_option maxRecDepth 100000 in
theorem p_take (hI : lwI I J R sw A n c) (hn : n < 90000) (hc : c ≤ 1000) (p0 p1 : Int32) : ccR E l mL_take mX7_take 8 145 3 71 [.ref 0, .int p0, .int p1, .ref 100] [.ref 79, .int p0, .int p1] (fun _ => True) I J R D ex n c := by
  obtain ⟨i1, i2, i3, i4⟩ := id hI
  have hA := i3.ok
  have h6 := hA.1
  have h4 := hA.2.2.1.1
  have hpl : A.st.pl.length ≤ 40 := hA.2.2.1.2.2.2.1
  rcases i_rng p0 (A.st.hs.length) (by omega) with ⟨k, hk, rfl⟩ | hx
  · by_cases hz : okI (A.ru.1 (A.st.rl k)) (A.ru.2.1 (A.st.rl k)) (A.st.sz k) p1 = true
    · obtain ⟨a, rfl, ha⟩ := okI_ex hz
      by_cases hf : A.st.pl.length < 40
      · exact cc_v E l hI (h_take E l) trivial (c_take E l i1 i3 hk ha hf) (fun x I1 z => ⟨z.1, z.2.1, z.2.2.mono (by omega)⟩) (fun I1 J1 ex1 hm => m_take E l i2 hA hm hk ha hf)
      · have hf9 : A.st.pl.length = 40 := by omega
        exact cc_v E l hI (h_take E l) trivial (is_ri E l (c_take_full E l i1 i3 hk ha hf9)) (fun x I1 z => ⟨z.1, by rw [z.2]; exact frM.refl I, by rw [z.2]; exact i3.mono (by omega)⟩) (fun I1 J1 ex1 hm => m_take_full E l i2 hA hm hk ha hf9)
    · exact cc_x E l hI (h_take E l) (K := 2) (ths_rx E l (c_take_x2 E l i1 i3 hk (Bool.not_eq_true _ ▸ hz))) (fun I1 z => ⟨by rw [z]; exact frM.refl I, by rw [z]; exact i3.mono (by omega)⟩) (Or.inr rfl) (by decide) (by decide) (fun I1 J1 ex1 hm => mq1 E l hm (m_take_x2 E l i2 hA hm hk (Bool.not_eq_true _ ▸ hz)))
  · exact cc_x E l hI (h_take E l) (K := 1) (ths_rx E l (c_take_x1 E l i1 i3 hx _)) (fun I1 z => ⟨by rw [z]; exact frM.refl I, by rw [z]; exact i3.mono (by omega)⟩) (Or.inl rfl) (by decide) (by decide) (fun I1 J1 ex1 hm => mq1 E l hm (m_take_x1 E l i2 hA hm hx _))
theorem h_takeBoth {p0 p1 p2 : Int32} : hlT E l mX6_takeBoth 7 123 [.ref 0, .int p0, .int p1, .int p2] mL_takeBoth 8 146 [.ref 0, .int p0, .int p1, .int p2, .ref 100] cd_takeBoth (fun X => X = sIO ∨ X = sIA) (fun _ => True) I J R D ex := fun mc ms Pv Px hC hX hb => lw_u E l (l_takeBoth E l hC hX)
set_option maxRecDepth 100000 in
theorem p_takeBoth (hI : lwI I J R sw A n c) (hn : n < 90000) (hc : c ≤ 1000) (p0 p1 p2 : Int32) : ccR E l mL_takeBoth mX7_takeBoth 8 146 3 71 [.ref 0, .int p0, .int p1, .int p2, .ref 100] [.ref 79, .int p0, .int p1, .int p2] (fun _ => True) I J R D ex n c := by
  obtain ⟨i1, i2, i3, i4⟩ := id hI
  have hA := i3.ok
  have h6 := hA.1
  have h4 := hA.2.2.1.1
  have hpl : A.st.pl.length ≤ 40 := hA.2.2.1.2.2.2.1
  rcases i_rng p0 (A.st.hs.length) (by omega) with ⟨k, hk, rfl⟩ | hx
  · rcases i_rng p1 (A.st.hs.length) (by omega) with ⟨k2, hk2, rfl⟩ | hx
    · by_cases hz : ∃ a, p2 = nI a ∧ bothOK A k k2 a
      · obtain ⟨a, rfl, ha⟩ := hz
        by_cases hf : A.st.pl.length < 40
        · exact cc_v E l hI (h_takeBoth E l) trivial (c_takeBoth E l i1 i3 hk hk2 ha hf) (fun x I1 z => ⟨z.1, z.2.1, z.2.2.mono (by omega)⟩) (fun I1 J1 ex1 hm => m_takeBoth E l i2 hA hm hk hk2 ha hf)
        · have hf9 : A.st.pl.length = 40 := by omega
          exact cc_v E l hI (h_takeBoth E l) trivial (is_ri E l (c_takeBoth_full E l i1 i3 hk hk2 ha hf9)) (fun x I1 z => ⟨z.1, by rw [z.2]; exact frM.refl I, by rw [z.2]; exact i3.mono (by omega)⟩) (fun I1 J1 ex1 hm => m_takeBoth_full E l i2 hA hm hk hk2 ha hf9)
      · exact cc_x E l hI (h_takeBoth E l) (K := 2) (ths_rx E l (c_takeBoth_x3 E l i1 i3 hk hk2 hz)) (fun I1 z => ⟨by rw [z]; exact frM.refl I, by rw [z]; exact i3.mono (by omega)⟩) (Or.inr rfl) (by decide) (by decide) (fun I1 J1 ex1 hm => mq1 E l hm (m_takeBoth_x3 E l i2 hA hm hk hk2 hz))
    · exact cc_x E l hI (h_takeBoth E l) (K := 1) (ths_rx E l (c_takeBoth_x2 E l i1 i3 hk hx _)) (fun I1 z => ⟨by rw [z]; exact frM.refl I, by rw [z]; exact i3.mono (by omega)⟩) (Or.inl rfl) (by decide) (by decide) (fun I1 J1 ex1 hm => mq1 E l hm (m_takeBoth_x2 E l i2 hA hm hk hx _))
  · exact cc_x E l hI (h_takeBoth E l) (K := 1) (ths_rx E l (c_takeBoth_x1 E l i1 i3 hx _ _)) (fun I1 z => ⟨by rw [z]; exact frM.refl I, by rw [z]; exact i3.mono (by omega)⟩) (Or.inl rfl) (by decide) (by decide) (fun I1 J1 ex1 hm => mq1 E l hm (m_takeBoth_x1 E l i2 hA hm hx _ _))
theorem h_pass : hlT E l mX6_pass 6 123 [.ref 0] mL_pass 7 143 [.ref 0, .ref 100] cd_pass (fun X => X = sIS) (fun _ => True) I J R D ex := fun mc ms Pv Px hC hX hb => lw_u E l (l_pass E l hC hX)
set_option maxRecDepth 100000 in
theorem p_pass (hI : lwI I J R sw A n c) (hn : n < 90000) (hc : c ≤ 1000) : ccR E l mL_pass mX7_pass 7 143 6 138 [.ref 0, .ref 100] [.ref 79] (fun _ => True) I J R D ex n c := by
  obtain ⟨i1, i2, i3, i4⟩ := id hI
  have hA := i3.ok
  have h6 := hA.1
  have h4 := hA.2.2.1.1
  have hpl : A.st.pl.length ≤ 40 := hA.2.2.1.2.2.2.1
  by_cases hp : 1 ≤ A.st.ps ∧ 0 < (mvs A.cf A.st.pos).length
  · by_cases hf : A.st.pl.length < 40
    · exact cc_v E l hI (h_pass E l) trivial (c_pass E l i1 i3 (by omega) hp.1 hp.2 hf) (fun x I1 z => ⟨z.1, z.2.1, z.2.2.mono (by omega)⟩) (fun I1 J1 ex1 hm => m_pass E l i2 hA hm hp.1 hp.2 hf)
    · have hf9 : A.st.pl.length = 40 := by omega
      exact cc_v E l hI (h_pass E l) trivial (c_pass_full E l i1 i3 (by omega) hp.1 hp.2 hf9) (fun x I1 z => ⟨z.1, z.2.1, z.2.2.mono (by omega)⟩) (fun I1 J1 ex1 hm => m_pass_full E l i2 hA hm hp.1 hp.2 hf9)
  · exact cc_x E l hI (h_pass E l) (K := 1) (c_pass_x E l i1 i3 (by omega) hp) (fun I1 z => ⟨z.1, z.2.mono (by omega)⟩) rfl (by decide) (by decide) (fun I1 J1 ex1 hm => m_pass_x E l i2 hA hm hp)
theorem h_play : hlT E l mX6_play 6 142 [.ref 0] mL_play 7 163 [.ref 0, .ref 100] cd_play (fun X => X = sIS) (fun _ => True) I J R D ex := fun mc ms Pv Px hC hX hb => lw_u E l (l_play E l hC hX)
set_option maxRecDepth 100000 in
theorem p_play (hI : lwI I J R sw A n c) (hn : n < 90000) (hc : c ≤ 1000) : ccR E l mL_play mX7_play 7 163 6 142 [.ref 0, .ref 100] [.ref 79] (fun _ => True) I J R D ex n c := by
  obtain ⟨i1, i2, i3, i4⟩ := id hI
  have hA := i3.ok
  have h6 := hA.1
  have h4 := hA.2.2.1.1
  have hpl : A.st.pl.length ≤ 40 := hA.2.2.1.2.2.2.1
  by_cases hp : 0 < (mvs A.cf A.st.pos).length
  · obtain ⟨b, hb⟩ := bsF_pos (os := opv A.cf A.st.pos) hp
    have hbl := bsF_lt hb
    by_cases hf : A.st.pl.length < 40
    · exact cc_v E l hI (h_play E l) trivial (c_play E l i1 i3 (by omega) hb hbl hf) (fun x I1 z => ⟨z.1, z.2.1, z.2.2.mono (by omega)⟩) (fun I1 J1 ex1 hm => m_play E l i2 hA hm hc hb hbl hf)
    · have hf9 : A.st.pl.length = 40 := by omega
      exact cc_v E l hI (h_play E l) trivial (c_play_full E l i1 i3 (by omega) hb hbl hf9) (fun x I1 z => ⟨z.1, z.2.1, z.2.2.mono (by omega)⟩) (fun I1 J1 ex1 hm => m_play_full E l i2 hA hm hp hf9)
  · have hp9 : (mvs A.cf A.st.pos).length = 0 := by omega
    exact cc_x E l hI (h_play E l) (K := 1) (c_play_x E l i1 i3 (by omega) hp9) (fun I1 z => ⟨z.1, z.2.mono (by omega)⟩) rfl (by decide) (by decide) (fun I1 J1 ex1 hm => m_play_x E l i2 hA hm hp9)
theorem h_setSize {p0 p1 : Int32} : hlT E l mX6_setSize 7 111 [.ref 0, .int p0, .int p1] mL_setSize 8 134 [.ref 0, .int p0, .int p1, .ref 100] cd_setSize (fun X => X = sIO ∨ X = sIA) (fun _ => True) I J R D ex := fun mc ms Pv Px hC hX hb => lw_u E l (l_setSize E l hC hX)
set_option maxRecDepth 100000 in
theorem p_setSize (hI : lwI I J R sw A n c) (hn : n < 90000) (hc : c ≤ 1000) (p0 p1 : Int32) : ccR E l mL_setSize mX7_setSize 8 134 2 46 [.ref 0, .int p0, .int p1, .ref 100] [.ref 79, .int p0, .int p1] (fun _ => True) I J R D ex n c := by
  obtain ⟨i1, i2, i3, i4⟩ := id hI
  have hA := i3.ok
  have h6 := hA.1
  have h4 := hA.2.2.1.1
  have hpl : A.st.pl.length ≤ 40 := hA.2.2.1.2.2.2.1
  rcases i_rng p0 (A.st.hs.length) (by omega) with ⟨k, hk, rfl⟩ | hx
  · rcases i_rng p1 (16) (by omega) with ⟨z, hz, rfl⟩ | hx
    · exact cc_v E l hI (h_setSize E l) trivial (c_setSize E l i1 i3 hk hz) (fun x I1 z => ⟨z.1, z.2.1, z.2.2.mono (by omega)⟩) (fun I1 J1 ex1 hm => m_setSize E l i2 hA hm hk hz)
    · exact cc_x E l hI (h_setSize E l) (K := 2) (ths_rx E l (c_setSize_x2 E l i1 i3 hk hx)) (fun I1 z => ⟨by rw [z]; exact frM.refl I, by rw [z]; exact i3.mono (by omega)⟩) (Or.inr rfl) (by decide) (by decide) (fun I1 J1 ex1 hm => mq1 E l hm (m_setSize_x2 E l i2 hA hm hk hx))
  · exact cc_x E l hI (h_setSize E l) (K := 1) (ths_rx E l (c_setSize_x1 E l i1 i3 hx _)) (fun I1 z => ⟨by rw [z]; exact frM.refl I, by rw [z]; exact i3.mono (by omega)⟩) (Or.inl rfl) (by decide) (by decide) (fun I1 J1 ex1 hm => mq1 E l hm (m_setSize_x1 E l i2 hA hm hx _))
theorem h_setPasses {p0 : Int32} : hlT E l mX6_setPasses 6 102 [.ref 0, .int p0] mL_setPasses 7 124 [.ref 0, .int p0, .ref 100] cd_setPasses (fun X => X = sIA) (fun _ => True) I J R D ex := fun mc ms Pv Px hC hX hb => lw_u E l (l_setPasses E l hC hX)
set_option maxRecDepth 100000 in
theorem p_setPasses (hI : lwI I J R sw A n c) (hn : n < 90000) (hc : c ≤ 1000) (p0 : Int32) : ccR E l mL_setPasses mX7_setPasses 7 124 2 46 [.ref 0, .int p0, .ref 100] [.ref 79, .int p0] (fun _ => True) I J R D ex n c := by
  obtain ⟨i1, i2, i3, i4⟩ := id hI
  have hA := i3.ok
  have h6 := hA.1
  have h4 := hA.2.2.1.1
  have hpl : A.st.pl.length ≤ 40 := hA.2.2.1.2.2.2.1
  rcases i_rng p0 (4) (by omega) with ⟨k, hk, rfl⟩ | hx
  · exact cc_v E l hI (h_setPasses E l) trivial (c_setPasses E l i1 i3 hk) (fun x I1 z => ⟨z.1, z.2.1, z.2.2.mono (by omega)⟩) (fun I1 J1 ex1 hm => m_setPasses E l i2 hA hm hk)
  · exact cc_x E l hI (h_setPasses E l) (K := 1) (ths_rx E l (c_setPasses_x E l hx)) (fun I1 z => ⟨by rw [z]; exact frM.refl I, by rw [z]; exact i3.mono (by omega)⟩) rfl (by decide) (by decide) (fun I1 J1 ex1 hm => mq1 E l hm (m_setPasses_x E l i2 hA hm hx))
theorem h_addHeap {p0 p1 : Int32} : hlT E l mX6_addHeap 7 111 [.ref 0, .int p0, .int p1] mL_addHeap 8 133 [.ref 0, .int p0, .int p1, .ref 100] cd_addHeap (fun X => X = sIO ∨ X = sIA ∨ X = sIS) (fun _ => True) I J R D ex := fun mc ms Pv Px hC hX hb => lw_u E l (l_addHeap E l hC hX)
set_option maxRecDepth 100000 in
theorem p_addHeap (hI : lwI I J R sw A n c) (hn : n < 90000) (hc : c ≤ 1000) (p0 p1 : Int32) : ccR E l mL_addHeap mX7_addHeap 8 133 2 46 [.ref 0, .int p0, .int p1, .ref 100] [.ref 79, .int p0, .int p1] (fun _ => True) I J R D ex n c := by
  obtain ⟨i1, i2, i3, i4⟩ := id hI
  have hA := i3.ok
  have h6 := hA.1
  have h4 := hA.2.2.1.1
  have hpl : A.st.pl.length ≤ 40 := hA.2.2.1.2.2.2.1
  rcases i_rng p0 (A.nr) (by omega) with ⟨k, hk, rfl⟩ | hx
  · rcases i_rng p1 (16) (by omega) with ⟨z, hz, rfl⟩ | hx
    · by_cases hs : A.st.hs.length < 4
      · exact cc_v E l hI (h_addHeap E l) trivial (c_addHeap E l i1 i3 hk hz hs) (fun x I1 z => ⟨z.1, z.2.1, z.2.2.mono (by omega)⟩) (fun I1 J1 ex1 hm => m_addHeap E l i2 hA hm hk hz hs)
      · have hs9 : A.st.hs.length = 4 := by omega
        exact cc_x E l hI (h_addHeap E l) (K := 3) (ths_rx E l (c_addHeap_x3 E l i1 i3 hk hz hs9)) (fun I1 z => ⟨by rw [z]; exact frM.refl I, by rw [z]; exact i3.mono (by omega)⟩) (Or.inr (Or.inr rfl)) (by decide) (by decide) (fun I1 J1 ex1 hm => mq1 E l hm (m_addHeap_x3 E l i2 hA hm hk hz hs9))
    · exact cc_x E l hI (h_addHeap E l) (K := 2) (ths_rx E l (c_addHeap_x2 E l i1 i3 hk hx)) (fun I1 z => ⟨by rw [z]; exact frM.refl I, by rw [z]; exact i3.mono (by omega)⟩) (Or.inr (Or.inl rfl)) (by decide) (by decide) (fun I1 J1 ex1 hm => mq1 E l hm (m_addHeap_x2 E l i2 hA hm hk hx))
  · exact cc_x E l hI (h_addHeap E l) (K := 1) (ths_rx E l (c_addHeap_x1 E l i1 i3 hx _)) (fun I1 z => ⟨by rw [z]; exact frM.refl I, by rw [z]; exact i3.mono (by omega)⟩) (Or.inl rfl) (by decide) (by decide) (fun I1 J1 ex1 hm => mq1 E l hm (m_addHeap_x1 E l i2 hA hm hx _))
theorem h_removeHeap {p0 : Int32} : hlT E l mX6_removeHeap 7 111 [.ref 0, .int p0] mL_removeHeap 8 132 [.ref 0, .int p0, .ref 100] cd_removeHeap (fun X => X = sIO) (fun _ => True) I J R D ex := fun mc ms Pv Px hC hX hb => lw_u E l (l_removeHeap E l hC hX)
set_option maxRecDepth 100000 in
theorem p_removeHeap (hI : lwI I J R sw A n c) (hn : n < 90000) (hc : c ≤ 1000) (p0 : Int32) : ccR E l mL_removeHeap mX7_removeHeap 8 132 2 46 [.ref 0, .int p0, .ref 100] [.ref 79, .int p0] (fun _ => True) I J R D ex n c := by
  obtain ⟨i1, i2, i3, i4⟩ := id hI
  have hA := i3.ok
  have h6 := hA.1
  have h4 := hA.2.2.1.1
  have hpl : A.st.pl.length ≤ 40 := hA.2.2.1.2.2.2.1
  rcases i_rng p0 (A.st.hs.length) (by omega) with ⟨k, hk, rfl⟩ | hx
  · exact cc_v E l hI (h_removeHeap E l) trivial (c_removeHeap E l i1 i3 hk) (fun x I1 z => ⟨z.1, z.2.1, z.2.2.mono (by omega)⟩) (fun I1 J1 ex1 hm => m_removeHeap E l i2 hA hm hk)
  · exact cc_x E l hI (h_removeHeap E l) (K := 1) (ths_rx E l (c_removeHeap_x E l i1 i3 hx)) (fun I1 z => ⟨by rw [z]; exact frM.refl I, by rw [z]; exact i3.mono (by omega)⟩) rfl (by decide) (by decide) (fun I1 J1 ex1 hm => mq1 E l hm (m_removeHeap_x E l i2 hA hm hx))
theorem h_saveSnapshot {p0 : Int32} : hlT E l mX6_saveSnapshot 7 110 [.ref 0, .int p0] mL_saveSnapshot 8 132 [.ref 0, .int p0, .ref 100] cd_saveSnapshot (fun X => X = sIA) (fun v => ∃ b, v = b2i b) I J R D ex := fun mc ms Pv Px hC hX hb => lw_ub E l (l_saveSnapshot E l hC hX hb)
set_option maxRecDepth 100000 in
theorem p_saveSnapshot (hI : lwI I J R sw A n c) (hn : n < 90000) (hc : c ≤ 1000) (p0 : Int32) : ccR E l mL_saveSnapshot mX7_saveSnapshot 8 132 2 43 [.ref 0, .int p0, .ref 100] [.ref 79, .int p0] (fun v => ∃ b, v = b2i b) I J R D ex n c := by
  obtain ⟨i1, i2, i3, i4⟩ := id hI
  have hA := i3.ok
  have h6 := hA.1
  have h4 := hA.2.2.1.1
  have hpl : A.st.pl.length ≤ 40 := hA.2.2.1.2.2.2.1
  rcases i_rng p0 (2) (by omega) with ⟨k, hk, rfl⟩ | hx
  · exact cc_v E l hI (h_saveSnapshot E l) ⟨_, rfl⟩ (c_saveSnapshot E l i1 i3 hk) (fun x I1 z => ⟨z.1, z.2.1, z.2.2.mono (by omega)⟩) (fun I1 J1 ex1 hm => m_saveSnapshot E l i2 hA hm hk)
  · exact cc_x E l hI (h_saveSnapshot E l) (K := 1) (ths_rx E l (c_saveSnapshot_x E l hx)) (fun I1 z => ⟨by rw [z]; exact frM.refl I, by rw [z]; exact i3.mono (by omega)⟩) rfl (by decide) (by decide) (fun I1 J1 ex1 hm => mq1 E l hm (m_saveSnapshot_x1 E l i2 hA hm hx))
theorem h_restoreSnapshot {p0 : Int32} : hlT E l mX6_restoreSnapshot 7 110 [.ref 0, .int p0] mL_restoreSnapshot 8 131 [.ref 0, .int p0, .ref 100] cd_restoreSnapshot (fun X => X = sIA ∨ X = sIS) (fun _ => True) I J R D ex := fun mc ms Pv Px hC hX hb => lw_u E l (l_restoreSnapshot E l hC hX)
set_option maxRecDepth 100000 in
theorem p_restoreSnapshot (hI : lwI I J R sw A n c) (hn : n < 90000) (hc : c ≤ 1000) (p0 : Int32) : ccR E l mL_restoreSnapshot mX7_restoreSnapshot 8 131 2 43 [.ref 0, .int p0, .ref 100] [.ref 79, .int p0] (fun _ => True) I J R D ex n c := by
  obtain ⟨i1, i2, i3, i4⟩ := id hI
  have hA := i3.ok
  have h6 := hA.1
  have h4 := hA.2.2.1.1
  have hpl : A.st.pl.length ≤ 40 := hA.2.2.1.2.2.2.1
  rcases i_rng p0 (2) (by omega) with ⟨k, hk, rfl⟩ | hx
  · cases hs : A.sn k with
    | none =>
      exact cc_x E l hI (h_restoreSnapshot E l) (K := 2) (ths_rx E l (c_restoreSnapshot_x2 E l i1 i3 hk hs)) (fun I1 z => ⟨by rw [z]; exact frM.refl I, by rw [z]; exact i3.mono (by omega)⟩) (Or.inr rfl) (by decide) (by decide) (fun I1 J1 ex1 hm => mq1 E l hm (m_restoreSnapshot_x2 E l i2 hA hm hk hs))
    | some x =>
      exact cc_v E l hI (h_restoreSnapshot E l) trivial (c_restoreSnapshot E l i1 i3 hk hs) (fun x I1 z => ⟨z.1, z.2.1, z.2.2.mono (by omega)⟩) (fun I1 J1 ex1 hm => m_restoreSnapshot E l i2 hA hm hk hs)
  · exact cc_x E l hI (h_restoreSnapshot E l) (K := 1) (ths_rx E l (c_restoreSnapshot_x1 E l hx)) (fun I1 z => ⟨by rw [z]; exact frM.refl I, by rw [z]; exact i3.mono (by omega)⟩) (Or.inl rfl) (by decide) (by decide) (fun I1 J1 ex1 hm => mq1 E l hm (m_restoreSnapshot_x1 E l i2 hA hm hx))
theorem h_move {p0 p1 : Int32} : hlT E l mX6_move 6 142 [.ref 0, .int p0, .int p1] mL_move 7 165 [.ref 0, .int p0, .int p1, .ref 100] cd_move (fun X => X = sIO ∨ X = sIA) (fun _ => True) I J R D ex := fun mc ms Pv Px hC hX hb => lw_u E l (l_move E l hC hX)
set_option maxRecDepth 100000 in
theorem p_move (hI : lwI I J R sw A n c) (hn : n < 90000) (hc : c ≤ 1000) (p0 p1 : Int32) : ccR E l mL_move mX7_move 7 165 5 117 [.ref 0, .int p0, .int p1, .ref 100] [.ref 79, .int p0, .int p1] (fun _ => True) I J R D ex n c := by
  obtain ⟨i1, i2, i3, i4⟩ := id hI
  have hA := i3.ok
  have h6 := hA.1
  have h4 := hA.2.2.1.1
  have hpl : A.st.pl.length ≤ 40 := hA.2.2.1.2.2.2.1
  have hmv : (mvs A.cf A.st.pos).length < 2 ^ 31 := Nat.lt_of_le_of_lt (mvs_81 (cf_ok hA.2.1 (hA.2.2.1.rs h6)) _) (by decide)
  rcases i_rng p0 ((mvs A.cf A.st.pos).length) (by omega) with ⟨k, hk, rfl⟩ | hx
  · rcases i_rng p1 (7) (by omega) with ⟨z, hz, rfl⟩ | hx
    · exact cc_v E l hI (h_move E l) trivial (c_move E l i1 i3 (by omega) hk hz) (fun x I1 z => ⟨z.1, z.2.1.m, (i3.pr z.2.1 z.2.2).mono (by omega)⟩) (fun I1 J1 ex1 hm => m_move E l i2 hA hm hc hk hz)
    · exact cc_x E l hI (h_move E l) (K := 2) (c_move_x2 E l i1 i3 (by omega) hk hx) (fun I1 z => ⟨z.1.m, (i3.pr z.1 z.2).mono (by omega)⟩) (Or.inr rfl) (by decide) (by decide) (fun I1 J1 ex1 hm => m_move_x2 E l i2 hA hm hk hx)
  · by_cases hx0 : p0 < 0
    · exact cc_x E l hI (h_move E l) (K := 1) (c_move_x0 E l hx0 _) (fun I1 z => ⟨by rw [z]; exact frM.refl I, by rw [z]; exact i3.mono (by omega)⟩) (Or.inl rfl) (by decide) (by decide) (fun I1 J1 ex1 hm => m_move_x1 E l i2 hA hm hx _)
    · exact cc_x E l hI (h_move E l) (K := 1) (c_move_x1 E l i1 i3 (by omega) hx0 (hx.resolve_left hx0) _) (fun I1 z => ⟨z.1.m, (i3.pr z.1 z.2).mono (by omega)⟩) (Or.inl rfl) (by decide) (by decide) (fun I1 J1 ex1 hm => m_move_x1 E l i2 hA hm hx _)
theorem h_parse {p0 : Int32} : hlT E l mX6_parse 9 192 [.ref 0, .int p0] mL_parse 10 215 [.ref 0, .int p0, .ref 100] cd_parse (fun X => X = sIA) (fun _ => True) I J R D ex := fun mc ms Pv Px hC hX hb => lw_u E l (l_parse E l hC hX)
def pgA (A : AS) (P : PS) (ru : Ru) : AS := (ru, P.ru.length, P.st, [], fun _ => none, A.tx, 0)
set_option maxRecDepth 100000 in
theorem p_parse (hI : lwI I J R sw A n c) (hn : n < 90000) (hc : c ≤ 1000) (p0 : Int32) : ccR E l mL_parse mX7_parse 10 215 8 169 [.ref 0, .int p0, .ref 100] [.ref 79, .int p0] (fun _ => True) I J R D ex n c := by
  obtain ⟨i1, i2, i3, i4⟩ := id hI
  have hA := i3.ok
  have htl : A.tl ≤ 400 := hA.2.2.2.1
  rcases i_rng p0 (A.tl + 1) (by omega) with ⟨L, hL, rfl⟩ | hx
  · have hL' : L ≤ A.tl := by omega
    cases hQ : rdF A.tx L with
    | inl q =>
      refine ⟨0, 0, 0, fun I' J' R' => J' 100 0 = (flS q.1 q.2).toInt64 ∧ R' = R ∧ frM I I' ∧ rC I' J' sw (A.ru, A.nr, A.st, A.hi, A.sn, A.tx, 0) (n + 2), by decide, by decide, by decide, ?_, ?_⟩
      · refine (h_parse E l 0 0 (fun y I1 J1 R1 => y = flS q.1 q.2 ∧ frM I I1 ∧ rC I1 J1 sw (A.ru, A.nr, A.st, A.hi, A.sn, A.tx, 0) n ∧ R1 = R) (fun _ _ => False) ((c_parse_f E l i1 i3 hL' hQ).mono ?_) (fun _ _ z => z.elim) (fun v I1 J1 R1 z => trivial)).mono ?_
        · rintro o w1 ⟨y, I1, J1, z1, ⟨z2, z4, z5, z6⟩, z3⟩
          exact Or.inl ⟨y, I1, J1, R, z1, ⟨z2, z4, z6, rfl⟩, z3⟩
        · rintro o w1 ⟨k, I1, J1, R1, ex1, z1, z2, z3⟩
          refine ⟨k, I1, J1, R1, ex1, z1, ?_, z3⟩
          rcases z2 with ⟨y1, y, J2, ⟨y2, y3, y4, y6⟩, y5⟩ | ⟨X, y1, y2, y3⟩
          · exact ⟨y1, by rw [y5, up2_s, y2], y6, y3, (y4.mono (by omega)).fl (fun o ho => rfl) (fun o ho => by rw [y5]; funext j; exact up2_n _ _ (by omega))⟩
          · exact y2.elim
      · rintro I' J' R' ex' ⟨q1, q2, q3, q4⟩
        subst q2
        have hm := m_parse E l (D := D) (N := 102) (ex := ex') (J := J') i2 hA (i4.fm q3) hc hL'
        rw [hQ] at hm
        refine hm.mono ?_
        rintro o w1 ⟨y, I1, J1, z1, ⟨z2, z3, z4, z5, z6⟩, z7⟩
        exact ⟨y, I1, J1, z1, ⟨z3, fun _ => ⟨by rw [z4 100 (Or.inr (by decide)), q1, z5], trivial⟩, sw, _, i1, i2, q4.fl z2 (fun o ho => z4 o (Or.inl ho)), z6⟩, z7⟩
    | inr P =>
      refine ⟨0, 0, 0, fun I' J' R' => J' 100 0 = (nI P.ru.length).toInt64 ∧ R' = swR R sw ∧ frM I I' ∧ ∃ ru, prA ru P ∧ rC I' J' (!sw) (pgA A P ru) (n + 2), by decide, by decide, by decide, ?_, ?_⟩
      · refine (h_parse E l 0 0 (fun y I1 J1 R1 => y = nI P.ru.length ∧ frM I I1 ∧ (∃ ru, prA ru P ∧ rC I1 J1 (!sw) (pgA A P ru) n) ∧ R1 = swR R sw) (fun _ _ => False) ((c_parse_t E l i1 i3 hL' hQ).mono ?_) (fun _ _ z => z.elim) (fun v I1 J1 R1 z => trivial)).mono ?_
        · rintro o w1 ⟨I1, J1, ru, z1, z2, z3, z4, z5, z6⟩
          exact Or.inl ⟨_, I1, J1, swR R sw, z1, ⟨rfl, z3, ⟨ru, z5, z6⟩, rfl⟩, z2⟩
        · rintro o w1 ⟨k, I1, J1, R1, ex1, z1, z2, z3⟩
          refine ⟨k, I1, J1, R1, ex1, z1, ?_, z3⟩
          rcases z2 with ⟨y1, y, J2, ⟨y2, y3, ⟨ru, y4, y7⟩, y6⟩, y5⟩ | ⟨X, y1, y2, y3⟩
          · exact ⟨y1, by rw [y5, up2_s, y2], y6, y3, ru, y4, (y7.mono (by omega)).fl (fun o ho => rfl) (fun o ho => by rw [y5]; funext j; exact up2_n _ _ (by omega))⟩
          · exact y2.elim
      · rintro I' J' R' ex' ⟨q1, q2, q3, ru, q5, q4⟩
        subst q2
        have hm := m_parse E l (D := D) (N := 102) (ex := ex') (J := J') (lkM.sw sw i2) hA (i4.fm q3) hc hL'
        rw [hQ] at hm
        refine hm.mono ?_
        rintro o w1 ⟨y, I1, J1, z1, ⟨z2, z3, z4, z5, z6⟩, z7⟩
        exact ⟨y, I1, J1, z1, ⟨z3, fun _ => ⟨by rw [z4 100 (Or.inr (by decide)), q1, z5], trivial⟩, !sw, _, i1.sw, lkM.sw sw i2, q4.fl z2 (fun o ho => z4 o (Or.inl ho)), z6 ru q5⟩, z7⟩
  · exact cc_x E l hI (h_parse E l) (K := 1) (ths_rx E l (c_parse_x E l i1 i3 hx)) (fun I1 z => ⟨by rw [z]; exact frM.refl I, by rw [z]; exact i3.mono (by omega)⟩) rfl (by decide) (by decide) (fun I1 J1 ex1 hm => mq1 E l hm (m_parse_x E l i2 hA hm hx))
end PR
