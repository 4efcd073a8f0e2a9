/-! a call of the class and the model's beside it -/
theorem rM.fm {I I' : Nat → Nat → Int32} {A : AS} {c : Nat} (h : rM I A c) (f : frM I I') : rM I' A c := by
  obtain ⟨h1, h2, h3, h4, h5, h6, h7, h8⟩ := h
  have f79 : ∀ k, I' 79 k = I 79 k := fun k => by rw [f 79 (by decide)]
  exact ⟨h1.fr (f _ (by decide)), h2.fr (f _ (by decide)) (f79 _), h3.fr (f _ (by decide)) (f _ (by decide)), h4.fr (fun o a _ => f o (by omega)) (f79 _) (f79 _), h5.fr (f _ (by decide)) (f _ (by decide)), h6.fr (f _ (by decide)) (f79 _), h7.fr (f _ (by decide)) (f79 _), h8.fr (f _ (by decide)) (f _ (by decide)) (fun k _ _ => f79 k)⟩
theorem rC.fl {I I' : Nat → Nat → Int32} {J J' : Nat → Nat → Int64} {sw : Bool} {A : AS} {n : Nat} (h : rC I J sw A n) (e : ∀ o, o < 79 → I' o = I o) (fJ : ∀ o, o < 79 → J' o = J o) : rC I' J' sw A n := by
  have hg := gm_b sw
  have hd := dg_b sw
  obtain ⟨h1, h2, h3, h4, h5, h6, h7, h8, h9, h10, h11⟩ := h
  have hk6 : A.nr ≤ 6 := h1.2
  refine ⟨⟨by rw [e _ (by omega)]; exact h1.1, h1.2⟩, h2, ⟨by rw [e _ (by omega)]; exact h3.1, fun k hk => ?_⟩, fun k hk m hm => ?_, h5, h6.fr (e _ (by omega)) (e _ (by omega)), h7.fr (fun o a b => e o (by omega)) (fun o a b => fJ o (by omega)), ?_, h9.fr (fun o a b => e o (by omega)), fun k hk => ?_, ⟨by rw [e 23 (by decide)]; exact h11.1, h11.2.1, fun i hi => ⟨(h11.2.2 i hi).1, by rw [e 24 (by decide)]; exact (h11.2.2 i hi).2⟩⟩⟩
  · rw [e _ (by omega), fJ _ (by omega)]; exact h3.2 k hk
  · have hk' : k < A.nr := hk
    rw [e _ (by omega)]; exact h4 k hk' m hm
  · obtain ⟨st, T, q1, q2, q3, q4⟩ := h8
    have e47 := e 47 (by omega)
    have e48 := e 48 (by omega)
    have e49 := e 49 (by omega)
    refine ⟨st, T, q1, by rw [e47]; exact q2, fun p hp => by rw [e48]; exact q3 p hp, ?_⟩
    rcases q4 with q4 | ⟨rs, mi, r1, r2, r3, r4⟩
    · exact Or.inl (by rw [e47]; exact q4)
    · refine Or.inr ⟨rs, mi, r1, by rw [e47]; exact r2, ?_, ?_⟩
      · obtain ⟨s1, ⟨t, s2, s3⟩, s4, s5⟩ := r3
        exact ⟨by rw [e47]; exact s1, ⟨t, by rw [e47]; exact s2, s3⟩, by rw [e47]; exact s4, fun h hh n hn => by rw [e49]; exact s5 h hh n hn⟩
      · obtain ⟨⟨s1, s2, s3, s4⟩, s5⟩ := r4
        exact ⟨⟨by rw [e47]; exact s1, s2, s3, fun p hp => by rw [e48]; exact s4 p hp⟩, s5⟩
  · rw [e 74 (by omega)]
    exact ⟨(h10 k hk).1, fun s hs => ⟨((h10 k hk).2 s hs).1, ((h10 k hk).2 s hs).2.fr (e _ (by omega)) (e _ (by omega))⟩⟩
theorem lkM.sw {R : Nat → Nat → Option Nat} {N : Nat} (sw : Bool) (h : lkM R N) : lkM (swR R sw) N := by
  unfold lkM
  rw [swR_o 79 (by decide) (by decide)]
  exact h
theorem b2i_l (b : Bool) : (if b then (1 : Int64) else 0) = (b2i b).toInt64 := by cases b <;> decide
/-- what stands between two calls -/
def lwI (I : Nat → Nat → Int32) (J : Nat → Nat → Int64) (R : Nat → Nat → Option Nat) (sw : Bool) (A : AS) (n c : Nat) : Prop := lk R 102 sw ∧ lkM R 102 ∧ rC I J sw A n ∧ rM I A c
/-- what the law's helper comes to -/
def lwU (cd : String → Nat) (Pv : Int32 → (Nat → Nat → Int32) → (Nat → Nat → Int64) → (Nat → Nat → Option Nat) → Prop) (Px : String → (Nat → Nat → Int32) → Prop) (J : Nat → Nat → Int64) (R : Nat → Nat → Option Nat) : Nat → (Nat → Nat → Int32) → (Nat → Nat → Int64) → (Nat → Nat → Option Nat) → Prop :=
  fun k I' J' R' => (k = 0 ∧ ∃ y J1, Pv y I' J1 R' ∧ J' = up2 J1 100 0 y.toInt64) ∨ ∃ X, k = cd X ∧ Px X I' ∧ J' = J ∧ R' = R
section CC
variable (E : GE) (l : Launch)
/-- the helper out of the class's call -/
def hlT (μC : GM) (fC qC : Nat) (asC : List Value) (μL : GM) (fL qL : Nat) (asL : List Value) (cd : String → Nat) (XS : String → Prop) (BS : Int32 → Prop) (I : Nat → Nat → Int32) (J : Nat → Nat → Int64) (R : Nat → Nat → Option Nat) (D : Nat → Nat → UInt64) (ex : Bool) : Prop :=
  ∀ mc ms Pv Px, g_Ct E l μC fC qC mc ms asC (I, J, R, D, 102, ex) (g_cl Pv Px J R D ex) → (∀ X I1, Px X I1 → XS X) → (∀ v I1 J1 R1, Pv v I1 J1 R1 → BS v) → g_Ct E l μL fL qL mc ms asL (I, J, R, D, 102, ex) (g_lw (lwU cd Pv Px J R) D)
/-- both calls: the same code, the same answer, and all stands again -/
def ccR (μL μM : GM) (fL qL fM qM : Nat) (asL asM : List Value) (BS : Int32 → Prop) (I : Nat → Nat → Int32) (J : Nat → Nat → Int64) (R : Nat → Nat → Option Nat) (D : Nat → Nat → UInt64) (ex : Bool) (n c : Nat) : Prop :=
  ∃ (K mc ms : Nat) (Q : (Nat → Nat → Int32) → (Nat → Nat → Int64) → (Nat → Nat → Option Nat) → Prop), K ≤ 3 ∧ mc ≤ 1 ∧ ms ≤ 6 ∧ g_Ct E l μL fL qL mc ms asL (I, J, R, D, 102, ex) (g_lw (fun k I' J' R' => k = K ∧ Q I' J' R') D) ∧
    ∀ I' J' R' ex', Q I' J' R' → g_Ct E l μM fM qM 0 0 asM (I', J', R', D, 102, ex') (g_rj (fun y I2 J2 => I2 79 17 = nI K ∧ (K = 0 → J2 100 0 = y.toInt64 ∧ BS y) ∧ ∃ sw A, lwI I2 J2 R' sw A (n + 2) (c + 1)) R' D 102 ex')
variable {I : Nat → Nat → Int32} {J : Nat → Nat → Int64} {R : Nat → Nat → Option Nat} {D : Nat → Nat → UInt64} {N : Nat} {ex sw : Bool} {A A' : AS} {n c K fC qC fL qL fM qM f q mc ms : Nat} {μ μC μL μM : GM} {as asC asL asM : List Value} {cd : String → Nat} {XS : String → Prop} {BS : Int32 → Prop} {X : String}
theorem is_ri {v : Int32} (h : g_Ct E l μ f q mc ms as (I, J, R, D, N, ex) (g_is (some (.int v)) (I, J, R, D, N, ex))) : g_Ct E l μ f q mc ms as (I, J, R, D, N, ex) (g_ri (fun x I1 => x = v ∧ I1 = I) J R D N ex) :=
  h.mono (fun o w1 z => by obtain ⟨z1, z2⟩ := z; exact ⟨v, I, z1, ⟨rfl, rfl⟩, z2⟩)
theorem ths_rx (h : g_Ct E l μ f q mc ms as (I, J, R, D, N, ex) (g_ths X (I, J, R, D, N, false))) : g_Ct E l μ f q mc ms as (I, J, R, D, N, ex) (g_rx X (fun I1 => I1 = I) J R D N) :=
  h.mono (fun o w1 z => by obtain ⟨z1, z2⟩ := z; exact ⟨I, z1, rfl, z2⟩)
theorem mq0 (hm : rM I A c) {v : Int32} (h : g_Ct E l μ f q mc ms as (I, J, R, D, N, ex) (g_is (some (.int v)) (up2 I 79 17 0, J, R, D, N, ex))) : g_Ct E l μ f q mc ms as (I, J, R, D, N, ex) (g_ri (fun x I1 => x = v ∧ qP I A c 0 I1) J R D N ex) :=
  h.mono (fun o w1 z => by obtain ⟨z1, z2⟩ := z; exact ⟨v, _, z1, ⟨rfl, qP.at0 hm 0⟩, z2⟩)
theorem mq1 (hm : rM I A c) {v t : Int32} (h : g_Ct E l μ f q mc ms as (I, J, R, D, N, ex) (g_is (some (.int v)) (up2 (up2 I 79 17 0) 79 17 t, J, R, D, N, ex))) : g_Ct E l μ f q mc ms as (I, J, R, D, N, ex) (g_ri (fun x I1 => qP I A c t I1) J R D N ex) :=
  h.mono (fun o w1 z => by obtain ⟨z1, z2⟩ := z; exact ⟨v, _, z1, qP.at1 hm t 0, z2⟩)
/-- both answer -/
theorem cc_v (hI : lwI I J R sw A n c) (HL : hlT E l μC fC qC asC μL fL qL asL cd XS BS I J R D ex) {V : Int32} (hb : BS V) {P : Int32 → (Nat → Nat → Int32) → Prop} (hC : g_Ct E l μC fC qC 0 0 asC (I, J, R, D, 102, ex) (g_ri P J R D 102 ex)) (hP : ∀ x I1, P x I1 → x = V ∧ frM I I1 ∧ rC I1 J sw A' (n + 2))
    (hM : ∀ I1 J1 ex1, rM I1 A c → g_Ct E l μM fM qM 0 0 asM (I1, J1, R, D, 102, ex1) (g_ri (fun y I2 => y = V ∧ qP I1 A' c 0 I2) J1 R D 102 ex1)) : ccR E l μL μM fL qL fM qM asL asM BS I J R D ex n c := by
  obtain ⟨i1, i2, i3, i4⟩ := hI
  refine ⟨0, 0, 0, fun I' J' R' => J' 100 0 = V.toInt64 ∧ R' = R ∧ frM I I' ∧ rC I' J' sw A' (n + 2), by decide, by decide, by decide, ?_, ?_⟩
  · refine (HL 0 0 (fun y I1 J1 R1 => P y I1 ∧ J1 = J ∧ R1 = R) (fun _ _ => False) (hC.mono ?_) (fun _ _ z => z.elim) (fun v I1 J1 R1 z => by rw [(hP _ _ z.1).1]; exact hb)).mono ?_
    · rintro o w1 ⟨y, I1, z1, z2, z3⟩
      exact Or.inl ⟨y, I1, J, R, z1, ⟨z2, rfl, rfl⟩, z3⟩
    · rintro o w1 ⟨k, I1, J1, R1, ex1, z1, z2, z3⟩
      refine ⟨k, I1, J1, R1, ex1, z1, ?_, z3⟩
      rcases z2 with ⟨y1, y, J2, ⟨y2, y3, y4⟩, y5⟩ | ⟨X, y1, y2, y3⟩
      · obtain ⟨p1, p2, p3⟩ := hP _ _ y2
        subst y3
        refine ⟨y1, ?_, y4, p2, ?_⟩
        · rw [y5, up2_s, p1]
        · exact p3.fl (fun o ho => rfl) (fun o ho => by rw [y5]; funext j; exact up2_n _ _ (by omega))
      · exact y2.elim
  · rintro I' J' R' ex' ⟨q1, q2, q3, q4⟩
    subst q2
    refine (hM I' J' ex' (i4.fm q3)).mono ?_
    rintro o w1 ⟨y, I1, z1, ⟨z2, z3⟩, z4⟩
    exact ⟨y, I1, J', z1, ⟨z3.2.1, fun _ => ⟨by rw [q1, z2], by rw [z2]; exact hb⟩, sw, A', i1, i2, q4.fl z3.1 (fun _ _ => rfl), z3.2.2⟩, z4⟩
/-- the class throws -/
theorem cc_x (hI : lwI I J R sw A n c) (HL : hlT E l μC fC qC asC μL fL qL asL cd XS BS I J R D ex) {P : (Nat → Nat → Int32) → Prop} (hC : g_Ct E l μC fC qC 1 6 asC (I, J, R, D, 102, ex) (g_rx X P J R D 102)) (hP : ∀ I1, P I1 → frM I I1 ∧ rC I1 J sw A (n + 2)) (hX : XS X) (hK : cd X = K) (hK3 : 1 ≤ K ∧ K ≤ 3)
    (hM : ∀ I1 J1 ex1, rM I1 A c → g_Ct E l μM fM qM 0 0 asM (I1, J1, R, D, 102, ex1) (g_ri (fun y I2 => qP I1 A c (nI K) I2) J1 R D 102 ex1)) : ccR E l μL μM fL qL fM qM asL asM BS I J R D ex n c := by
  obtain ⟨i1, i2, i3, i4⟩ := hI
  refine ⟨K, 1, 6, fun I' J' R' => R' = R ∧ frM I I' ∧ rC I' J' sw A (n + 2), hK3.2, by decide, by decide, ?_, ?_⟩
  · refine (HL 1 6 (fun _ _ _ _ => False) (fun Y I1 => Y = X ∧ P I1) (hC.mono ?_) (fun Y I1 z => by rw [z.1]; exact hX) (fun v I1 J1 R1 z => z.elim)).mono ?_
    · rintro o w1 ⟨I1, z1, z2, z3⟩
      exact Or.inr ⟨X, I1, z1, ⟨rfl, z2⟩, z3⟩
    · rintro o w1 ⟨k, I1, J1, R1, ex1, z1, z2, z3⟩
      refine ⟨k, I1, J1, R1, ex1, z1, ?_, z3⟩
      rcases z2 with ⟨y1, y, J2, y2, y5⟩ | ⟨Y, y1, ⟨y2, y3⟩, y4, y5⟩
      · exact y2.elim
      · obtain ⟨p1, p2⟩ := hP _ y3
        rw [y4]
        exact ⟨by rw [y1, y2, hK], y5, p1, p2⟩
  · rintro I' J' R' ex' ⟨q2, q3, q4⟩
    subst q2
    refine (hM I' J' ex' (i4.fm q3)).mono ?_
    rintro o w1 ⟨y, I1, z1, z3, z4⟩
    exact ⟨y, I1, J', z1, ⟨z3.2.1, fun z => absurd z (by omega), sw, A, i1, i2, q4.fl z3.1 (fun _ _ => rfl), z3.2.2⟩, z4⟩
end CC
