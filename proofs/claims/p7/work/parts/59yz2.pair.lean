/-! a call of the class and of the reference: the whole relation holds behind both, and they answer alike; printed with wip/gen/gen_dn.py -/
noncomputable def zLik (σ : zSg) (k b : Int32) : Prop := ∃ t : Int32, σ.1 205 0 = .int t ∧ t.toInt = k.toInt ∧ (k.toInt = 0 → σ.1 218 0 = .long b.toInt64)
noncomputable def zHld (σ : zSg) : Prop := ∃ p, zPw p ∧ zC σ p ∧ zRv σ p
theorem aPy_s {p s : Int32} (h0 : 0 ≤ s.toInt) (h : s.toInt ≤ p.toInt) : aPy p s = p - s := by
  have b := zb32 p
  have e : (p - s).toInt = p.toInt - s.toInt := zI_sub rfl rfl (by omega) (by omega)
  unfold aPy
  by_cases q : Int32.ofInt 0 < p - s
  · rw [if_pos q]
  · rw [if_neg q]
    rw [Int32.lt_iff_toInt_lt, e, show (Int32.ofInt 0).toInt = 0 from rfl] at q
    exact Int32.toInt_inj.mp (by rw [e, show (Int32.ofInt 0).toInt = 0 from rfl]; omega)
theorem i_of {a : Int32} {n : Nat} (h : 0 ≤ a.toInt ∧ a.toInt < (n : Int)) (hn : n ≤ 1000) : a = Int32.ofNat a.toInt.toNat ∧ a.toInt.toNat < n := ⟨Int32.toInt_inj.mp (by rw [o32 (by omega)]; omega), by omega⟩
section ZPA
variable {σ σ1 σ2 τ υ : zSg} {p : zPt} {A B : Nat → Int32} {nf nt : Nat} {k b v : Int32}
theorem aI.ho {x : Nat} {v : Int32} (K : aI nf nt A) (hx : x < 24) (hv : v = Int32.ofInt (-1) ∨ ∃ F, F < nf ∧ v = Int32.ofNat F) : aI nf nt (aU A (16 + x) v) := by
  obtain ⟨⟨a0, a1, a2, a3, a4⟩, a5, a6, a7, a8, a9, a10, a11⟩ := K
  have g : ∀ i, i ≠ 16 + x → aU A (16 + x) v i = A i := fun i hi => aU_ne hi
  refine ⟨⟨(g _ (by omega)).trans a0, a1, (g _ (by omega)).trans a2, a3, fun t h1 h2 => (g _ (by omega)).trans (a4 t h1 h2)⟩, fun h hh => ?_, fun t ht => ?_, by rw [g _ (by omega)]; exact a7, by rw [g _ (by omega)]; exact a8, by rw [g _ (by omega)]; exact a9, by rw [g _ (by omega)]; exact a10, by rw [g _ (by omega)]; exact a11⟩
  · by_cases q : h = x
    · rw [q, aU_at]; exact hv
    · rw [g _ (by omega)]; exact a5 h hh
  · rw [g _ (by omega)]; exact a6 t ht
theorem aI.pl {i : Nat} {v : Int32} (K : aI nf nt A) (h1 : ¬ (i < 3 ∨ i = 12 ∨ (16 ≤ i ∧ i < 40) ∨ (64 ≤ i ∧ i < 88))) (h2 : i ≠ 8) (h3 : i ≠ 4) (h4 : i ≠ 14) : aI nf nt (aU A i v) := K.of (fun k hk => aU_ne (by omega)) (fun t g1 g2 => (aU_ne (by omega)).trans (K.1.2.2.2.2 t g1 g2)) (by rw [aU_ne (by omega)]; exact K.2.2.2.2.1) (by rw [aU_ne (by omega)]; exact K.2.2.2.2.2.1) (by rw [aU_ne (by omega)]; exact K.2.2.2.2.2.2.1)
theorem aI.lf {x : Nat} {v : Int32} (K : aI nf nt A) (hx : x < nt) : aI nf nt (aU A (66 + 3 * x) v) := K.of (fun k hk => aU_ne (by omega)) (fun t g1 g2 => (aU_ne (by omega)).trans (K.1.2.2.2.2 t g1 g2)) (by rw [aU_ne (by omega)]; exact K.2.2.2.2.1) (by rw [aU_ne (by omega)]; exact K.2.2.2.2.2.1) (by rw [aU_ne (by omega)]; exact K.2.2.2.2.2.2.1)
theorem aI.q0 (K : aI nf nt A) : aI nf nt (aU A 8 (Int32.ofInt 0)) := K.of (fun k hk => aU_ne (by omega)) (fun t g1 g2 => (aU_ne (by omega)).trans (K.1.2.2.2.2 t g1 g2)) (by rw [aU_at]; decide) (by rw [aU_ne (by omega)]; exact K.2.2.2.2.2.1) (by rw [aU_ne (by omega)]; exact K.2.2.2.2.2.2.1)
theorem hHr_6 {Lo : zLaw} {calm : Bool} (K : aI nf nt A) : 0 ≤ ((hHr Lo nt calm A).1 6).toInt := by
  have hm : ∀ x : Int32, 0 ≤ (aMa (Int32.ofInt 0) x).toInt := fun x => by
    unfold aMa
    by_cases q : Int32.ofInt 0 < x
    · rw [if_pos q]; rw [Int32.lt_iff_toInt_lt, show (Int32.ofInt 0).toInt = 0 from rfl] at q; omega
    · rw [if_neg q]; decide
  have e1 : 0 ≤ (hMd Lo nt calm A 6).toInt := by
    unfold hMd
    cases calm
    · show 0 ≤ (hVi (hCd _) _ 6).toInt
      rw [hVi_k (by omega) (by omega) (by omega) (by omega) (by omega)]
      unfold hCd
      rw [aU_at]
      exact hm _
    · show 0 ≤ (hCd _ 6).toInt
      unfold hCd
      rw [aU_at]
      exact hm _
  obtain ⟨h1, h2, h3⟩ := K.in
  have k1 := K.1.2.1
  have e : hCk (hMd Lo nt calm A) (hN A) 6 = hMd Lo nt calm A 6 := hCk_k (by omega) (by omega)
  unfold hHr hEd
  by_cases q : A (16 + hN A) = Int32.ofInt (-1) ∨ hCk (hMd Lo nt calm A) (hN A) (16 + hN (hCk (hMd Lo nt calm A) (hN A))) = A (16 + hN A)
  · rw [if_pos q]
    show 0 ≤ (hCk (hMd Lo nt calm A) (hN A) 6).toInt
    rw [e]; exact e1
  · rw [if_neg q, hFi_k (by omega) (by omega) (by omega) nt (fun u hu => by omega), e]
    exact e1
theorem hHs_6 {Lo : zLaw} {calm : Bool} (K : aI nf nt A) (h6 : 0 ≤ (A 6).toInt) : ∀ i, 0 ≤ ((hHs Lo nt calm A i).1 6).toInt
  | 0 => h6
  | i + 1 => hHr_6 (K.hs i)
theorem zC.xa {nx : Nat} {Ms : Nat → Nat → Int32} (K : zC σ p) (w : zPw p) (m : mM σ nx p.2.2.1.1 Ms) : xA σ p.1 p.2.1.1 p.2.1.2 nx p.2.2.1.1 Ms := ⟨K.1, K.2.1, m, w.1⟩
theorem xR.W {nx n : Nat} {Ms : Nat → Nat → Int32} {Lo : zLaw} (R : xR σ τ A B nx n Ms) (hx : nx < 12) (K : hW σ 8 Lo) : hW τ 8 Lo := K.of R.1.1 (R.1.2 _ _ (by omega) (by omega) (by omega)) (fun c k q1 q2 => R.1.2 c k (by omega) (by omega) (by omega))
theorem rY_00 {N : Nat} : (rY σ N).1 205 0 = .int (Int32.ofInt 0) := by
  unfold rY
  rw [rCy_ne (fun q => by omega)]
  unfold rRm
  by_cases q : N = 12
  · rw [if_pos q, rCy_ne (fun e => by omega)]; exact q_w_at _ _ _ _
  · rw [if_neg q, q_w_ne (fun _ e => by omega)]; exact q_w_at _ _ _ _
theorem zq_err {c : Int} (w : zPw p) (K : zC σ p) (R : zRv σ p) (e1 : σ1 = σ) (e2 : σ2 = rTh σ1 c) (ek : k = Int32.ofInt c) (hc : c = 1 ∨ c = 2 ∨ c = 3) : zHld σ2 ∧ zLik σ2 k b := by
  subst e1 e2 ek
  refine ⟨⟨p, w, K.ref rfl (fun c k q => q_w_ne (fun e _ => by omega)), R.thr⟩, _, q_w_at _ _ _ _, rfl, fun h => ?_⟩
  rcases hc with rfl | rfl | rfl <;> exact absurd h (by decide)
theorem rX.fr {N : Nat} (X : rX σ1 σ2 B N) {c q : Nat} (h : ¬ (205 ≤ c ∧ c ≤ 217)) : σ2.1 c q = σ1.1 c q := (X.2.1 c q (by omega) (by omega)).trans (rY_ne (by omega) (by omega))
theorem rX.z0 {N : Nat} (X : rX σ1 σ2 B N) : σ2.1 205 0 = .int (Int32.ofInt 0) := (X.2.1 205 0 (by omega) (by omega)).trans rY_00
theorem rX.s {N : Nat} (X : rX σ1 σ2 B N) : σ2.2 = σ1.2 := X.1
theorem zq_core (w : zPw p) (K : zC σ1 (zAct p B)) (R : zRv σ1 p) (IB : aI p.2.1.1 p.2.1.2 B) (h6 : 0 ≤ (B 6).toInt) (h3 : B 3 = p.1 3) (X : rX σ1 σ2 B p.2.2.1.1) : zHld σ2 := ⟨_, w.act IB h6 h3, K.ref X.s (fun _ _ q => X.fr q), R.act w X h3⟩
theorem xE.lo {nx n : Nat} {Ms : Nat → Nat → Int32} (R : xE σ τ A B nx n Ms) (hx : nx < 12) {c q : Nat} (h1 : 205 ≤ c) (h2 : c ≤ 218) : τ.1 c q = σ.1 c q := R.1.2 c q (by omega) (by omega) (by omega) (by omega)
theorem zq_ok (w : zPw p) (K : zC σ p) (R : zRv σ p) (H : ∀ nx Ms, mM σ nx p.2.2.1.1 Ms → xE σ τ p.1 B nx p.2.2.1.1 Ms ∧ hW τ 8 p.2.2.2.1) (IB : aI p.2.1.1 p.2.1.2 B) (h6 : 0 ≤ (B 6).toInt) (h3 : B 3 = p.1 3) (e1 : σ1 = q_w τ 218 0 (.long v.toInt64)) (ek : k = Int32.ofInt 0) (X : zRv σ1 p → rX σ1 σ2 B p.2.2.1.1 ∧ b = v) : zHld σ2 ∧ zLik σ2 k b := by
  have K1 : zC σ1 (zAct p B) := by rw [e1]; exact (K.act w.2.2.1 H).out
  obtain ⟨nx, Ms, m, -⟩ := K.2.2.2.1
  have hx := m.2.2.2.1
  have R1 : zRv σ1 p := R.cls (fun c q h1 h2 => by
    rw [e1, q_w_ne (fun e _ => by omega)]
    exact (H nx Ms m).1.lo hx h1 (by omega))
  obtain ⟨RX, eb⟩ := X R1
  refine ⟨zq_core w K1 R1 IB h6 h3 RX, _, RX.z0, by rw [ek], fun _ => ?_⟩
  rw [RX.fr (by omega), e1, eb]
  exact q_w_at _ _ _ _
theorem zq_ok0 (w : zPw p) (K : zC σ p) (R : zRv σ p) (H : ∀ nx Ms, mM σ nx p.2.2.1.1 Ms → xE σ σ1 p.1 B nx p.2.2.1.1 Ms ∧ hW σ1 8 p.2.2.2.1) (IB : aI p.2.1.1 p.2.1.2 B) (h6 : 0 ≤ (B 6).toInt) (h3 : B 3 = p.1 3) (X : zRv σ1 p → rX σ1 σ2 B p.2.2.1.1) : zHld σ2 := by
  obtain ⟨nx, Ms, m, -⟩ := K.2.2.2.1
  have hx := m.2.2.2.1
  have R1 : zRv σ1 p := R.cls (fun c q h1 h2 => (H nx Ms m).1.lo hx h1 (by omega))
  exact zq_core w (K.act w.2.2.1 H) R1 IB h6 h3 (X R1)
end ZPA
theorem zq_12 {σ σ1 σ2 : zSg} {p : zPt} {a1 k b : Int32} (w : zPw p) (K : zC σ p) (R : zRv σ p) (G1 : p_324 0 a1 218 σ k σ1) (G2 : p_256 205 a1 σ1 b σ2) : zHld σ2 ∧ zLik σ2 k b := by
  obtain ⟨e, τ, g, alts⟩ := G1
  obtain ⟨nx, Ms, m, -⟩ := K.2.2.2.1
  have g0 := g rfl p.1 p.2.1.1 p.2.1.2 nx p.2.2.1.1 Ms (K.xa w m)
  have k6 := w.1.1.2.1
  have k8 := w.1.1.2.2.2.1
  by_cases hv : 0 ≤ a1.toInt ∧ a1.toInt < 24
  · obtain ⟨ex, lx⟩ := i_of (n := 24) hv (by omega)
    generalize a1.toInt.toNat = x at ex lx
    subst ex
    by_cases hh : p.1 (16 + x) = Int32.ofInt (-1)
    · obtain ⟨rfl, rfl⟩ := (g0.2 x rfl lx).1 hh
      rcases alts with ⟨v, q, r1, r2⟩ | ⟨q, r1, r2⟩ | ⟨q, r1, r2⟩
      · cases q
      · cases q
      · subst r2
        exact zq_err w K R rfl (((G2 rfl p.1 p.2.2.1.1 (R.J w)).2 x rfl lx).1 hh).2 r1 (by decide)
    · have z := (g0.2 x rfl lx).2 hh
      obtain ⟨rfl, -⟩ := z
      rcases alts with ⟨v, q, r1, r2⟩ | ⟨q, r1, r2⟩ | ⟨q, r1, r2⟩
      · subst r1
        cases q
        refine zq_ok (B := aU p.1 (16 + x) (Int32.ofInt (-1))) w K R (fun nx' Ms' m' => ?_) (w.1.ho lx (Or.inl rfl)) (by rw [aU_ne (by omega)]; exact w.2.1) (aU_ne (by omega)) r2 rfl (fun R1 => ?_)
        · have g1 := g rfl p.1 p.2.1.1 p.2.1.2 nx' p.2.2.1.1 Ms' (K.xa w m')
          have x := ((g1.2 x rfl lx).2 hh).2
          exact ⟨x.e, x.W m'.2.2.2.1 K.2.2.2.2.1⟩
        · have y := ((G2 rfl p.1 p.2.2.1.1 (R1.J w)).2 x rfl lx).2 hh
          exact ⟨y.2.X, y.1⟩
      · cases q
      · cases q
  · obtain ⟨rfl, rfl⟩ := g0.1 hv
    rcases alts with ⟨v, q, r1, r2⟩ | ⟨q, r1, r2⟩ | ⟨q, r1, r2⟩
    · cases q
    · subst r2
      exact zq_err w K R rfl ((G2 rfl p.1 p.2.2.1.1 (R.J w)).1 hv).2 r1 (by decide)
    · cases q
theorem zq_16 {σ σ1 σ2 : zSg} {p : zPt} {k b : Int32} (w : zPw p) (K : zC σ p) (R : zRv σ p) (G1 : p_134 0 σ k σ1) (G2 : p_261 205 σ1 b σ2) : zHld σ2 ∧ k = b := by
  obtain ⟨nx, Ms, m, -⟩ := K.2.2.2.1
  have hx := m.2.2.2.1
  have g0 := G1 rfl p.1 p.2.1.1 p.2.1.2 nx p.2.2.1.1 Ms (K.xa w m)
  have R1 : zRv σ1 p := R.cls (fun c q h1 h2 => g0.2.e.lo hx h1 (by omega))
  have y := G2 rfl p.1 p.2.2.1.1 (R1.J w)
  refine ⟨zq_ok0 (B := aU p.1 7 (Int32.ofInt 0)) w K R (fun nx' Ms' m' => ?_) (w.1.pl (by omega) (by omega) (by omega) (by omega)) (by rw [aU_ne (by omega)]; exact w.2.1) (aU_ne (by omega)) (fun _ => y.2.X), g0.1.trans y.1.symm⟩
  have x := (G1 rfl p.1 p.2.1.1 p.2.1.2 nx' p.2.2.1.1 Ms' (K.xa w m')).2
  exact ⟨x.e, x.W m'.2.2.2.1 K.2.2.2.2.1⟩
theorem zq_10 {σ σ1 σ2 : zSg} {p : zPt} {a1 a2 k b : Int32} (w : zPw p) (K : zC σ p) (R : zRv σ p) (G1 : p_322 0 a1 a2 218 σ k σ1) (G2 : p_253 205 a1 a2 σ1 b σ2) : zHld σ2 ∧ zLik σ2 k b := by
  obtain ⟨e, τ, g, alts⟩ := G1
  obtain ⟨nx, Ms, m, -⟩ := K.2.2.2.1
  have g0 := g rfl p.1 p.2.1.1 p.2.1.2 nx p.2.2.1.1 Ms (K.xa w m)
  have k6 := w.1.1.2.1
  have k8 := w.1.1.2.2.2.1
  by_cases hv : (0 ≤ a1.toInt ∧ a1.toInt < 24) ∧ (0 ≤ a2.toInt ∧ a2.toInt < (p.2.1.1 : Int))
  · obtain ⟨ex, lx⟩ := i_of (n := 24) hv.1 (by omega)
    obtain ⟨eF, lF⟩ := i_of hv.2 (by omega)
    generalize a1.toInt.toNat = x at ex lx
    generalize a2.toInt.toNat = F at eF lF
    subst ex eF
    by_cases hh : p.1 (16 + x) = Int32.ofInt (-1) ∧ (p.1 12).toInt ≤ (p.1 (40 + 4 * F)).toInt
    · have es := aPy_s w.1.2.2.2.1.1 hh.2
      have z := (g0.2 x F rfl lx rfl lF).2 hh
      obtain ⟨rfl, -⟩ := z
      rcases alts with ⟨v, q, r1, r2⟩ | ⟨q, r1, r2⟩ | ⟨q, r1, r2⟩
      · subst r1
        cases q
        refine zq_ok (B := aU (aU p.1 (40 + 4 * F) (aPy (p.1 (40 + 4 * F)) (p.1 12))) (16 + x) (Int32.ofNat F)) w K R (fun nx' Ms' m' => ?_) ((w.1.pl (by omega) (by omega) (by omega) (by omega)).ho lx (Or.inr ⟨F, lF, rfl⟩)) (by rw [aU_ne (by omega), aU_ne (by omega)]; exact w.2.1) ((aU_ne (by omega)).trans (aU_ne (by omega))) r2 rfl (fun R1 => ?_)
        · have g1 := g rfl p.1 p.2.1.1 p.2.1.2 nx' p.2.2.1.1 Ms' (K.xa w m')
          have x := ((g1.2 x F rfl lx rfl lF).2 hh).2
          exact ⟨x.e, x.W m'.2.2.2.1 K.2.2.2.2.1⟩
        · have y := ((G2 rfl p.1 p.2.2.1.1 p.2.1.1 (R1.J w) w.1.1.1 w.1.1.2.1).2 x F rfl lx rfl lF).2 hh
          rw [es]
          exact ⟨y.2.X, y.1⟩
      · cases q
      · cases q
    · obtain ⟨rfl, rfl⟩ := (g0.2 x F rfl lx rfl lF).1 hh
      rcases alts with ⟨v, q, r1, r2⟩ | ⟨q, r1, r2⟩ | ⟨q, r1, r2⟩
      · cases q
      · cases q
      · subst r2
        exact zq_err w K R rfl (((G2 rfl p.1 p.2.2.1.1 p.2.1.1 (R.J w) w.1.1.1 w.1.1.2.1).2 x F rfl lx rfl lF).1 hh).2 r1 (by decide)
  · obtain ⟨rfl, rfl⟩ := g0.1 hv
    rcases alts with ⟨v, q, r1, r2⟩ | ⟨q, r1, r2⟩ | ⟨q, r1, r2⟩
    · cases q
    · subst r2
      exact zq_err w K R rfl ((G2 rfl p.1 p.2.2.1.1 p.2.1.1 (R.J w) w.1.1.1 w.1.1.2.1).1 hv).2 r1 (by decide)
    · cases q
theorem zq_9 {σ σ1 σ2 : zSg} {p : zPt} {a1 a2 k b : Int32} (w : zPw p) (K : zC σ p) (R : zRv σ p) (G1 : p_321 0 a1 a2 218 σ k σ1) (G2 : p_252 205 a1 a2 σ1 b σ2) : zHld σ2 ∧ zLik σ2 k b := by
  obtain ⟨e, τ, g, alts⟩ := G1
  obtain ⟨nx, Ms, m, -⟩ := K.2.2.2.1
  have g0 := g rfl p.1 p.2.1.1 p.2.1.2 nx p.2.2.1.1 Ms (K.xa w m)
  have k6 := w.1.1.2.1
  have k8 := w.1.1.2.2.2.1
  by_cases hv : (0 ≤ a1.toInt ∧ a1.toInt < 24) ∧ (0 ≤ a2.toInt ∧ a2.toInt < (p.2.1.1 : Int))
  · obtain ⟨ex, lx⟩ := i_of (n := 24) hv.1 (by omega)
    obtain ⟨eF, lF⟩ := i_of hv.2 (by omega)
    generalize a1.toInt.toNat = x at ex lx
    generalize a2.toInt.toNat = F at eF lF
    subst ex eF
    by_cases hq : p.1 (16 + x) = Int32.ofNat F
    · obtain ⟨rfl, rfl⟩ := (g0.2 x F rfl lx rfl lF).1 hq
      rcases alts with ⟨v, q, r1, r2⟩ | ⟨q, r1, r2⟩ | ⟨q, r1, r2⟩ | ⟨q, r1, r2⟩
      · cases q
      · cases q
      · subst r2
        exact zq_err w K R rfl (((G2 rfl p.1 p.2.2.1.1 p.2.1.1 (R.J w) w.1.1.1 w.1.1.2.1).2 x F rfl lx rfl lF).1 hq).2 r1 (by decide)
      · cases q
    by_cases hh : p.1 (16 + x) ≠ Int32.ofInt (-1) ∧ (p.1 12).toInt ≤ (p.1 (40 + 4 * F)).toInt
    · have es := aPy_s w.1.2.2.2.1.1 hh.2
      obtain ⟨G, hG, eG⟩ : ∃ G, G < p.2.1.1 ∧ p.1 (16 + x) = Int32.ofNat G := (w.1.2.1 x lx).resolve_left hh.1
      have z := ((g0.2 x F rfl lx rfl lF).2 hq).2 hh G eG hG
      obtain ⟨rfl, -⟩ := z
      rcases alts with ⟨v, q, r1, r2⟩ | ⟨q, r1, r2⟩ | ⟨q, r1, r2⟩ | ⟨q, r1, r2⟩
      · subst r1
        cases q
        refine zq_ok (B := aU (aU (aU p.1 (40 + 4 * F) (aPy (p.1 (40 + 4 * F)) (p.1 12))) (40 + 4 * G) (aEn (p.1 (40 + 4 * G)) (p.1 12))) (16 + x) (Int32.ofNat F)) w K R (fun nx' Ms' m' => ?_) (((w.1.pl (by omega) (by omega) (by omega) (by omega)).pl (by omega) (by omega) (by omega) (by omega)).ho lx (Or.inr ⟨F, lF, rfl⟩)) (by rw [aU_ne (by omega), aU_ne (by omega), aU_ne (by omega)]; exact w.2.1) ((aU_ne (by omega)).trans ((aU_ne (by omega)).trans (aU_ne (by omega)))) r2 rfl (fun R1 => ?_)
        · have g1 := g rfl p.1 p.2.1.1 p.2.1.2 nx' p.2.2.1.1 Ms' (K.xa w m')
          have x := (((g1.2 x F rfl lx rfl lF).2 hq).2 hh G eG hG).2
          exact ⟨x.e, x.W m'.2.2.2.1 K.2.2.2.2.1⟩
        · have y := (((G2 rfl p.1 p.2.2.1.1 p.2.1.1 (R1.J w) w.1.1.1 w.1.1.2.1).2 x F rfl lx rfl lF).2 hq).2 hh G eG hG
          rw [es]
          exact ⟨y.2.X, y.1⟩
      · cases q
      · cases q
      · cases q
    · obtain ⟨rfl, rfl⟩ := ((g0.2 x F rfl lx rfl lF).2 hq).1 hh
      rcases alts with ⟨v, q, r1, r2⟩ | ⟨q, r1, r2⟩ | ⟨q, r1, r2⟩ | ⟨q, r1, r2⟩
      · cases q
      · cases q
      · cases q
      · subst r2
        exact zq_err w K R rfl ((((G2 rfl p.1 p.2.2.1.1 p.2.1.1 (R.J w) w.1.1.1 w.1.1.2.1).2 x F rfl lx rfl lF).2 hq).1 hh).2 r1 (by decide)
  · obtain ⟨rfl, rfl⟩ := g0.1 hv
    rcases alts with ⟨v, q, r1, r2⟩ | ⟨q, r1, r2⟩ | ⟨q, r1, r2⟩ | ⟨q, r1, r2⟩
    · cases q
    · subst r2
      exact zq_err w K R rfl ((G2 rfl p.1 p.2.2.1.1 p.2.1.1 (R.J w) w.1.1.1 w.1.1.2.1).1 hv).2 r1 (by decide)
    · cases q
    · cases q
theorem zq_11 {σ σ1 σ2 : zSg} {p : zPt} {a1 a2 k b : Int32} (w : zPw p) (K : zC σ p) (R : zRv σ p) (G1 : p_323 0 a1 a2 218 σ k σ1) (G2 : p_255 205 a1 a2 σ1 b σ2) : zHld σ2 ∧ zLik σ2 k b := by
  obtain ⟨e, τ, g, alts⟩ := G1
  obtain ⟨nx, Ms, m, -⟩ := K.2.2.2.1
  have g0 := g rfl p.1 p.2.1.1 p.2.1.2 nx p.2.2.1.1 Ms (K.xa w m)
  have k6 := w.1.1.2.1
  have k8 := w.1.1.2.2.2.1
  by_cases hv : (0 ≤ a1.toInt ∧ a1.toInt < 24) ∧ (0 ≤ a2.toInt ∧ a2.toInt < 24)
  · obtain ⟨ex, lx⟩ := i_of (n := 24) hv.1 (by omega)
    obtain ⟨ey, ly⟩ := i_of (n := 24) hv.2 (by omega)
    generalize a1.toInt.toNat = x at ex lx
    generalize a2.toInt.toNat = y at ey ly
    subst ex ey
    by_cases hq : x = y
    · obtain ⟨rfl, rfl⟩ := (g0.2 x y rfl lx rfl ly).1 hq
      rcases alts with ⟨v, q, r1, r2⟩ | ⟨q, r1, r2⟩ | ⟨q, r1, r2⟩ | ⟨q, r1, r2⟩
      · cases q
      · cases q
      · subst r2
        exact zq_err w K R rfl (((G2 rfl p.1 p.2.2.1.1 (R.J w)).2 x y rfl lx rfl ly).1 hq).2 r1 (by decide)
      · cases q
    by_cases hh : p.1 (16 + x) ≠ Int32.ofInt (-1) ∧ p.1 (16 + y) ≠ Int32.ofInt (-1) ∧ p.1 (16 + x) ≠ p.1 (16 + y)
    · have z := ((g0.2 x y rfl lx rfl ly).2 hq).2 hh
      obtain ⟨rfl, -⟩ := z
      rcases alts with ⟨v, q, r1, r2⟩ | ⟨q, r1, r2⟩ | ⟨q, r1, r2⟩ | ⟨q, r1, r2⟩
      · subst r1
        cases q
        refine zq_ok (B := aU (aU p.1 (16 + x) (p.1 (16 + y))) (16 + y) (p.1 (16 + x))) w K R (fun nx' Ms' m' => ?_) ((w.1.ho lx (w.1.2.1 y ly)).ho ly (w.1.2.1 x lx)) (by rw [aU_ne (by omega), aU_ne (by omega)]; exact w.2.1) ((aU_ne (by omega)).trans (aU_ne (by omega))) r2 rfl (fun R1 => ?_)
        · have g1 := g rfl p.1 p.2.1.1 p.2.1.2 nx' p.2.2.1.1 Ms' (K.xa w m')
          have x := (((g1.2 x y rfl lx rfl ly).2 hq).2 hh).2
          exact ⟨x.e, x.W m'.2.2.2.1 K.2.2.2.2.1⟩
        · have y9 := (((G2 rfl p.1 p.2.2.1.1 (R1.J w)).2 x y rfl lx rfl ly).2 hq).2 hh
          exact ⟨y9.2.X, y9.1⟩
      · cases q
      · cases q
      · cases q
    · obtain ⟨rfl, rfl⟩ := ((g0.2 x y rfl lx rfl ly).2 hq).1 hh
      rcases alts with ⟨v, q, r1, r2⟩ | ⟨q, r1, r2⟩ | ⟨q, r1, r2⟩ | ⟨q, r1, r2⟩
      · cases q
      · cases q
      · cases q
      · subst r2
        exact zq_err w K R rfl ((((G2 rfl p.1 p.2.2.1.1 (R.J w)).2 x y rfl lx rfl ly).2 hq).1 hh).2 r1 (by decide)
  · obtain ⟨rfl, rfl⟩ := g0.1 hv
    rcases alts with ⟨v, q, r1, r2⟩ | ⟨q, r1, r2⟩ | ⟨q, r1, r2⟩ | ⟨q, r1, r2⟩
    · cases q
    · subst r2
      exact zq_err w K R rfl ((G2 rfl p.1 p.2.2.1.1 (R.J w)).1 hv).2 r1 (by decide)
    · cases q
    · cases q
theorem zq_13 {σ σ1 σ2 : zSg} {p : zPt} {a1 k b : Int32} (w : zPw p) (K : zC σ p) (R : zRv σ p) (G1 : p_325 0 a1 218 σ k σ1) (G2 : p_258 205 a1 σ1 b σ2) : zHld σ2 ∧ zLik σ2 k b := by
  obtain ⟨e, τ, g, alts⟩ := G1
  obtain ⟨nx, Ms, m, -⟩ := K.2.2.2.1
  have g0 := g rfl p.1 p.2.1.1 p.2.1.2 nx p.2.2.1.1 Ms (K.xa w m)
  have k6 := w.1.1.2.1
  have k8 := w.1.1.2.2.2.1
  by_cases hv : 0 ≤ a1.toInt ∧ a1.toInt < (p.2.1.2 : Int)
  · obtain ⟨ex, lx⟩ := i_of hv (by omega)
    generalize a1.toInt.toNat = x at ex lx
    subst ex
    obtain ⟨i4, h4, e4⟩ := w.1.2.2.2.2.2.1
    have hL : p.1 (66 + 3 * x) = Int32.ofInt 0 ∨ p.1 (66 + 3 * x) = Int32.ofInt 1 := by
      obtain ⟨l, -, hl'⟩ := K.2.1.2.2.1
      have e9 := hl' x (by omega)
      by_cases hb : btb l (Int32.ofNat x) = true
      · rw [if_pos hb] at e9; exact Or.inr e9
      · rw [if_neg hb] at e9; exact Or.inl e9
    have eb : aBs (aU p.1 (66 + 3 * x) (Int32.ofInt 1)) (aLo (aU p.1 (66 + 3 * x) (Int32.ofInt 1)) p.2.1.2) p.2.1.2 = aBo (aU p.1 (66 + 3 * x) (Int32.ofInt 1)) (Int32.ofInt (-1)) p.2.1.2 := aBs_lo k8 (fun t ht => by rw [aU_ne (by omega)]; exact w.1.own t ht)
    by_cases hh : p.1 (64 + 3 * x) = p.1 (16 + i4) ∧ p.1 (66 + 3 * x) = Int32.ofInt 0
    · have z := (g0.2 x rfl lx i4 e4 h4).2 hh
      obtain ⟨rfl, -⟩ := z
      rcases alts with ⟨v, q, r1, r2⟩ | ⟨q, r1, r2⟩ | ⟨q, r1, r2⟩
      · subst r1
        cases q
        refine zq_ok (B := aU p.1 (66 + 3 * x) (Int32.ofInt 1)) w K R (fun nx' Ms' m' => ?_) (w.1.lf lx) (by rw [aU_ne (by omega)]; exact w.2.1) (aU_ne (by omega)) r2 rfl (fun R1 => ?_)
        · have g1 := g rfl p.1 p.2.1.1 p.2.1.2 nx' p.2.2.1.1 Ms' (K.xa w m')
          have x := ((g1.2 x rfl lx i4 e4 h4).2 hh).2
          exact ⟨x.e, x.W m'.2.2.2.1 K.2.2.2.2.1⟩
        · have y := ((G2 rfl p.1 p.2.2.1.1 p.2.1.2 (R1.J w) w.1.1.2.2.1 w.1.1.2.2.2.1).2 x rfl lx i4 e4 h4).2 (⟨hh.1, fun q => by rw [hh.2] at q; exact absurd q (by decide)⟩)
          exact ⟨y.1.X, y.2.trans eb⟩
      · cases q
      · cases q
    · obtain ⟨rfl, rfl⟩ := (g0.2 x rfl lx i4 e4 h4).1 hh
      rcases alts with ⟨v, q, r1, r2⟩ | ⟨q, r1, r2⟩ | ⟨q, r1, r2⟩
      · cases q
      · cases q
      · subst r2
        exact zq_err w K R rfl (((G2 rfl p.1 p.2.2.1.1 p.2.1.2 (R.J w) w.1.1.2.2.1 w.1.1.2.2.2.1).2 x rfl lx i4 e4 h4).1 (fun q => hh ⟨q.1, hL.resolve_right q.2⟩)).2 r1 (by decide)
  · obtain ⟨rfl, rfl⟩ := g0.1 hv
    rcases alts with ⟨v, q, r1, r2⟩ | ⟨q, r1, r2⟩ | ⟨q, r1, r2⟩
    · cases q
    · subst r2
      exact zq_err w K R rfl ((G2 rfl p.1 p.2.2.1.1 p.2.1.2 (R.J w) w.1.1.2.2.1 w.1.1.2.2.2.1).1 hv).2 r1 (by decide)
    · cases q
theorem zq_14 {σ σ1 σ2 : zSg} {p : zPt} {a1 k b : Int32} (w : zPw p) (K : zC σ p) (R : zRv σ p) (G1 : p_326 0 a1 218 σ k σ1) (G2 : p_259 205 a1 σ1 b σ2) : zHld σ2 ∧ zLik σ2 k b := by
  obtain ⟨e, τ, g, alts⟩ := G1
  obtain ⟨nx, Ms, m, -⟩ := K.2.2.2.1
  have g0 := g rfl p.1 p.2.1.1 p.2.1.2 nx p.2.2.1.1 Ms (K.xa w m)
  have k6 := w.1.1.2.1
  have k8 := w.1.1.2.2.2.1
  by_cases hv : 0 ≤ a1.toInt ∧ a1.toInt < (p.2.1.2 : Int)
  · obtain ⟨ex, lx⟩ := i_of hv (by omega)
    generalize a1.toInt.toNat = x at ex lx
    subst ex
    obtain ⟨i4, h4, e4⟩ := w.1.2.2.2.2.2.1
    have hL : p.1 (66 + 3 * x) = Int32.ofInt 0 ∨ p.1 (66 + 3 * x) = Int32.ofInt 1 := by
      obtain ⟨l, -, hl'⟩ := K.2.1.2.2.1
      have e9 := hl' x (by omega)
      by_cases hb : btb l (Int32.ofNat x) = true
      · rw [if_pos hb] at e9; exact Or.inr e9
      · rw [if_neg hb] at e9; exact Or.inl e9
    have eb : aBs (aU p.1 (66 + 3 * x) (Int32.ofInt 0)) (aLo (aU p.1 (66 + 3 * x) (Int32.ofInt 0)) p.2.1.2) p.2.1.2 = aBo (aU p.1 (66 + 3 * x) (Int32.ofInt 0)) (Int32.ofInt (-1)) p.2.1.2 := aBs_lo k8 (fun t ht => by rw [aU_ne (by omega)]; exact w.1.own t ht)
    by_cases hh : p.1 (64 + 3 * x) = p.1 (16 + i4) ∧ p.1 (66 + 3 * x) = Int32.ofInt 1
    · have z := (g0.2 x rfl lx i4 e4 h4).2 hh
      obtain ⟨rfl, -⟩ := z
      rcases alts with ⟨v, q, r1, r2⟩ | ⟨q, r1, r2⟩ | ⟨q, r1, r2⟩
      · subst r1
        cases q
        refine zq_ok (B := aU p.1 (66 + 3 * x) (Int32.ofInt 0)) w K R (fun nx' Ms' m' => ?_) (w.1.lf lx) (by rw [aU_ne (by omega)]; exact w.2.1) (aU_ne (by omega)) r2 rfl (fun R1 => ?_)
        · have g1 := g rfl p.1 p.2.1.1 p.2.1.2 nx' p.2.2.1.1 Ms' (K.xa w m')
          have x := ((g1.2 x rfl lx i4 e4 h4).2 hh).2
          exact ⟨x.e, x.W m'.2.2.2.1 K.2.2.2.2.1⟩
        · have y := ((G2 rfl p.1 p.2.2.1.1 p.2.1.2 (R1.J w) w.1.1.2.2.1 w.1.1.2.2.2.1).2 x rfl lx i4 e4 h4).2 (hh)
          exact ⟨y.1.X, y.2.trans eb⟩
      · cases q
      · cases q
    · obtain ⟨rfl, rfl⟩ := (g0.2 x rfl lx i4 e4 h4).1 hh
      rcases alts with ⟨v, q, r1, r2⟩ | ⟨q, r1, r2⟩ | ⟨q, r1, r2⟩
      · cases q
      · cases q
      · subst r2
        exact zq_err w K R rfl (((G2 rfl p.1 p.2.2.1.1 p.2.1.2 (R.J w) w.1.1.2.2.1 w.1.1.2.2.2.1).2 x rfl lx i4 e4 h4).1 hh).2 r1 (by decide)
  · obtain ⟨rfl, rfl⟩ := g0.1 hv
    rcases alts with ⟨v, q, r1, r2⟩ | ⟨q, r1, r2⟩ | ⟨q, r1, r2⟩
    · cases q
    · subst r2
      exact zq_err w K R rfl ((G2 rfl p.1 p.2.2.1.1 p.2.1.2 (R.J w) w.1.1.2.2.1 w.1.1.2.2.2.1).1 hv).2 r1 (by decide)
    · cases q
theorem zq_15 {σ σ1 σ2 : zSg} {p : zPt} {k b : Int32} (w : zPw p) (K : zC σ p) (R : zRv σ p) (G1 : p_327 0 218 σ k σ1) (G2 : p_260 205 σ1 b σ2) : zHld σ2 ∧ zLik σ2 k b := by
  obtain ⟨e, τ, g, alts⟩ := G1
  obtain ⟨nx, Ms, m, -⟩ := K.2.2.2.1
  have g0 := g rfl p.1 p.2.1.1 p.2.1.2 nx p.2.2.1.1 Ms (K.xa w m)
  have k6 := w.1.1.2.1
  have k8 := w.1.1.2.2.2.1
  obtain ⟨i4, h4, e4⟩ := w.1.2.2.2.2.2.1
  have h8 := w.1.2.2.2.2.1
  rcases w.1.2.1 i4 h4 with hq | ⟨F, hF, eF⟩
  · obtain ⟨rfl, rfl⟩ := (g0 i4 e4 h4).1 hq
    rcases alts with ⟨v, q, r1, r2⟩ | ⟨q, r1, r2⟩
    · cases q
    · subst r2
      exact zq_err w K R rfl ((G2 rfl p.1 p.2.2.1.1 (R.J w) i4 e4 h4).1 hq).2 r1 (by decide)
  by_cases hh : 0 < (p.1 8).toInt ∧ (p.1 8).toInt ≤ (p.1 (40 + 4 * F)).toInt
  · have es := aPy_s h8.1 hh.2
    have z := ((g0 i4 e4 h4).2 F eF hF).2 hh
    obtain ⟨rfl, -⟩ := z
    rcases alts with ⟨v, q, r1, r2⟩ | ⟨q, r1, r2⟩
    · subst r1
      cases q
      refine zq_ok (B := aU (aU p.1 (40 + 4 * F) (aPy (p.1 (40 + 4 * F)) (p.1 8))) 8 (Int32.ofInt 0)) w K R (fun nx' Ms' m' => ?_) ((w.1.pl (by omega) (by omega) (by omega) (by omega)).q0) (by rw [aU_ne (by omega), aU_ne (by omega)]; exact w.2.1) ((aU_ne (by omega)).trans (aU_ne (by omega))) r2 rfl (fun R1 => ?_)
      · have g1 := g rfl p.1 p.2.1.1 p.2.1.2 nx' p.2.2.1.1 Ms' (K.xa w m')
        have x := (((g1 i4 e4 h4).2 F eF hF).2 hh).2
        exact ⟨x.e, x.W m'.2.2.2.1 K.2.2.2.2.1⟩
      · have y := ((G2 rfl p.1 p.2.2.1.1 (R1.J w) i4 e4 h4).2 F eF (by omega)).2 ⟨by omega, hh.2⟩
        rw [es]
        exact ⟨y.2.X, y.1⟩
    · cases q
  · obtain ⟨rfl, rfl⟩ := ((g0 i4 e4 h4).2 F eF hF).1 hh
    rcases alts with ⟨v, q, r1, r2⟩ | ⟨q, r1, r2⟩
    · cases q
    · subst r2
      exact zq_err w K R rfl (((G2 rfl p.1 p.2.2.1.1 (R.J w) i4 e4 h4).2 F eF (by omega)).1 (fun q => hh ⟨by omega, q.2⟩)).2 r1 (by decide)
theorem zq_17 {σ σ1 σ2 : zSg} {p : zPt} {a1 k b : Int32} (w : zPw p) (K : zC σ p) (R : zRv σ p) (G1 : p_328 0 a1 218 σ k σ1) (G2 : p_269 205 a1 σ1 b σ2) : zHld σ2 ∧ zLik σ2 k b := by
  obtain ⟨e, τ, g, alts⟩ := G1
  obtain ⟨nx, Ms, m, -⟩ := K.2.2.2.1
  have g0 := g rfl p.1 p.2.1.1 p.2.1.2 nx p.2.2.1.1 Ms p.2.2.2.1 (K.xa w m) K.2.2.2.2.1
  have k6 := w.1.1.2.1
  have k8 := w.1.1.2.2.2.1
  by_cases hv : 1 ≤ a1.toInt ∧ a1.toInt ≤ 100
  · obtain ⟨ex, lx⟩ := i_of (a := a1) (n := 101) (by omega) (by omega)
    have hx1 : 1 ≤ a1.toInt.toNat := by omega
    generalize a1.toInt.toNat = x at ex lx hx1
    subst ex
    have z := g0.2 x rfl hx1 (by omega)
    obtain ⟨rfl, -⟩ := z
    rcases alts with ⟨v, q, r1, r2⟩ | ⟨q, r1, r2⟩
    · subst r1
      cases q
      refine zq_ok (B := (hHs p.2.2.2.1 p.2.1.2 false p.1 x).1) w K R (fun nx' Ms' m' => ?_) (w.1.hs x) (hHs_6 w.1 w.2.1 x) (hHs_k w.1 (by omega) x) r2 rfl (fun R1 => ?_)
      · have g1 := g rfl p.1 p.2.1.1 p.2.1.2 nx' p.2.2.1.1 Ms' p.2.2.2.1 (K.xa w m') K.2.2.2.2.1
        have x9 := (g1.2 x rfl hx1 (by omega)).2
        exact x9
      · have y := (G2 rfl p.1 p.2.2.1.1 p.2.1.1 p.2.1.2 p.2.2.2.1 (R1.J w) w.1 (R1.Ev w)).2 x rfl hx1 (by omega)
        exact ⟨y.2, y.1⟩
    · cases q
  · obtain ⟨rfl, rfl⟩ := g0.1 hv
    rcases alts with ⟨v, q, r1, r2⟩ | ⟨q, r1, r2⟩
    · cases q
    · subst r2
      exact zq_err w K R rfl ((G2 rfl p.1 p.2.2.1.1 p.2.1.1 p.2.1.2 p.2.2.2.1 (R.J w) w.1 (R.Ev w)).1 hv).2 r1 (by decide)
section ZPB
variable {σ σ1 σ2 τ υ : zSg} {p : zPt} {A B : Nat → Int32} {k b v : Int32}
theorem hH.f11 {b : Nat} (K : hH σ b A) (h2 : τ.2 = σ.2) (g : ∀ c j, b ≤ c → c ≤ b + 11 → τ.1 c j = σ.1 c j) : hH τ b A := by
  obtain ⟨h1, h2', ⟨l, h3, h3'⟩, ⟨nx, h4, h4', h4''⟩, h5, h6, h7⟩ := K
  refine ⟨fun c j d hk => ?_, fun k c j hp => ?_, ⟨l, ?_, h3'⟩, ⟨nx, h4, ?_, fun i j hi hj => ?_⟩, ?_, by rw [h2]; exact h6, by rw [h2]; exact h7⟩
  · rw [g c j (by unfold hKr at hk; omega) (by unfold hKr at hk; omega)]; exact h1 c j d hk
  · rw [g c j (by unfold hPr at hp; omega) (by unfold hPr at hp; omega)]; exact h2' k c j hp
  · rw [g _ _ (by omega) (by omega)]; exact h3
  · rw [g _ _ (by omega) (by omega)]; exact h4'
  · rw [g _ _ (by omega) (by omega)]; exact h4'' i j hi hj
  · unfold hWe
    rw [g b 5 (by omega) (by omega)]
    exact h5
/-- the draft, and what the house that is now asks its law about, may change -/
theorem zC.fr2 (K : zC σ p) (h2 : τ.2 = σ.2) (h : ∀ c k, zCc c → c ≠ 20 → ¬ (21 ≤ c ∧ c ≤ 33) → τ.1 c k = σ.1 c k) (hD : ∃ D, hH τ 21 D) : zC τ p := by
  obtain ⟨k1, k2, -, ⟨nx, Ms, ⟨m1, m2, m3, m4, m5, m6, m7⟩, k4⟩, k5, k6, k7, k8, k9, k10⟩ := K
  have hl : ∀ c k, 219 ≤ c → c % 6 ≠ 5 → τ.1 c k = σ.1 c k := fun c k q1 q2 => h c k (Or.inr (Or.inr ⟨q1, q2⟩)) (by omega) (by omega)
  have hi : ∀ c k, 34 ≤ c → c < 205 → τ.1 c k = σ.1 c k := fun c k q1 q2 => h c k (Or.inr (Or.inl ⟨by omega, q2⟩)) (by omega) (by omega)
  have h8 : ∀ c k, 8 ≤ c → c ≤ 19 → τ.1 c k = σ.1 c k := fun c k q1 q2 => h c k (Or.inr (Or.inl ⟨q1, by omega⟩)) (by omega) (by omega)
  have h0 : ∀ k, τ.1 0 k = σ.1 0 k := fun k => h 0 k (Or.inl rfl) (by omega) (by omega)
  have hB : ∀ {Lo : zLaw}, wB σ Lo → wB τ Lo := fun w => w.of (by rw [h2]; exact Nat.le_refl _)
  refine ⟨k1.of (fun k _ => h0 k), k2.f11 h2 (fun c j q1 q2 => h8 c j (by omega) (by omega)), hD, ⟨nx, Ms, ⟨(hi _ _ (by omega) (by omega)).trans m1, fun i hi9 => (hi _ _ (by omega) (by omega)).trans (m2 i hi9), (hi _ _ (by omega) (by omega)).trans m3, m4, (hi _ _ (by omega) (by omega)).trans m5, m6, fun i hi9 => (m7 i hi9).fr h2 (fun c j q1 q2 => hi c j (by omega) (by omega))⟩, fun i hi9 => ⟨(k4 i hi9).1, ?_⟩⟩, k5.of h2 (h8 _ _ (by omega) (by omega)) hl, hB k6, ?_, (h0 7).trans k8, by rw [h2]; exact k9, by rw [h2]; exact k10⟩
  · have : mJ nx p.2.2.1.1 i < 12 := Nat.mod_lt _ (by omega)
    rw [hi _ _ (by omega) (by omega), h8 8 5 (by omega) (by omega)]
    exact (k4 i hi9).2
  · unfold zCi at k7 ⊢
    split at k7
    · obtain ⟨q1, B, q2⟩ := k7
      exact ⟨(h0 6).trans q1, B, q2.fr h2 (fun c j q1 q2 => hi c j (by omega) (by omega))⟩
    · obtain ⟨q1, q2, q3, q4⟩ := k7
      exact ⟨(h0 6).trans q1, q2.fr h2 (fun c j q1 q2 => hi c j (by omega) (by omega)), q3.of h2 (hi _ _ (by omega) (by omega)) hl, hB q4⟩
theorem zC.lk (K : zC σ p) (f : eFr 8 σ τ) : zC τ p := by
  obtain ⟨D, hD⟩ := K.2.2.1
  exact K.fr2 f.1 (fun c k q1 q2 q3 => f.2 c k q2 (by unfold zCc at q1; omega)) ⟨D, hD.fr f.1 (fun c j q1 q2 => f.2 c j (by omega) (by omega))⟩
theorem zC.dr (K : zC σ p) {Lo : zLaw} (D : xDa σ τ A B Lo) : zC τ p := K.fr2 D.1.1 (fun c k q1 q2 q3 => D.1.2 c k q3 (by unfold zCc at q1; omega)) ⟨B, D.2.1⟩
theorem zRv.dr (K : zRv σ p) {Lo : zLaw} (D : xDa σ τ A B Lo) {v : Value} : zRv (q_w τ 218 0 v) p := K.cls (fun c k h1 h2 => by
  rw [q_w_ne (fun e _ => by omega)]
  exact D.1.2 c k (by omega) (by omega))
theorem zq_see (w : zPw p) (K : zC σ1 p) (R : zRv σ1 p) (X : rKF σ1 σ2) : zHld σ2 := ⟨p, w, K.fr X.1 (fun c k q => X.2.1 c k (by unfold zCc at q; omega) (by unfold zCc at q; omega) (by unfold zCc at q; omega)), R.fr (fun c k q => X.2.1 c k (by unfold zRc at q; omega) (by unfold zRc at q; omega) (by unfold zRc at q; omega))⟩
theorem zq_sa (w : zPw p) (K : zC σ p) (R : zRv σ p) {Lo : zLaw} (D : xDa σ τ A B Lo) (e1 : σ1 = q_w τ 218 0 (.long v.toInt64)) (ek : k = Int32.ofInt 0) (X : zRv σ1 p → rKF σ1 σ2 ∧ b = v) : zHld σ2 ∧ zLik σ2 k b := by
  have R1 : zRv σ1 p := by rw [e1]; exact R.dr D
  obtain ⟨X, eb⟩ := X R1
  refine ⟨zq_see w (by rw [e1]; exact (K.dr D).out) R1 X, _, X.2.2, by rw [ek], fun _ => ?_⟩
  rw [X.2.1 _ _ (by omega) (by omega) (by omega), e1, eb]
  exact q_w_at _ _ _ _
end ZPB
theorem zq_33 {σ σ1 σ2 : zSg} {p : zPt} {a1 a2 k b : Int32} (w : zPw p) (K : zC σ p) (R : zRv σ p) (G1 : p_335 0 a1 a2 218 σ k σ1) (G2 : p_270 205 a1 a2 σ1 b σ2) : zHld σ2 ∧ zLik σ2 k b := by
  obtain ⟨e, τ, g, alts⟩ := G1
  have g0 := g rfl p.1 p.2.1.1 p.2.1.2 p.2.2.2.1 (K.Dp w)
  have k6 := w.1.1.2.1
  by_cases hv : 0 ≤ a1.toInt ∧ a1.toInt ≤ 200
  · by_cases hw : 0 ≤ a2.toInt ∧ a2.toInt ≤ 2
    · obtain ⟨ex, lx⟩ := i_of (a := a1) (n := 201) (by omega) (by omega)
      generalize a1.toInt.toNat = x at ex lx
      subst ex
      obtain ⟨D, d0, d1, d2⟩ := g0.2.2 x rfl (by omega) hw
      have hc : a2.toInt = 0 ∨ a2.toInt = 1 ∨ a2.toInt = 2 := by omega
      rcases hc with hc | hc | hc
      · obtain rfl := d0 hc
        rcases alts with ⟨v, q, r1, r2⟩ | ⟨q, r1, r2⟩ | ⟨q, r1, r2⟩
        · subst r1
          cases q
          refine zq_sa w K R D r2 rfl (fun R1 => ?_)
          exact (fun y => ⟨y.1, y.2.1 hc⟩) ((G2 rfl p.1 p.2.1.1 p.2.1.2 p.2.2.2.1 (R1.Dp w)).2.2 x rfl (by omega) hw)
        · cases q
        · cases q
      · obtain rfl := d1 hc
        rcases alts with ⟨v, q, r1, r2⟩ | ⟨q, r1, r2⟩ | ⟨q, r1, r2⟩
        · subst r1
          cases q
          refine zq_sa w K R D r2 rfl (fun R1 => ?_)
          exact (fun y => ⟨y.1, y.2.2.1 hc⟩) ((G2 rfl p.1 p.2.1.1 p.2.1.2 p.2.2.2.1 (R1.Dp w)).2.2 x rfl (by omega) hw)
        · cases q
        · cases q
      · obtain rfl := d2 hc
        rcases alts with ⟨v, q, r1, r2⟩ | ⟨q, r1, r2⟩ | ⟨q, r1, r2⟩
        · subst r1
          cases q
          refine zq_sa w K R D r2 rfl (fun R1 => ?_)
          exact (fun y => ⟨y.1, y.2.2.2 hc⟩) ((G2 rfl p.1 p.2.1.1 p.2.1.2 p.2.2.2.1 (R1.Dp w)).2.2 x rfl (by omega) hw)
        · cases q
        · cases q
    · obtain ⟨rfl, rfl⟩ := g0.2.1 hv hw
      rcases alts with ⟨v, q, r1, r2⟩ | ⟨q, r1, r2⟩ | ⟨q, r1, r2⟩
      · cases q
      · cases q
      · subst r2
        exact zq_err w K R rfl ((G2 rfl p.1 p.2.1.1 p.2.1.2 p.2.2.2.1 (R.Dp w)).2.1 hv hw).2 r1 (by decide)
  · obtain ⟨rfl, rfl⟩ := g0.1 hv
    rcases alts with ⟨v, q, r1, r2⟩ | ⟨q, r1, r2⟩ | ⟨q, r1, r2⟩
    · cases q
    · subst r2
      exact zq_err w K R rfl ((G2 rfl p.1 p.2.1.1 p.2.1.2 p.2.2.2.1 (R.Dp w)).1 hv).2 r1 (by decide)
    · cases q
theorem zq_34 {σ σ1 σ2 : zSg} {p : zPt} {a1 k b : Int32} (w : zPw p) (K : zC σ p) (R : zRv σ p) (G1 : p_336 0 a1 218 σ k σ1) (G2 : p_271 205 a1 σ1 b σ2) : zHld σ2 ∧ zLik σ2 k b := by
  obtain ⟨e, τ, g, alts⟩ := G1
  have g0 := g rfl p.1 p.2.1.1 p.2.1.2 p.2.2.2.1 (K.Dp w)
  have k6 := w.1.1.2.1
  by_cases hv : 1 ≤ a1.toInt ∧ a1.toInt ≤ 99
  · obtain ⟨⟨B, D⟩, r, rfl, hr⟩ := g0.2 hv
    rcases alts with ⟨v, q, r1, r2⟩ | ⟨q, r1, r2⟩
    · subst r1
      cases q
      refine zq_sa w K R D r2 rfl (fun R1 => ?_)
      exact (fun y => ⟨y.1, y.2.det hr⟩) ((G2 rfl p.1 p.2.1.1 p.2.1.2 p.2.2.2.1 (R1.Dp w)).2 hv)
    · cases q
  · obtain ⟨rfl, rfl⟩ := g0.1 hv
    rcases alts with ⟨v, q, r1, r2⟩ | ⟨q, r1, r2⟩
    · cases q
    · subst r2
      exact zq_err w K R rfl ((G2 rfl p.1 p.2.1.1 p.2.1.2 p.2.2.2.1 (R.Dp w)).1 hv).2 r1 (by decide)
theorem zq_35 {σ σ1 σ2 : zSg} {p : zPt} {a1 k b : Int32} (w : zPw p) (K : zC σ p) (R : zRv σ p) (G1 : p_337 0 a1 218 σ k σ1) (G2 : p_272 205 a1 σ1 b σ2) : zHld σ2 ∧ zLik σ2 k b := by
  obtain ⟨e, τ, g, alts⟩ := G1
  have g0 := g rfl p.1 p.2.1.1 p.2.1.2 p.2.2.2.1 (K.Dp w)
  have k6 := w.1.1.2.1
  by_cases hv : 1 ≤ a1.toInt ∧ a1.toInt ≤ 200
  · obtain ⟨ex, lx⟩ := i_of (a := a1) (n := 201) (by omega) (by omega)
    have hx1 : 1 ≤ a1.toInt.toNat := by omega
    generalize a1.toInt.toNat = x at ex lx hx1
    subst ex
    obtain ⟨⟨B, D⟩, rfl⟩ := g0.2 x rfl hx1 (by omega)
    rcases alts with ⟨v, q, r1, r2⟩ | ⟨q, r1, r2⟩
    · subst r1
      cases q
      refine zq_sa w K R D r2 rfl (fun R1 => ?_)
      exact (G2 rfl p.1 p.2.1.1 p.2.1.2 p.2.2.2.1 (R1.Dp w) w.2.1).2 x rfl hx1 (by omega)
    · cases q
  · obtain ⟨rfl, rfl⟩ := g0.1 hv
    rcases alts with ⟨v, q, r1, r2⟩ | ⟨q, r1, r2⟩
    · cases q
    · subst r2
      exact zq_err w K R rfl ((G2 rfl p.1 p.2.1.1 p.2.1.2 p.2.2.2.1 (R.Dp w) w.2.1).1 hv).2 r1 (by decide)
theorem zq_36 {σ σ1 σ2 : zSg} {p : zPt} {a1 k b : Int32} (w : zPw p) (K : zC σ p) (R : zRv σ p) (G1 : p_338 0 a1 218 σ k σ1) (G2 : p_273 205 a1 σ1 b σ2) : zHld σ2 ∧ zLik σ2 k b := by
  obtain ⟨e, τ, g, alts⟩ := G1
  have g0 := g rfl p.1 p.2.1.1 p.2.1.2 p.2.2.2.1 (K.Dp w)
  have k6 := w.1.1.2.1
  by_cases hv : 0 ≤ a1.toInt ∧ a1.toInt < (p.2.1.1 : Int)
  · obtain ⟨ex, lx⟩ := i_of hv (by omega)
    obtain ⟨⟨B, D⟩, r, rfl, hr⟩ := g0.2 _ ex lx
    have hP : ∀ (f : Nat → Nat → Int32) (i : Nat), (∀ F, a1 = Int32.ofNat F → F < p.2.1.1 → f i (40 + 4 * F) = Int32.ofInt 0) ↔ f i (40 + 4 * a1.toInt.toNat) = Int32.ofInt 0 := fun f i => ⟨fun h => h _ ex lx, fun h F eF hF => by
      have : F = a1.toInt.toNat := by rw [eF, o32 (by omega)]; omega
      rw [this]; exact h⟩
    rcases alts with ⟨v, q, r1, r2⟩ | ⟨q, r1, r2⟩
    · subst r1
      cases q
      refine zq_sa w K R D r2 rfl (fun R1 => ?_)
      exact (fun y => ⟨y.1, aFst.det (P := fun i => (hHs p.2.2.2.1 p.2.1.2 true p.1 i).1 (40 + 4 * a1.toInt.toNat) = Int32.ofInt 0) (by have := y.2; rw [show (fun i => (∀ F, a1 = Int32.ofNat F → F < p.2.1.1 → (hHs p.2.2.2.1 p.2.1.2 true p.1 i).1 (40 + 4 * F) = Int32.ofInt 0)) = (fun i => (hHs p.2.2.2.1 p.2.1.2 true p.1 i).1 (40 + 4 * a1.toInt.toNat) = Int32.ofInt 0) from funext fun i => propext (hP (fun i => (hHs p.2.2.2.1 p.2.1.2 true p.1 i).1) i)] at this; exact this) hr⟩) ((G2 rfl p.1 p.2.1.1 p.2.1.2 p.2.2.2.1 (R1.Dp w)).2 hv)
    · cases q
  · obtain ⟨rfl, rfl⟩ := g0.1 hv
    rcases alts with ⟨v, q, r1, r2⟩ | ⟨q, r1, r2⟩
    · cases q
    · subst r2
      exact zq_err w K R rfl ((G2 rfl p.1 p.2.1.1 p.2.1.2 p.2.2.2.1 (R.Dp w)).1 hv).2 r1 (by decide)
theorem zq_39 {σ σ1 σ2 : zSg} {p : zPt} {a1 a2 k b : Int32} (w : zPw p) (K : zC σ p) (R : zRv σ p) (G1 : p_339 0 a1 a2 218 σ k σ1) (G2 : p_304 205 a1 a2 σ1 b σ2) : zHld σ2 := by
  obtain ⟨e, τ, g, alts⟩ := G1
  have g0 := g rfl p.1 p.2.1.1 p.2.1.2 p.2.2.2.1 (K.Dp w)
  have k6 := w.1.1.2.1
  have see : zC σ1 p → zRv σ1 p → zHld σ2 := fun K1 R1 => by
    by_cases hv : 0 ≤ a1.toInt ∧ a1.toInt ≤ 200
    · exact zq_see w K1 R1 ((G2 rfl p.1 p.2.1.1 p.2.1.2 p.2.2.2.1 (R1.Dp w)).2 hv)
    · obtain ⟨-, rfl⟩ := (G2 rfl p.1 p.2.1.1 p.2.1.2 p.2.2.2.1 (R1.Dp w)).1 hv
      exact ⟨p, w, K1.ref rfl (fun c k q => q_w_ne (fun e _ => by omega)), R1.thr⟩
  have both : zC τ p ∧ ∀ c k, 205 ≤ c → c ≤ 217 → τ.1 c k = σ.1 c k := by
    by_cases hv : 0 ≤ a1.toInt ∧ a1.toInt ≤ 200
    · rcases (g0.2 hv).2 with rfl | ⟨B, D⟩
      · exact ⟨K, fun _ _ _ _ => rfl⟩
      · exact ⟨K.dr D, fun c k h1 h2 => D.1.2 c k (by omega) (by omega)⟩
    · obtain ⟨-, rfl⟩ := g0.1 hv
      exact ⟨K, fun _ _ _ _ => rfl⟩
  rcases alts with ⟨v, q, r1, r2⟩ | ⟨q, r1, r2⟩
  · subst r2
    exact see both.1.out (R.cls (fun c k h1 h2 => by rw [q_w_ne (fun e _ => by omega)]; exact both.2 c k h1 h2))
  · subst r2
    exact see both.1 (R.cls both.2)
theorem zq_40 {σ σ1 σ2 : zSg} {p : zPt} {a1 a2 b : Int32} (w : zPw p) (K : zC σ p) (R : zRv σ p) (G2 : p_305 205 a1 a2 σ b σ2) : zHld σ2 := by
  by_cases hv : 0 ≤ a1.toInt ∧ a1.toInt ≤ 200
  · exact zq_see w K R ((G2 rfl p.1 p.2.1.1 p.2.1.2 p.2.2.2.1 (R.Dp w)).2 hv)
  · obtain ⟨-, rfl⟩ := (G2 rfl p.1 p.2.1.1 p.2.1.2 p.2.2.2.1 (R.Dp w)).1 hv
    exact ⟨p, w, K.ref rfl (fun c k q => q_w_ne (fun e _ => by omega)), R.thr⟩
theorem zc_7 {σ σ1 σ2 : zSg} {p : zPt} {a1 a2 a3 k : Int32} (w : zPw p) (K : zC σ p) (R : zRv σ p) (G1 : p_319 0 a1 a2 a3 218 σ k σ1) : zC σ1 p ∧ zRv σ1 p := by
  obtain ⟨e, τ, g, alts⟩ := G1
  have g0 := g rfl p.1 p.2.1.1 p.2.1.2 p.2.2.2.1 K.1 K.2.1 w.1 K.2.2.2.2.1
  have k6 := w.1.1.2.1
  have k8 := w.1.1.2.2.2.1
  have f : eFr 8 σ τ := by
    by_cases hv : (0 ≤ a1.toInt ∧ a1.toInt < (p.2.1.1 : Int)) ∧ (0 ≤ a2.toInt ∧ a2.toInt < 24)
    case neg =>
      obtain ⟨-, rfl⟩ := g0.1 hv
      exact eFr.rf
    obtain ⟨ex, lx⟩ := i_of hv.1 (by omega)
    obtain ⟨ey, ly⟩ := i_of (n := 24) hv.2 (by omega)
    by_cases hw : 0 ≤ a3.toInt ∧ a3.toInt ≤ 1
    · exact ((g0.2 _ _ ex lx ey ly).2 hw).1
    · obtain ⟨-, rfl⟩ := (g0.2 _ _ ex lx ey ly).1 hw
      exact eFr.rf
  have both : zC τ p ∧ ∀ c k, 205 ≤ c → c ≤ 217 → τ.1 c k = σ.1 c k := ⟨K.lk f, fun c k h1 h2 => f.2 c k (by omega) (by omega)⟩
  rcases alts with ⟨v, q, r1, r2⟩ | ⟨q, r1, r2⟩ | ⟨q, r1, r2⟩
  · subst r2
    exact ⟨both.1.out, R.cls (fun c k h1 h2 => by rw [q_w_ne (fun e _ => by omega)]; exact both.2 c k h1 h2)⟩
  · subst r2
    exact ⟨both.1, R.cls both.2⟩
  · subst r2
    exact ⟨both.1, R.cls both.2⟩
theorem zc_8 {σ σ1 σ2 : zSg} {p : zPt} {a1 a2 k : Int32} (w : zPw p) (K : zC σ p) (R : zRv σ p) (G1 : p_320 0 a1 a2 218 σ k σ1) : zC σ1 p ∧ zRv σ1 p := by
  obtain ⟨e, τ, g, alts⟩ := G1
  have g0 := g rfl p.1 p.2.1.1 p.2.1.2 p.2.2.2.1 K.1 K.2.1 w.1 K.2.2.2.2.1
  have k6 := w.1.1.2.1
  have k8 := w.1.1.2.2.2.1
  have f : eFr 8 σ τ := by
    by_cases hv : 0 ≤ a1.toInt ∧ a1.toInt < (p.2.1.2 : Int)
    case neg =>
      obtain ⟨-, rfl⟩ := g0.1 hv
      exact eFr.rf
    obtain ⟨ex, lx⟩ := i_of hv (by omega)
    by_cases hw : 0 ≤ a2.toInt ∧ a2.toInt ≤ 3
    · exact ((g0.2 _ ex lx).2 hw).1
    · obtain ⟨-, rfl⟩ := (g0.2 _ ex lx).1 hw
      exact eFr.rf
  have both : zC τ p ∧ ∀ c k, 205 ≤ c → c ≤ 217 → τ.1 c k = σ.1 c k := ⟨K.lk f, fun c k h1 h2 => f.2 c k (by omega) (by omega)⟩
  rcases alts with ⟨v, q, r1, r2⟩ | ⟨q, r1, r2⟩ | ⟨q, r1, r2⟩
  · subst r2
    exact ⟨both.1.out, R.cls (fun c k h1 h2 => by rw [q_w_ne (fun e _ => by omega)]; exact both.2 c k h1 h2)⟩
  · subst r2
    exact ⟨both.1, R.cls both.2⟩
  · subst r2
    exact ⟨both.1, R.cls both.2⟩
