section
/-! the reference's evaluation of a law, exact; printed with wip/gen/gen_dh.py -/
theorem zJ_235 : zJ3 235 z_m235 z_c235 z_h235 := ⟨rfl, rfl, rfl⟩
noncomputable def p_235 (h : Int32) (σ : zSg) (r : Int32) (σ' : zSg) : Prop := σ' = σ ∧ ∀ n, h = Int32.ofNat n → n < 24 → r = aNi n
theorem sp_235_et (a0 : Int32) (σ : zSg) (h1 : a0.toInt < (6 : Int)) :
    p_235 (a0) σ (Int32.ofInt (1)) σ := by
  refine ⟨rfl, fun n e hn => ?_⟩
  subst e
  rw [o32 (by omega)] at *
  unfold aNi
  rw [if_pos (by omega)]
theorem sp_235_eft (a0 : Int32) (σ : zSg) (h1 : a0.toInt ≥ (6 : Int)) (h2 : a0.toInt ≤ (21 : Int)) :
    p_235 (a0) σ (Int32.ofInt (0)) σ := by
  refine ⟨rfl, fun n e hn => ?_⟩
  subst e
  rw [o32 (by omega)] at *
  unfold aNi
  rw [if_neg (by omega)]
theorem sp_235_eff (a0 : Int32) (σ : zSg) (h1 : a0.toInt ≥ (6 : Int)) (h2 : a0.toInt > (21 : Int)) :
    p_235 (a0) σ (Int32.ofInt (1)) σ := by
  refine ⟨rfl, fun n e hn => ?_⟩
  subst e
  rw [o32 (by omega)] at *
  unfold aNi
  rw [if_pos (by omega)]
noncomputable def qP_235 : zPp := fun as σ o σ' => match as with
  | [a0] => ∃ r, o = .inl (some (.int r)) ∧ p_235 (q_i a0) σ r σ'
  | _ => True
set_option maxRecDepth 100000 in
theorem sp_235 {sx : zX}  : zEe sx 235 1 qP_235 := by
  refine zfle zJ_235 (sps := []) (fun q hq => absurd hq List.not_mem_nil) (fun as σ hl => ?_)
  match as, hl with
  | [a0], _ =>
  refine ⟨[], 400, ?_, ?_⟩
  · exact fun q hq => absurd hq List.not_mem_nil
  · refine And.intro (fun h1 => ?_) (fun h1 => ?_)
    · exact ⟨_, rfl, sp_235_et (q_i a0) σ (cm2t h1)⟩
    · refine And.intro (fun h2 => ?_) (fun h2 => ?_)
      · exact ⟨_, rfl, sp_235_eft (q_i a0) σ (cm2f h1) (cm5t h2)⟩
      · exact ⟨_, rfl, sp_235_eff (q_i a0) σ (cm2f h1) (cm5f h2)⟩
noncomputable def rVF (σ σ' : zSg) : Prop := σ'.2 = σ.2 ∧ ∀ c k, c ≠ 213 → σ'.1 c k = σ.1 c k
noncomputable def rLo (σ : zSg) (A : Nat → Int32) (Lo : Option (Nat × List gLn4 × zSs)) : Prop := match Lo with
  | none => A 3 = Int32.ofInt 0
  | some (_, ls, l) => A 3 = Int32.ofInt 1 ∧ rLT σ 206 ls l ∧ gW ls l
noncomputable def rEv (σ : zSg) (A : Nat → Int32) (nt : Nat) (Lo : Option (Nat × List gLn4 × zSs)) : Prop := rW σ A ∧ σ.1 205 17 = .ref 213 ∧ A 1 = Int32.ofNat nt ∧ nt ≤ 8 ∧ (∀ t, t < nt → A (64 + 3 * t) ≠ Int32.ofInt (-1)) ∧ rLo σ A Lo
section REV
variable {σ τ υ : zSg} {k nt : Nat} {A : Nat → Int32} {v : Value} {Lo : Option (Nat × List gLn4 × zSs)}
theorem rVF.rf : rVF σ σ := ⟨rfl, fun _ _ _ => rfl⟩
theorem rVF.tr (h1 : rVF σ τ) (h2 : rVF τ υ) : rVF σ υ := ⟨h2.1.trans h1.1, fun c k q => (h2.2 c k q).trans (h1.2 c k q)⟩
theorem rVF.w (h : rVF σ τ) : rVF σ (q_w τ 213 k v) := ⟨h.1, fun c i q => (q_w_ne (fun e _ => q e)).trans (h.2 c i q)⟩
theorem rW.vf (K : rW σ A) (f : rVF σ τ) : rW τ A := ⟨(f.2 _ _ (by omega)).trans K.1, fun k hk => (f.2 _ _ (by omega)).trans (K.2 k hk)⟩
theorem rLT.of {ls : List gLn4} {l : zSs} (K : rLT σ 206 ls l) (f : ∀ k, 388 ≤ k → τ.1 206 k = σ.1 206 k) : rLT τ 206 ls l := by
  obtain ⟨a, b, c⟩ := K
  refine ⟨(f _ (by omega)).trans a, fun i x hx => ?_, fun i x hx => ?_⟩
  · obtain ⟨b1, b2, b3, b4⟩ := b i x hx
    exact ⟨(f _ (by omega)).trans b1, (f _ (by omega)).trans b2, (f _ (by omega)).trans b3, (f _ (by omega)).trans b4⟩
  · obtain ⟨c1, c2⟩ := c i x hx
    exact ⟨(f _ (by omega)).trans c1, (f _ (by omega)).trans c2⟩
theorem rLo.of {B : Nat → Int32} (K : rLo σ A Lo) (f : ∀ k, 388 ≤ k → τ.1 206 k = σ.1 206 k) (h3 : B 3 = A 3) : rLo τ B Lo := by
  unfold rLo at K ⊢
  match Lo, K with
  | none, K => exact h3.trans K
  | some (L, ls, l), ⟨k1, k2, k3⟩ => exact ⟨h3.trans k1, k2.of f, k3⟩
theorem rEv.fr (K : rEv σ A nt Lo) (f : rVF σ τ) : rEv τ A nt Lo := by
  obtain ⟨a1, a2, a3, a4, a5, a6⟩ := K
  exact ⟨a1.vf f, (f.2 _ _ (by omega)).trans a2, a3, a4, a5, a6.of (fun k _ => f.2 _ _ (by omega)) rfl⟩
end REV
theorem ixA (c d i : Nat) : Int32.ofInt (c : Int) + Int32.ofInt (d : Int) * Int32.ofNat i = Int32.ofNat (c + d * i) := by
  rw [Int32.ofNat_add, Int32.ofNat_mul]
  rfl
theorem ixB (a b : Nat) : Int32.ofNat a + Int32.ofInt (b : Int) = Int32.ofNat (a + b) := by
  rw [Int32.ofNat_add]
  rfl
theorem ixN {n : Nat} (h : n ≤ 100000) : (Int32.ofNat n).toNatClampNeg = n := znat (zofNat2 h)
theorem ix437 {i : Nat} (h : i ≤ 400) : (Int32.ofInt 437 + Int32.ofInt 2 * Int32.ofNat i).toNatClampNeg = 437 + 2 * i := by
  rw [show Int32.ofInt 437 + Int32.ofInt 2 * Int32.ofNat i = _ from ixA 437 2 i, ixN (by omega)]
theorem ix438 {i : Nat} (h : i ≤ 400) : (Int32.ofInt 437 + Int32.ofInt 2 * Int32.ofNat i + Int32.ofInt 1).toNatClampNeg = 438 + 2 * i := by
  rw [show Int32.ofInt 437 + Int32.ofInt 2 * Int32.ofNat i = _ from ixA 437 2 i, show Int32.ofNat (437 + 2 * i) + Int32.ofInt 1 = _ from ixB _ 1, ixN (by omega)]
  omega
theorem ix389 (i : Nat) : Int32.ofInt 389 + Int32.ofInt 4 * Int32.ofNat i = Int32.ofNat (389 + 4 * i) := ixA 389 4 i
theorem ix389n {i : Nat} (h : i ≤ 400) : (Int32.ofInt 389 + Int32.ofInt 4 * Int32.ofNat i).toNatClampNeg = 389 + 4 * i := by rw [ix389, ixN (by omega)]
theorem ix390n {i : Nat} (h : i ≤ 400) : (Int32.ofInt 389 + Int32.ofInt 4 * Int32.ofNat i + Int32.ofInt 1).toNatClampNeg = 390 + 4 * i := by
  rw [ix389, show Int32.ofNat (389 + 4 * i) + Int32.ofInt 1 = _ from ixB _ 1, ixN (by omega)]
  omega
theorem ix391n {i : Nat} (h : i ≤ 400) : (Int32.ofNat (389 + 4 * i) + Int32.ofInt 2).toNatClampNeg = 391 + 4 * i := by
  rw [show Int32.ofNat (389 + 4 * i) + Int32.ofInt 2 = _ from ixB _ 2, ixN (by omega)]
  omega
theorem ix392n {i : Nat} (h : i ≤ 400) : (Int32.ofNat (389 + 4 * i) + Int32.ofInt 3).toNatClampNeg = 392 + 4 * i := by
  rw [show Int32.ofNat (389 + 4 * i) + Int32.ofInt 3 = _ from ixB _ 3, ixN (by omega)]
  omega
theorem zJ_236 : zJ3 236 z_m236 z_c236 z_h236 := ⟨rfl, rfl, rfl⟩
noncomputable def p_236 (a : Nat) (st n f h : Int32) (σ : zSg) (r : Int32) (σ' : zSg) : Prop := a = 205 → ∀ A nt F hh x, rW σ A → A 1 = Int32.ofNat nt → nt ≤ 8 → (∀ t, t < nt → A (64 + 3 * t) ≠ Int32.ofInt (-1)) → st = Int32.ofNat (Prod.fst x) → x.1 ≤ 8 → n = Int32.ofNat (Prod.snd x) → f = Int32.ofNat F → F < 6 → h = Int32.ofNat hh → hh < 24 → σ' = σ ∧ r = eV (eFa A nt F hh) x
theorem sp_236_es0_ (a0 : Nat) (a1 : Int32) (a2 : Int32) (a3 : Int32) (a4 : Int32) (σ : zSg) (h1 : a1.toInt = 0) :
    p_236 (a0) (a1) (a2) (a3) (a4) σ a3 σ := by
  rintro rfl A nt F hh x K u1 u8 uo e1 hx e2 e3 hF e4 hh24
  refine ⟨rfl, ?_⟩
  subst e1 e2 e3 e4
  rw [o32 (show x.1 ≤ 1000 by omega)] at *
  have hx' : x.1 = 0 := by omega
  unfold eV
  rw [if_neg (by omega), hx']
  exact rfl
theorem sp_236_es1_ (a0 : Nat) (a1 : Int32) (a2 : Int32) (a3 : Int32) (a4 : Int32) (σ : zSg) (h1 : a1.toInt ≠ 0) (h2 : a1.toInt = 1) :
    p_236 (a0) (a1) (a2) (a3) (a4) σ a4 σ := by
  rintro rfl A nt F hh x K u1 u8 uo e1 hx e2 e3 hF e4 hh24
  refine ⟨rfl, ?_⟩
  subst e1 e2 e3 e4
  rw [o32 (show x.1 ≤ 1000 by omega)] at *
  have hx' : x.1 = 1 := by omega
  unfold eV
  rw [if_neg (by omega), hx']
  exact rfl
theorem sp_236_es2_ (a0 : Nat) (a1 : Int32) (a2 : Int32) (a3 : Int32) (a4 : Int32) (σ : zSg) (h1 : a1.toInt ≠ 0) (h2 : a1.toInt ≠ 1) (h3 : a1.toInt = 2) (h4 : 0 ≤ (Int32.ofInt (6)).toInt ∧ (Int32.ofInt (6)).toInt < (σ.2.1 (q_r (σ.1 a0 1)) : Int)) :
    p_236 (a0) (a1) (a2) (a3) (a4) σ (q_i (σ.1 (q_r (σ.1 a0 1)) (Int32.ofInt (6)).toNatClampNeg)) σ := by
  rintro rfl A nt F hh x K u1 u8 uo e1 hx e2 e3 hF e4 hh24
  refine ⟨rfl, ?_⟩
  subst e1 e2 e3 e4
  rw [o32 (show x.1 ≤ 1000 by omega)] at *
  have hx' : x.1 = 2 := by omega
  unfold eV
  rw [if_neg (by omega), hx']
  show _ = A 6
  rw [K.q]
  exact K.i (k := 6) (by omega)
theorem sp_236_es3_ (a0 : Nat) (a1 : Int32) (a2 : Int32) (a3 : Int32) (a4 : Int32) (σ : zSg) (h1 : a1.toInt ≠ 0) (h2 : a1.toInt ≠ 1) (h3 : a1.toInt ≠ 2) (h5 : a1.toInt = 3) (h6 : 0 ≤ (Int32.ofInt (7)).toInt ∧ (Int32.ofInt (7)).toInt < (σ.2.1 (q_r (σ.1 a0 1)) : Int)) :
    p_236 (a0) (a1) (a2) (a3) (a4) σ (q_i (σ.1 (q_r (σ.1 a0 1)) (Int32.ofInt (7)).toNatClampNeg)) σ := by
  rintro rfl A nt F hh x K u1 u8 uo e1 hx e2 e3 hF e4 hh24
  refine ⟨rfl, ?_⟩
  subst e1 e2 e3 e4
  rw [o32 (show x.1 ≤ 1000 by omega)] at *
  have hx' : x.1 = 3 := by omega
  unfold eV
  rw [if_neg (by omega), hx']
  show _ = A 7
  rw [K.q]
  exact K.i (k := 7) (by omega)
theorem sp_236_es4_ (a0 : Nat) (a1 : Int32) (a2 : Int32) (a3 : Int32) (a4 : Int32) (σ : zSg) (h1 : a1.toInt ≠ 0) (h2 : a1.toInt ≠ 1) (h3 : a1.toInt ≠ 2) (h5 : a1.toInt ≠ 3) (h7 : a1.toInt = 4) (h8 : 0 ≤ (Int32.ofInt (8)).toInt ∧ (Int32.ofInt (8)).toInt < (σ.2.1 (q_r (σ.1 a0 1)) : Int)) :
    p_236 (a0) (a1) (a2) (a3) (a4) σ (q_i (σ.1 (q_r (σ.1 a0 1)) (Int32.ofInt (8)).toNatClampNeg)) σ := by
  rintro rfl A nt F hh x K u1 u8 uo e1 hx e2 e3 hF e4 hh24
  refine ⟨rfl, ?_⟩
  subst e1 e2 e3 e4
  rw [o32 (show x.1 ≤ 1000 by omega)] at *
  have hx' : x.1 = 4 := by omega
  unfold eV
  rw [if_neg (by omega), hx']
  show _ = A 8
  rw [K.q]
  exact K.i (k := 8) (by omega)
theorem sp_236_es5_ (a0 : Nat) (a1 : Int32) (a2 : Int32) (a3 : Int32) (a4 : Int32) (σ : zSg) (τ10 : zSg) (r10 : Int32) (τ11 : zSg) (r11 : Int32) (h1 : a1.toInt ≠ 0) (h2 : a1.toInt ≠ 1) (h3 : a1.toInt ≠ 2) (h5 : a1.toInt ≠ 3) (h7 : a1.toInt ≠ 4) (h9 : a1.toInt = 5) (g10 : p_233 a0 σ r10 τ10) (g11 : p_234 a0 r10 τ10 r11 τ11) :
    p_236 (a0) (a1) (a2) (a3) (a4) σ r11 τ11 := by
  rintro rfl A nt F hh x K u1 u8 uo e1 hx e2 e3 hF e4 hh24
  subst e1 e2 e3 e4
  rw [o32 (show x.1 ≤ 1000 by omega)] at *
  obtain ⟨rfl, rfl⟩ := g10 rfl A nt K u1 u8
  obtain ⟨rfl, rfl⟩ := g11 rfl A nt K u1 u8
  refine ⟨rfl, ?_⟩
  have hx' : x.1 = 5 := by omega
  unfold eV
  rw [if_neg (by omega), hx']
  show _ = aBo A (Int32.ofInt (-1)) nt
  exact aBs_lo u8 uo
theorem sp_236_es6_t (a0 : Nat) (a1 : Int32) (a2 : Int32) (a3 : Int32) (a4 : Int32) (σ : zSg) (τ13 : zSg) (r13 : Int32) (h1 : a1.toInt ≠ 0) (h2 : a1.toInt ≠ 1) (h3 : a1.toInt ≠ 2) (h5 : a1.toInt ≠ 3) (h7 : a1.toInt ≠ 4) (h9 : a1.toInt ≠ 5) (h12 : a1.toInt = 6) (g13 : p_235 a4 σ r13 τ13) (h14 : r13.toInt = (0 : Int)) :
    p_236 (a0) (a1) (a2) (a3) (a4) σ (Int32.ofInt (0)) τ13 := by
  obtain ⟨rfl, g⟩ := g13
  rintro rfl A nt F hh x K u1 u8 uo e1 hx e2 e3 hF e4 hh24
  refine ⟨rfl, ?_⟩
  subst e1 e2 e3 e4
  rw [o32 (show x.1 ≤ 1000 by omega)] at *
  have hx' : x.1 = 6 := by omega
  unfold eV
  rw [if_neg (by omega), hx']
  show _ = aNi hh
  rw [← g hh rfl hh24]
  exact (Int32.toInt_inj.mp h14).symm
theorem sp_236_es6_f (a0 : Nat) (a1 : Int32) (a2 : Int32) (a3 : Int32) (a4 : Int32) (σ : zSg) (τ13 : zSg) (r13 : Int32) (h1 : a1.toInt ≠ 0) (h2 : a1.toInt ≠ 1) (h3 : a1.toInt ≠ 2) (h5 : a1.toInt ≠ 3) (h7 : a1.toInt ≠ 4) (h9 : a1.toInt ≠ 5) (h12 : a1.toInt = 6) (g13 : p_235 a4 σ r13 τ13) (h14 : r13.toInt ≠ (0 : Int)) :
    p_236 (a0) (a1) (a2) (a3) (a4) σ (Int32.ofInt (1)) τ13 := by
  obtain ⟨rfl, g⟩ := g13
  rintro rfl A nt F hh x K u1 u8 uo e1 hx e2 e3 hF e4 hh24
  refine ⟨rfl, ?_⟩
  subst e1 e2 e3 e4
  rw [o32 (show x.1 ≤ 1000 by omega)] at *
  have hx' : x.1 = 6 := by omega
  unfold eV
  rw [if_neg (by omega), hx']
  show _ = aNi hh
  have e := g hh rfl hh24
  rw [e] at h14
  unfold aNi at h14 ⊢
  by_cases q : hh < 6 ∨ 21 < hh
  · rw [if_pos q]
  · rw [if_neg q] at h14; exact absurd rfl h14
theorem sp_236_es7_t (a0 : Nat) (a1 : Int32) (a2 : Int32) (a3 : Int32) (a4 : Int32) (σ : zSg) (τ16 : zSg) (r16 : Int32) (h1 : a1.toInt ≠ 0) (h2 : a1.toInt ≠ 1) (h3 : a1.toInt ≠ 2) (h5 : a1.toInt ≠ 3) (h7 : a1.toInt ≠ 4) (h9 : a1.toInt ≠ 5) (h12 : a1.toInt ≠ 6) (h15 : a1.toInt = 7) (g16 : p_191 a0 a3 a4 σ r16 τ16) (h17 : r16.toInt = (0 : Int)) :
    p_236 (a0) (a1) (a2) (a3) (a4) σ (Int32.ofInt (0)) τ16 := by
  obtain ⟨rfl, g⟩ := g16
  rintro rfl A nt F hh x K u1 u8 uo e1 hx e2 e3 hF e4 hh24
  refine ⟨rfl, ?_⟩
  subst e1 e2 e3 e4
  rw [o32 (show x.1 ≤ 1000 by omega)] at *
  have hx' : x.1 = 7 := by omega
  unfold eV
  rw [if_neg (by omega), hx']
  show _ = if btb (A (43 + 4 * F)) (Int32.ofNat hh) = true then Int32.ofInt 1 else Int32.ofInt 0
  rw [← g rfl A K F rfl hF]
  exact (Int32.toInt_inj.mp h17).symm
theorem sp_236_es7_f (a0 : Nat) (a1 : Int32) (a2 : Int32) (a3 : Int32) (a4 : Int32) (σ : zSg) (τ16 : zSg) (r16 : Int32) (h1 : a1.toInt ≠ 0) (h2 : a1.toInt ≠ 1) (h3 : a1.toInt ≠ 2) (h5 : a1.toInt ≠ 3) (h7 : a1.toInt ≠ 4) (h9 : a1.toInt ≠ 5) (h12 : a1.toInt ≠ 6) (h15 : a1.toInt = 7) (g16 : p_191 a0 a3 a4 σ r16 τ16) (h17 : r16.toInt ≠ (0 : Int)) :
    p_236 (a0) (a1) (a2) (a3) (a4) σ (Int32.ofInt (1)) τ16 := by
  obtain ⟨rfl, g⟩ := g16
  rintro rfl A nt F hh x K u1 u8 uo e1 hx e2 e3 hF e4 hh24
  refine ⟨rfl, ?_⟩
  subst e1 e2 e3 e4
  rw [o32 (show x.1 ≤ 1000 by omega)] at *
  have hx' : x.1 = 7 := by omega
  unfold eV
  rw [if_neg (by omega), hx']
  show _ = if btb (A (43 + 4 * F)) (Int32.ofNat hh) = true then Int32.ofInt 1 else Int32.ofInt 0
  have e := g rfl A K F rfl hF
  rw [e] at h17
  by_cases q : btb (A (43 + 4 * F)) (Int32.ofNat hh) = true
  · rw [if_pos q]
  · rw [if_neg q] at h17; exact absurd rfl h17
theorem sp_236_ed (a0 : Nat) (a1 : Int32) (a2 : Int32) (a3 : Int32) (a4 : Int32) (σ : zSg) (h1 : a1.toInt ≠ 0) (h2 : a1.toInt ≠ 1) (h3 : a1.toInt ≠ 2) (h5 : a1.toInt ≠ 3) (h7 : a1.toInt ≠ 4) (h9 : a1.toInt ≠ 5) (h12 : a1.toInt ≠ 6) (h15 : a1.toInt ≠ 7) :
    p_236 (a0) (a1) (a2) (a3) (a4) σ a2 σ := by
  rintro rfl A nt F hh x K u1 u8 uo e1 hx e2 e3 hF e4 hh24
  refine ⟨rfl, ?_⟩
  subst e1 e2 e3 e4
  rw [o32 (show x.1 ≤ 1000 by omega)] at *
  have hx' : x.1 = 8 := by omega
  unfold eV
  rw [if_pos hx']
noncomputable def qP_236 : zPp := fun as σ o σ' => match as with
  | [a0, a1, a2, a3, a4] => ∃ r, o = .inl (some (.int r)) ∧ p_236 (q_r a0) (q_i a1) (q_i a2) (q_i a3) (q_i a4) σ r σ'
  | _ => True
set_option maxRecDepth 100000 in
theorem sp_236 {sx : zX} (S233 : zEe sx 233 1 qP_233) (S234 : zEe sx 234 2 qP_234) (S235 : zEe sx 235 1 qP_235) (S191 : zEe sx 191 3 qP_191) : zEe sx 236 5 qP_236 := by
  refine zfle zJ_236 (sps := [(233, 1, qP_233), (234, 2, qP_234), (235, 1, qP_235), (191, 3, qP_191)]) (fun q hq => by
    simp only [List.mem_cons, List.not_mem_nil, or_false] at hq
    rcases hq with rfl | rfl | rfl | rfl
    · exact S233
    · exact S234
    · exact S235
    · exact S191) (fun as σ hl => ?_)
  match as, hl with
  | [a0, a1, a2, a3, a4], _ =>
  refine ⟨[], 400, ?_, ?_⟩
  · exact fun q hq => absurd hq List.not_mem_nil
  · refine And.intro (fun h1 => ?_) (fun h1 => ?_)
    · exact ⟨_, rfl, sp_236_es0_ (q_r a0) (q_i a1) (q_i a2) (q_i a3) (q_i a4) σ h1⟩
    refine And.intro (fun h2 => ?_) (fun h2 => ?_)
    · exact ⟨_, rfl, sp_236_es1_ (q_r a0) (q_i a1) (q_i a2) (q_i a3) (q_i a4) σ h1 h2⟩
    refine And.intro (fun h3 => ?_) (fun h3 => ?_)
    · refine fun h4 => ?_
      exact ⟨_, rfl, sp_236_es2_ (q_r a0) (q_i a1) (q_i a2) (q_i a3) (q_i a4) σ h1 h2 h3 (q_inp h4)⟩
    refine And.intro (fun h5 => ?_) (fun h5 => ?_)
    · refine fun h6 => ?_
      exact ⟨_, rfl, sp_236_es3_ (q_r a0) (q_i a1) (q_i a2) (q_i a3) (q_i a4) σ h1 h2 h3 h5 (q_inp h6)⟩
    refine And.intro (fun h7 => ?_) (fun h7 => ?_)
    · refine fun h8 => ?_
      exact ⟨_, rfl, sp_236_es4_ (q_r a0) (q_i a1) (q_i a2) (q_i a3) (q_i a4) σ h1 h2 h3 h5 h7 (q_inp h8)⟩
    refine And.intro (fun h9 => ?_) (fun h9 => ?_)
    · refine fun o10 τ10 g10 => ?_
      obtain ⟨r10, rfl, g10⟩ := g10
      refine fun o11 τ11 g11 => ?_
      obtain ⟨r11, rfl, g11⟩ := g11
      exact ⟨_, rfl, sp_236_es5_ (q_r a0) (q_i a1) (q_i a2) (q_i a3) (q_i a4) σ τ10 r10 τ11 r11 h1 h2 h3 h5 h7 h9 g10 g11⟩
    refine And.intro (fun h12 => ?_) (fun h12 => ?_)
    · refine fun o13 τ13 g13 => ?_
      obtain ⟨r13, rfl, g13⟩ := g13
      refine And.intro (fun h14 => ?_) (fun h14 => ?_)
      · exact ⟨_, rfl, sp_236_es6_t (q_r a0) (q_i a1) (q_i a2) (q_i a3) (q_i a4) σ τ13 r13 h1 h2 h3 h5 h7 h9 h12 g13 (cm0t h14)⟩
      · exact ⟨_, rfl, sp_236_es6_f (q_r a0) (q_i a1) (q_i a2) (q_i a3) (q_i a4) σ τ13 r13 h1 h2 h3 h5 h7 h9 h12 g13 (cm0f h14)⟩
    refine And.intro (fun h15 => ?_) (fun h15 => ?_)
    · refine fun o16 τ16 g16 => ?_
      obtain ⟨r16, rfl, g16⟩ := g16
      refine And.intro (fun h17 => ?_) (fun h17 => ?_)
      · exact ⟨_, rfl, sp_236_es7_t (q_r a0) (q_i a1) (q_i a2) (q_i a3) (q_i a4) σ τ16 r16 h1 h2 h3 h5 h7 h9 h12 h15 g16 (cm0t h17)⟩
      · exact ⟨_, rfl, sp_236_es7_f (q_r a0) (q_i a1) (q_i a2) (q_i a3) (q_i a4) σ τ16 r16 h1 h2 h3 h5 h7 h9 h12 h15 g16 (cm0f h17)⟩
    exact ⟨_, rfl, sp_236_ed (q_r a0) (q_i a1) (q_i a2) (q_i a3) (q_i a4) σ h1 h2 h3 h5 h7 h9 h12 h15⟩
noncomputable def p_237 (a : Nat) (n f h : Int32) (σ : zSg) (r : Int32) (σ' : zSg) : Prop := a = 205 → ∀ A nt L ls l F hh N x, rEv σ A nt (some (L, ls, l)) → n = Int32.ofNat N → ls[N]? = some x → f = Int32.ofNat F → F < 6 → h = Int32.ofNat hh → hh < 24 → rVF σ σ' ∧ r = if eH l (eFa A nt F hh) x = true then Int32.ofInt 1 else Int32.ofInt 0
noncomputable def i_237 (a : Nat) (n f h : Int32) (σ : zSg) (l0 : Nat) (l2 l3 l4 l5 l6 : Int32) (τ : zSg) : Prop := l0 = a ∧ l2 = f ∧ l3 = h ∧ (a = 205 → ∀ A nt L ls l F hh N x, rEv σ A nt (some (L, ls, l)) → n = Int32.ofNat N → ls[N]? = some x → f = Int32.ofNat F → F < 6 → h = Int32.ofNat hh → hh < 24 → rVF σ τ ∧ l5 = Int32.ofNat (389 + 4 * N) ∧ ∃ i v sb sr, x.2.2.1 ≤ i ∧ i ≤ x.2.2.2 ∧ l4 = Int32.ofNat (List.length v) ∧ l6 = Int32.ofNat i ∧ v.length ≤ 32 ∧ eA τ 213 v ∧ eK sb v ∧ eTn l (x.2.2.2 - i) i sb = some sr ∧ (eTn l (x.2.2.2 - x.2.2.1) x.2.2.1 [] = some sr ∧ (x.2.2.1 = x.2.2.2 ∨ sr = [true])) ∧ eRn (eFa A nt F hh) l (x.2.2.2 - i) i v = eRn (eFa A nt F hh) l (x.2.2.2 - x.2.2.1) x.2.2.1 [])
theorem sp_237_e (a0 : Nat) (a1 : Int32) (a2 : Int32) (a3 : Int32) (σ : zSg) (h1 : 0 ≤ (((Int32.ofInt (389)) + ((Int32.ofInt (4)) * a1)) + (Int32.ofInt (2))).toInt ∧ (((Int32.ofInt (389)) + ((Int32.ofInt (4)) * a1)) + (Int32.ofInt (2))).toInt < (σ.2.1 (q_r (σ.1 a0 1)) : Int)) :
    i_237 a0 a1 a2 a3 σ a0 a2 a3 (Int32.ofInt (0)) ((Int32.ofInt (389)) + ((Int32.ofInt (4)) * a1)) (q_i (σ.1 (q_r (σ.1 a0 1)) (((Int32.ofInt (389)) + ((Int32.ofInt (4)) * a1)) + (Int32.ofInt (2))).toNatClampNeg)) σ := by
  refine ⟨rfl, rfl, rfl, ?_⟩
  intro ea A nt L ls l F hh N x K en hx ef hF eh hhh
  subst ea en ef eh
  have W := K.2.2.2.2.2.2.2
  have hN : N < 12 := by have := (List.getElem?_eq_some_iff.mp hx).1; have := W.1; omega
  obtain ⟨b1, b2, b3, b4⟩ := K.2.2.2.2.2.2.1.2.1 N x hx
  obtain ⟨w1, w2, w3, w4, w5, w6⟩ := W.2.2.2 N x hx
  have kw := K.1.q
  have v391 : q_i (σ.1 206 (391 + 4 * N)) = Int32.ofNat x.2.2.1 := by rw [b3]; rfl
  have ty : ∃ sr, eTn l (x.2.2.2 - x.2.2.1) x.2.2.1 [] = some sr ∧ (x.2.2.1 = x.2.2.2 ∨ sr = [true]) := by
    rcases w6 with w6 | w6
    · exact ⟨[], by rw [w6, Nat.sub_self]; rfl, Or.inl w6⟩
    · exact ⟨_, w6, Or.inr rfl⟩
  obtain ⟨sr, ty1, ty2⟩ := ty
  simp only [ix389, kw, ix391n (i := N) (by omega), v391]
  exact ⟨rVF.rf, trivial, x.2.2.1, [], [], sr, Nat.le_refl _, w4, rfl, rfl, Nat.zero_le _, trivial, trivial, ty1, ⟨ty1, ty2⟩, rfl⟩
theorem sp_237_c15_tt (a0 : Nat) (a1 : Int32) (a2 : Int32) (a3 : Int32) (σ : zSg) (l0 : Nat) (l2 : Int32) (l3 : Int32) (l4 : Int32) (l5 : Int32) (l6 : Int32) (τ : zSg) (hI : i_237 a0 a1 a2 a3 σ l0 l2 l3 l4 l5 l6 τ) (h2 : 0 ≤ (l5 + (Int32.ofInt (3))).toInt ∧ (l5 + (Int32.ofInt (3))).toInt < (τ.2.1 (q_r (τ.1 l0 1)) : Int)) (h3 : l6.toInt ≥ (q_i (τ.1 (q_r (τ.1 l0 1)) (l5 + (Int32.ofInt (3))).toNatClampNeg)).toInt) (h4 : l4.toInt = (0 : Int)) :
    p_237 (a0) (a1) (a2) (a3) σ (Int32.ofInt (1)) τ := by
  obtain ⟨rfl, rfl, rfl, hI⟩ := hI
  intro ea A nt L ls l F hh N x K en hx ef hF eh hhh
  obtain ⟨fr, e5, i, v, sb, sr, hFi, hiT, e4, e6, hv, hA, hK, ht, hsr, hr⟩ := hI ea A nt L ls l F hh N x K en hx ef hF eh hhh
  subst ea en ef eh e4 e5 e6
  have K1 := K.fr fr
  have W := K1.2.2.2.2.2.2.2
  have hN : N < 12 := by have := (List.getElem?_eq_some_iff.mp hx).1; have := W.1; omega
  obtain ⟨b1, b2, b3, b4⟩ := K1.2.2.2.2.2.2.1.2.1 N x hx
  obtain ⟨w1, w2, w3, w4, w5, w6⟩ := W.2.2.2 N x hx
  have L4 := W.2.1
  have ks : q_r (τ.1 205 17) = 213 := by rw [K1.2.1]; rfl
  have kw := K1.1.q
  have n392 := ix392n (i := N) (by omega)
  have v392 : q_i (τ.1 206 (392 + 4 * N)) = Int32.ofNat x.2.2.2 := by rw [b4]; rfl
  have hl := hK.len
  simp only [kw, n392, v392] at h3
  rw [o32 (by omega), o32 (by omega)] at h3
  have hi : i = x.2.2.2 := by omega
  subst hi
  rw [Nat.sub_self] at ht hr
  have hr : v = eRn (eFa A nt F hh) l (x.2.2.2 - x.2.2.1) x.2.2.1 [] := hr
  have ht : sb = sr := Option.some.inj ht
  refine ⟨fr, ?_⟩
  have hz : v.length = 0 := by rw [o32 (by omega)] at h4; omega
  have hq : x.2.2.1 = x.2.2.2 := by
    refine Decidable.byContradiction fun hne => ?_
    have h1 := ht.trans (hsr.2.resolve_left hne)
    rw [h1] at hl
    simp only [List.length_cons, List.length_nil] at hl
    omega
  unfold eH
  rw [decide_eq_true hq, Bool.true_or, if_pos rfl]
theorem sp_237_c15_tft (a0 : Nat) (a1 : Int32) (a2 : Int32) (a3 : Int32) (σ : zSg) (l0 : Nat) (l2 : Int32) (l3 : Int32) (l4 : Int32) (l5 : Int32) (l6 : Int32) (τ : zSg) (hI : i_237 a0 a1 a2 a3 σ l0 l2 l3 l4 l5 l6 τ) (h2 : 0 ≤ (l5 + (Int32.ofInt (3))).toInt ∧ (l5 + (Int32.ofInt (3))).toInt < (τ.2.1 (q_r (τ.1 l0 1)) : Int)) (h3 : l6.toInt ≥ (q_i (τ.1 (q_r (τ.1 l0 1)) (l5 + (Int32.ofInt (3))).toNatClampNeg)).toInt) (h4 : l4.toInt ≠ (0 : Int)) (h5 : 0 ≤ (Int32.ofInt (0)).toInt ∧ (Int32.ofInt (0)).toInt < (τ.2.1 (q_r (τ.1 l0 17)) : Int)) (h6 : (q_i (τ.1 (q_r (τ.1 l0 17)) (Int32.ofInt (0)).toNatClampNeg)).toInt ≠ (1 : Int)) :
    p_237 (a0) (a1) (a2) (a3) σ (Int32.ofInt (0)) τ := by
  obtain ⟨rfl, rfl, rfl, hI⟩ := hI
  intro ea A nt L ls l F hh N x K en hx ef hF eh hhh
  obtain ⟨fr, e5, i, v, sb, sr, hFi, hiT, e4, e6, hv, hA, hK, ht, hsr, hr⟩ := hI ea A nt L ls l F hh N x K en hx ef hF eh hhh
  subst ea en ef eh e4 e5 e6
  have K1 := K.fr fr
  have W := K1.2.2.2.2.2.2.2
  have hN : N < 12 := by have := (List.getElem?_eq_some_iff.mp hx).1; have := W.1; omega
  obtain ⟨b1, b2, b3, b4⟩ := K1.2.2.2.2.2.2.1.2.1 N x hx
  obtain ⟨w1, w2, w3, w4, w5, w6⟩ := W.2.2.2 N x hx
  have L4 := W.2.1
  have ks : q_r (τ.1 205 17) = 213 := by rw [K1.2.1]; rfl
  have kw := K1.1.q
  have n392 := ix392n (i := N) (by omega)
  have v392 : q_i (τ.1 206 (392 + 4 * N)) = Int32.ofNat x.2.2.2 := by rw [b4]; rfl
  have hl := hK.len
  simp only [kw, n392, v392] at h3
  rw [o32 (by omega), o32 (by omega)] at h3
  have hi : i = x.2.2.2 := by omega
  subst hi
  rw [Nat.sub_self] at ht hr
  have hr : v = eRn (eFa A nt F hh) l (x.2.2.2 - x.2.2.1) x.2.2.1 [] := hr
  have ht : sb = sr := Option.some.inj ht
  refine ⟨fr, ?_⟩
  match v, hK, hA, hr, hl, h4 with
  | [], hK, hA, hr, hl, h4 => exact absurd rfl h4
  | a :: v0, hK, hA, hr, hl, _ =>
  have hne : x.2.2.1 ≠ x.2.2.2 := fun q => by
    have : eTn l (x.2.2.2 - x.2.2.1) x.2.2.1 [] = some [] := by rw [q, Nat.sub_self]; rfl
    rw [this] at hsr
    cases hsr.1
    rw [ht] at hl
    simp only [List.length_cons, List.length_nil] at hl
    omega
  have h1 : sb = [true] := ht.trans (hsr.2.resolve_left hne)
  subst h1
  have hl0 : v0 = [] := by
    cases v0 with
    | nil => rfl
    | cons _ _ => simp only [List.length_cons, List.length_nil] at hl; omega
  subst hl0
  have v0 : q_i (τ.1 213 0) = a := by rw [show τ.1 213 0 = .int a from hA.1]; rfl
  simp only [ks, kz0, v0] at h6
  unfold eH
  rw [← hr, decide_eq_false hne, Bool.false_or]
  rw [if_neg]
  intro q
  have q := of_decide_eq_true q
  have q : a = Int32.ofInt 1 := q
  rw [q] at h6
  exact absurd rfl h6
theorem sp_237_c15_tff (a0 : Nat) (a1 : Int32) (a2 : Int32) (a3 : Int32) (σ : zSg) (l0 : Nat) (l2 : Int32) (l3 : Int32) (l4 : Int32) (l5 : Int32) (l6 : Int32) (τ : zSg) (hI : i_237 a0 a1 a2 a3 σ l0 l2 l3 l4 l5 l6 τ) (h2 : 0 ≤ (l5 + (Int32.ofInt (3))).toInt ∧ (l5 + (Int32.ofInt (3))).toInt < (τ.2.1 (q_r (τ.1 l0 1)) : Int)) (h3 : l6.toInt ≥ (q_i (τ.1 (q_r (τ.1 l0 1)) (l5 + (Int32.ofInt (3))).toNatClampNeg)).toInt) (h4 : l4.toInt ≠ (0 : Int)) (h5 : 0 ≤ (Int32.ofInt (0)).toInt ∧ (Int32.ofInt (0)).toInt < (τ.2.1 (q_r (τ.1 l0 17)) : Int)) (h6 : (q_i (τ.1 (q_r (τ.1 l0 17)) (Int32.ofInt (0)).toNatClampNeg)).toInt = (1 : Int)) :
    p_237 (a0) (a1) (a2) (a3) σ (Int32.ofInt (1)) τ := by
  obtain ⟨rfl, rfl, rfl, hI⟩ := hI
  intro ea A nt L ls l F hh N x K en hx ef hF eh hhh
  obtain ⟨fr, e5, i, v, sb, sr, hFi, hiT, e4, e6, hv, hA, hK, ht, hsr, hr⟩ := hI ea A nt L ls l F hh N x K en hx ef hF eh hhh
  subst ea en ef eh e4 e5 e6
  have K1 := K.fr fr
  have W := K1.2.2.2.2.2.2.2
  have hN : N < 12 := by have := (List.getElem?_eq_some_iff.mp hx).1; have := W.1; omega
  obtain ⟨b1, b2, b3, b4⟩ := K1.2.2.2.2.2.2.1.2.1 N x hx
  obtain ⟨w1, w2, w3, w4, w5, w6⟩ := W.2.2.2 N x hx
  have L4 := W.2.1
  have ks : q_r (τ.1 205 17) = 213 := by rw [K1.2.1]; rfl
  have kw := K1.1.q
  have n392 := ix392n (i := N) (by omega)
  have v392 : q_i (τ.1 206 (392 + 4 * N)) = Int32.ofNat x.2.2.2 := by rw [b4]; rfl
  have hl := hK.len
  simp only [kw, n392, v392] at h3
  rw [o32 (by omega), o32 (by omega)] at h3
  have hi : i = x.2.2.2 := by omega
  subst hi
  rw [Nat.sub_self] at ht hr
  have hr : v = eRn (eFa A nt F hh) l (x.2.2.2 - x.2.2.1) x.2.2.1 [] := hr
  have ht : sb = sr := Option.some.inj ht
  refine ⟨fr, ?_⟩
  match v, hK, hA, hr, hl, h4 with
  | [], hK, hA, hr, hl, h4 => exact absurd rfl h4
  | a :: v0, hK, hA, hr, hl, _ =>
  have hne : x.2.2.1 ≠ x.2.2.2 := fun q => by
    have : eTn l (x.2.2.2 - x.2.2.1) x.2.2.1 [] = some [] := by rw [q, Nat.sub_self]; rfl
    rw [this] at hsr
    cases hsr.1
    rw [ht] at hl
    simp only [List.length_cons, List.length_nil] at hl
    omega
  have h1 : sb = [true] := ht.trans (hsr.2.resolve_left hne)
  subst h1
  have hl0 : v0 = [] := by
    cases v0 with
    | nil => rfl
    | cons _ _ => simp only [List.length_cons, List.length_nil] at hl; omega
  subst hl0
  have v0 : q_i (τ.1 213 0) = a := by rw [show τ.1 213 0 = .int a from hA.1]; rfl
  simp only [ks, kz0, v0] at h6
  unfold eH
  rw [← hr, decide_eq_false hne, Bool.false_or]
  rw [if_pos]
  exact decide_eq_true (show a = Int32.ofInt 1 from Int32.toInt_inj.mp h6)
theorem sp_237_c15_fttttttt (a0 : Nat) (a1 : Int32) (a2 : Int32) (a3 : Int32) (σ : zSg) (l0 : Nat) (l2 : Int32) (l3 : Int32) (l4 : Int32) (l5 : Int32) (l6 : Int32) (τ : zSg) (hI : i_237 a0 a1 a2 a3 σ l0 l2 l3 l4 l5 l6 τ) (h2 : 0 ≤ (l5 + (Int32.ofInt (3))).toInt ∧ (l5 + (Int32.ofInt (3))).toInt < (τ.2.1 (q_r (τ.1 l0 1)) : Int)) (h3 : l6.toInt < (q_i (τ.1 (q_r (τ.1 l0 1)) (l5 + (Int32.ofInt (3))).toNatClampNeg)).toInt) (h7 : 0 ≤ ((Int32.ofInt (437)) + ((Int32.ofInt (2)) * l6)).toInt ∧ ((Int32.ofInt (437)) + ((Int32.ofInt (2)) * l6)).toInt < (τ.2.1 (q_r (τ.1 l0 1)) : Int)) (h8 : (q_i (τ.1 (q_r (τ.1 l0 1)) ((Int32.ofInt (437)) + ((Int32.ofInt (2)) * l6)).toNatClampNeg)).toInt > (8 : Int)) (h9 : (q_i (τ.1 (q_r (τ.1 l0 1)) ((Int32.ofInt (437)) + ((Int32.ofInt (2)) * l6)).toNatClampNeg)).toInt ≠ (12 : Int)) (h10 : 0 ≤ ((l4 + Int32.ofInt (-1)) - (Int32.ofInt (1))).toInt ∧ ((l4 + Int32.ofInt (-1)) - (Int32.ofInt (1))).toInt < (τ.2.1 (q_r (τ.1 l0 17)) : Int)) (h11 : 0 ≤ (l4 + Int32.ofInt (-1)).toInt ∧ (l4 + Int32.ofInt (-1)).toInt < (τ.2.1 (q_r (τ.1 l0 17)) : Int)) (h12 : (q_i (τ.1 (q_r (τ.1 l0 1)) ((Int32.ofInt (437)) + ((Int32.ofInt (2)) * l6)).toNatClampNeg)).toInt ≠ (10 : Int)) (h13 : (q_i (τ.1 (q_r (τ.1 l0 1)) ((Int32.ofInt (437)) + ((Int32.ofInt (2)) * l6)).toNatClampNeg)).toInt ≠ (11 : Int)) (h14 : (q_i (τ.1 (q_r (τ.1 l0 1)) ((Int32.ofInt (437)) + ((Int32.ofInt (2)) * l6)).toNatClampNeg)).toInt ≠ (13 : Int)) (h15 : ((q_i (τ.1 (q_r (τ.1 l0 17)) ((l4 + Int32.ofInt (-1)) - (Int32.ofInt (1))).toNatClampNeg)) + (q_i (τ.1 (q_r (τ.1 l0 17)) (l4 + Int32.ofInt (-1)).toNatClampNeg))).toInt ≤ (0 : Int)) (h16 : (q_i (τ.1 (q_r (τ.1 l0 1)) ((Int32.ofInt (437)) + ((Int32.ofInt (2)) * l6)).toNatClampNeg)).toInt ≠ (9 : Int)) (h18 : 0 ≤ ((l4 + Int32.ofInt (-1)) - (Int32.ofInt (1))).toInt ∧ ((l4 + Int32.ofInt (-1)) - (Int32.ofInt (1))).toInt < (τ.2.1 (q_r (τ.1 l0 17)) : Int)) :
    i_237 a0 a1 a2 a3 σ l0 l2 l3 (l4 + Int32.ofInt (-1)) l5 (l6 + Int32.ofInt (1)) (q_w τ (q_r (τ.1 l0 17)) ((l4 + Int32.ofInt (-1)) - (Int32.ofInt (1))).toNatClampNeg (.int (Int32.ofInt (0)))) := by
  obtain ⟨rfl, rfl, rfl, hI⟩ := hI
  refine ⟨rfl, rfl, rfl, ?_⟩
  intro ea A nt L ls l F hh N x K en hx ef hF eh hhh
  obtain ⟨fr, e5, i, v, sb, sr, hFi, hiT, e4, e6, hv, hA, hK, ht, hsr, hr⟩ := hI ea A nt L ls l F hh N x K en hx ef hF eh hhh
  subst ea en ef eh e4 e5 e6
  have K1 := K.fr fr
  have W := K1.2.2.2.2.2.2.2
  have hN : N < 12 := by have := (List.getElem?_eq_some_iff.mp hx).1; have := W.1; omega
  obtain ⟨b1, b2, b3, b4⟩ := K1.2.2.2.2.2.2.1.2.1 N x hx
  obtain ⟨w1, w2, w3, w4, w5, w6⟩ := W.2.2.2 N x hx
  have L4 := W.2.1
  have ks : q_r (τ.1 205 17) = 213 := by rw [K1.2.1]; rfl
  have kw := K1.1.q
  have n392 := ix392n (i := N) (by omega)
  have v392 : q_i (τ.1 206 (392 + 4 * N)) = Int32.ofNat x.2.2.2 := by rw [b4]; rfl
  have hl := hK.len
  simp only [kw, n392, v392] at h3
  rw [o32 (by omega), o32 (by omega)] at h3
  obtain ⟨y, s', hy, hs, ht'⟩ := eTn_st (n := x.2.2.2 - (i + 1)) (i := i) (s := sb) (r := sr) (by rw [show x.2.2.2 - (i + 1) + 1 = x.2.2.2 - i by omega]; exact ht)
  have hr' : eRn (eFa A nt F hh) l (x.2.2.2 - (i + 1)) (i + 1) (eS (eFa A nt F hh) y v) = eRn (eFa A nt F hh) l (x.2.2.2 - x.2.2.1) x.2.2.1 [] := by
    rw [← hr, show x.2.2.2 - i = x.2.2.2 - (i + 1) + 1 by omega, eRn_st hy]
  obtain ⟨y1, y2⟩ := K1.2.2.2.2.2.2.1.2.2 i y hy
  have y1 : q_i (τ.1 206 (437 + 2 * i)) = Int32.ofNat y.1 := by rw [y1]; rfl
  have y2 : q_i (τ.1 206 (438 + 2 * i)) = Int32.ofNat y.2 := by rw [y2]; rfl
  have n437 := ix437 (i := i) (by omega)
  have n438 := ix438 (i := i) (by omega)
  have q14 := eT_lt hs
  have o14 : (Int32.ofNat y.1).toInt = (y.1 : Int) := o32 (by omega)
  have hK' := hK.step (eFa_F (H := A) (nt := nt) (F := F) (n := hh)) hs
  simp only [kw, n437, y1, o14] at h8 h9
  have q8 : ¬ y.1 ≤ 8 := by omega
  have q12 : y.1 ≠ 12 := by omega
  obtain ⟨q, hq⟩ := eT_join q8 q12 hs
  have hl2 : 2 ≤ v.length := by
    rcases hq with ⟨-, g, -⟩ | ⟨-, g, -⟩ | ⟨-, g, -⟩ <;> rw [g] at hl <;> simp only [List.length_cons] at hl <;> omega
  obtain ⟨a, b, v0, rfl⟩ := two_of hl2
  have hv : v0.length + 1 + 1 ≤ 32 := hv
  have n0 : Int32.ofNat (a :: b :: v0).length + Int32.ofInt (-1) = Int32.ofNat (v0.length + 1) := o32d (n := v0.length + 1) (by omega)
  have n1 : Int32.ofNat (v0.length + 1) - Int32.ofInt 1 = Int32.ofNat v0.length := o32s (by omega)
  have n2 : (Int32.ofNat v0.length).toNatClampNeg = v0.length := o32n (by omega)
  have n3 : (Int32.ofNat (v0.length + 1)).toNatClampNeg = v0.length + 1 := o32n (by omega)
  have va : q_i (τ.1 213 (v0.length + 1)) = a := by rw [show τ.1 213 (v0.length + 1) = .int a from hA.1]; rfl
  have vb : q_i (τ.1 213 v0.length) = b := by rw [hA.2.1]; rfl
  have eS1 : eS (eFa A nt F hh) y (a :: b :: v0) = eJ y.1 b a :: v0 := by
    show (if y.1 ≤ 8 then _ else if y.1 = 12 then _ else _) = _
    rw [if_neg q8, if_neg q12]
  rw [eS1] at hK' hr'
  simp only [kw, ks, n437, y1, o14, n0, n1, n2, n3, va, vb] at h12 h13 h14 h15 h16
  simp only [ks, kw, n437, y1, n0, n1, n2, n3, va, vb]
  have hk : y.1 = 14 := by omega
  have ej : Int32.ofInt 0 = eJ y.1 b a := by
    unfold eJ
    rw [hk]
    rw [if_neg (by decide), if_neg (by decide), if_neg (by decide), if_neg (by decide)]
    have ty : (a = Int32.ofInt 0 ∨ a = Int32.ofInt 1) ∧ (b = Int32.ofInt 0 ∨ b = Int32.ofInt 1) := by
      rcases hq with ⟨c, -, -⟩ | ⟨c, -, -⟩ | ⟨-, g, -⟩
      · omega
      · omega
      · subst g
        exact ⟨hK.1 rfl, hK.2.1 rfl⟩
    obtain ⟨ta, tb⟩ := ty
    rcases ta with rfl | rfl <;> rcases tb with rfl | rfl <;> first | decide | exact absurd h15 (by decide)
  exact ⟨fr.w, (by trivial), i + 1, eJ y.1 b a :: v0, s', sr, by omega, by omega, rfl, o32i (by omega), (by show v0.length + 1 ≤ 32; omega), ⟨(q_w_at _ _ _ _).trans (congrArg Value.int ej), eA.w hA.2.2 (Nat.le_refl _)⟩, hK', ht', hsr, hr'⟩
theorem sp_237_c15_fttttttf (a0 : Nat) (a1 : Int32) (a2 : Int32) (a3 : Int32) (σ : zSg) (l0 : Nat) (l2 : Int32) (l3 : Int32) (l4 : Int32) (l5 : Int32) (l6 : Int32) (τ : zSg) (hI : i_237 a0 a1 a2 a3 σ l0 l2 l3 l4 l5 l6 τ) (h2 : 0 ≤ (l5 + (Int32.ofInt (3))).toInt ∧ (l5 + (Int32.ofInt (3))).toInt < (τ.2.1 (q_r (τ.1 l0 1)) : Int)) (h3 : l6.toInt < (q_i (τ.1 (q_r (τ.1 l0 1)) (l5 + (Int32.ofInt (3))).toNatClampNeg)).toInt) (h7 : 0 ≤ ((Int32.ofInt (437)) + ((Int32.ofInt (2)) * l6)).toInt ∧ ((Int32.ofInt (437)) + ((Int32.ofInt (2)) * l6)).toInt < (τ.2.1 (q_r (τ.1 l0 1)) : Int)) (h8 : (q_i (τ.1 (q_r (τ.1 l0 1)) ((Int32.ofInt (437)) + ((Int32.ofInt (2)) * l6)).toNatClampNeg)).toInt > (8 : Int)) (h9 : (q_i (τ.1 (q_r (τ.1 l0 1)) ((Int32.ofInt (437)) + ((Int32.ofInt (2)) * l6)).toNatClampNeg)).toInt ≠ (12 : Int)) (h10 : 0 ≤ ((l4 + Int32.ofInt (-1)) - (Int32.ofInt (1))).toInt ∧ ((l4 + Int32.ofInt (-1)) - (Int32.ofInt (1))).toInt < (τ.2.1 (q_r (τ.1 l0 17)) : Int)) (h11 : 0 ≤ (l4 + Int32.ofInt (-1)).toInt ∧ (l4 + Int32.ofInt (-1)).toInt < (τ.2.1 (q_r (τ.1 l0 17)) : Int)) (h12 : (q_i (τ.1 (q_r (τ.1 l0 1)) ((Int32.ofInt (437)) + ((Int32.ofInt (2)) * l6)).toNatClampNeg)).toInt ≠ (10 : Int)) (h13 : (q_i (τ.1 (q_r (τ.1 l0 1)) ((Int32.ofInt (437)) + ((Int32.ofInt (2)) * l6)).toNatClampNeg)).toInt ≠ (11 : Int)) (h14 : (q_i (τ.1 (q_r (τ.1 l0 1)) ((Int32.ofInt (437)) + ((Int32.ofInt (2)) * l6)).toNatClampNeg)).toInt ≠ (13 : Int)) (h15 : ((q_i (τ.1 (q_r (τ.1 l0 17)) ((l4 + Int32.ofInt (-1)) - (Int32.ofInt (1))).toNatClampNeg)) + (q_i (τ.1 (q_r (τ.1 l0 17)) (l4 + Int32.ofInt (-1)).toNatClampNeg))).toInt ≤ (0 : Int)) (h16 : (q_i (τ.1 (q_r (τ.1 l0 1)) ((Int32.ofInt (437)) + ((Int32.ofInt (2)) * l6)).toNatClampNeg)).toInt = (9 : Int)) (h19 : 0 ≤ ((l4 + Int32.ofInt (-1)) - (Int32.ofInt (1))).toInt ∧ ((l4 + Int32.ofInt (-1)) - (Int32.ofInt (1))).toInt < (τ.2.1 (q_r (τ.1 l0 17)) : Int)) :
    i_237 a0 a1 a2 a3 σ l0 l2 l3 (l4 + Int32.ofInt (-1)) l5 (l6 + Int32.ofInt (1)) (q_w τ (q_r (τ.1 l0 17)) ((l4 + Int32.ofInt (-1)) - (Int32.ofInt (1))).toNatClampNeg (.int ((q_i (τ.1 (q_r (τ.1 l0 17)) ((l4 + Int32.ofInt (-1)) - (Int32.ofInt (1))).toNatClampNeg)) + (q_i (τ.1 (q_r (τ.1 l0 17)) (l4 + Int32.ofInt (-1)).toNatClampNeg))))) := by
  obtain ⟨rfl, rfl, rfl, hI⟩ := hI
  refine ⟨rfl, rfl, rfl, ?_⟩
  intro ea A nt L ls l F hh N x K en hx ef hF eh hhh
  obtain ⟨fr, e5, i, v, sb, sr, hFi, hiT, e4, e6, hv, hA, hK, ht, hsr, hr⟩ := hI ea A nt L ls l F hh N x K en hx ef hF eh hhh
  subst ea en ef eh e4 e5 e6
  have K1 := K.fr fr
  have W := K1.2.2.2.2.2.2.2
  have hN : N < 12 := by have := (List.getElem?_eq_some_iff.mp hx).1; have := W.1; omega
  obtain ⟨b1, b2, b3, b4⟩ := K1.2.2.2.2.2.2.1.2.1 N x hx
  obtain ⟨w1, w2, w3, w4, w5, w6⟩ := W.2.2.2 N x hx
  have L4 := W.2.1
  have ks : q_r (τ.1 205 17) = 213 := by rw [K1.2.1]; rfl
  have kw := K1.1.q
  have n392 := ix392n (i := N) (by omega)
  have v392 : q_i (τ.1 206 (392 + 4 * N)) = Int32.ofNat x.2.2.2 := by rw [b4]; rfl
  have hl := hK.len
  simp only [kw, n392, v392] at h3
  rw [o32 (by omega), o32 (by omega)] at h3
  obtain ⟨y, s', hy, hs, ht'⟩ := eTn_st (n := x.2.2.2 - (i + 1)) (i := i) (s := sb) (r := sr) (by rw [show x.2.2.2 - (i + 1) + 1 = x.2.2.2 - i by omega]; exact ht)
  have hr' : eRn (eFa A nt F hh) l (x.2.2.2 - (i + 1)) (i + 1) (eS (eFa A nt F hh) y v) = eRn (eFa A nt F hh) l (x.2.2.2 - x.2.2.1) x.2.2.1 [] := by
    rw [← hr, show x.2.2.2 - i = x.2.2.2 - (i + 1) + 1 by omega, eRn_st hy]
  obtain ⟨y1, y2⟩ := K1.2.2.2.2.2.2.1.2.2 i y hy
  have y1 : q_i (τ.1 206 (437 + 2 * i)) = Int32.ofNat y.1 := by rw [y1]; rfl
  have y2 : q_i (τ.1 206 (438 + 2 * i)) = Int32.ofNat y.2 := by rw [y2]; rfl
  have n437 := ix437 (i := i) (by omega)
  have n438 := ix438 (i := i) (by omega)
  have q14 := eT_lt hs
  have o14 : (Int32.ofNat y.1).toInt = (y.1 : Int) := o32 (by omega)
  have hK' := hK.step (eFa_F (H := A) (nt := nt) (F := F) (n := hh)) hs
  simp only [kw, n437, y1, o14] at h8 h9
  have q8 : ¬ y.1 ≤ 8 := by omega
  have q12 : y.1 ≠ 12 := by omega
  obtain ⟨q, hq⟩ := eT_join q8 q12 hs
  have hl2 : 2 ≤ v.length := by
    rcases hq with ⟨-, g, -⟩ | ⟨-, g, -⟩ | ⟨-, g, -⟩ <;> rw [g] at hl <;> simp only [List.length_cons] at hl <;> omega
  obtain ⟨a, b, v0, rfl⟩ := two_of hl2
  have hv : v0.length + 1 + 1 ≤ 32 := hv
  have n0 : Int32.ofNat (a :: b :: v0).length + Int32.ofInt (-1) = Int32.ofNat (v0.length + 1) := o32d (n := v0.length + 1) (by omega)
  have n1 : Int32.ofNat (v0.length + 1) - Int32.ofInt 1 = Int32.ofNat v0.length := o32s (by omega)
  have n2 : (Int32.ofNat v0.length).toNatClampNeg = v0.length := o32n (by omega)
  have n3 : (Int32.ofNat (v0.length + 1)).toNatClampNeg = v0.length + 1 := o32n (by omega)
  have va : q_i (τ.1 213 (v0.length + 1)) = a := by rw [show τ.1 213 (v0.length + 1) = .int a from hA.1]; rfl
  have vb : q_i (τ.1 213 v0.length) = b := by rw [hA.2.1]; rfl
  have eS1 : eS (eFa A nt F hh) y (a :: b :: v0) = eJ y.1 b a :: v0 := by
    show (if y.1 ≤ 8 then _ else if y.1 = 12 then _ else _) = _
    rw [if_neg q8, if_neg q12]
  rw [eS1] at hK' hr'
  simp only [kw, ks, n437, y1, o14, n0, n1, n2, n3, va, vb] at h12 h13 h14 h15 h16
  simp only [ks, kw, n437, y1, n0, n1, n2, n3, va, vb]
  have hk : y.1 = 9 := by omega
  have ej : b + a = eJ y.1 b a := by
    unfold eJ
    rw [hk]
    rw [if_pos rfl]
  exact ⟨fr.w, (by trivial), i + 1, eJ y.1 b a :: v0, s', sr, by omega, by omega, rfl, o32i (by omega), (by show v0.length + 1 ≤ 32; omega), ⟨(q_w_at _ _ _ _).trans (congrArg Value.int ej), eA.w hA.2.2 (Nat.le_refl _)⟩, hK', ht', hsr, hr'⟩
theorem sp_237_c15_ftttttft (a0 : Nat) (a1 : Int32) (a2 : Int32) (a3 : Int32) (σ : zSg) (l0 : Nat) (l2 : Int32) (l3 : Int32) (l4 : Int32) (l5 : Int32) (l6 : Int32) (τ : zSg) (hI : i_237 a0 a1 a2 a3 σ l0 l2 l3 l4 l5 l6 τ) (h2 : 0 ≤ (l5 + (Int32.ofInt (3))).toInt ∧ (l5 + (Int32.ofInt (3))).toInt < (τ.2.1 (q_r (τ.1 l0 1)) : Int)) (h3 : l6.toInt < (q_i (τ.1 (q_r (τ.1 l0 1)) (l5 + (Int32.ofInt (3))).toNatClampNeg)).toInt) (h7 : 0 ≤ ((Int32.ofInt (437)) + ((Int32.ofInt (2)) * l6)).toInt ∧ ((Int32.ofInt (437)) + ((Int32.ofInt (2)) * l6)).toInt < (τ.2.1 (q_r (τ.1 l0 1)) : Int)) (h8 : (q_i (τ.1 (q_r (τ.1 l0 1)) ((Int32.ofInt (437)) + ((Int32.ofInt (2)) * l6)).toNatClampNeg)).toInt > (8 : Int)) (h9 : (q_i (τ.1 (q_r (τ.1 l0 1)) ((Int32.ofInt (437)) + ((Int32.ofInt (2)) * l6)).toNatClampNeg)).toInt ≠ (12 : Int)) (h10 : 0 ≤ ((l4 + Int32.ofInt (-1)) - (Int32.ofInt (1))).toInt ∧ ((l4 + Int32.ofInt (-1)) - (Int32.ofInt (1))).toInt < (τ.2.1 (q_r (τ.1 l0 17)) : Int)) (h11 : 0 ≤ (l4 + Int32.ofInt (-1)).toInt ∧ (l4 + Int32.ofInt (-1)).toInt < (τ.2.1 (q_r (τ.1 l0 17)) : Int)) (h12 : (q_i (τ.1 (q_r (τ.1 l0 1)) ((Int32.ofInt (437)) + ((Int32.ofInt (2)) * l6)).toNatClampNeg)).toInt ≠ (10 : Int)) (h13 : (q_i (τ.1 (q_r (τ.1 l0 1)) ((Int32.ofInt (437)) + ((Int32.ofInt (2)) * l6)).toNatClampNeg)).toInt ≠ (11 : Int)) (h14 : (q_i (τ.1 (q_r (τ.1 l0 1)) ((Int32.ofInt (437)) + ((Int32.ofInt (2)) * l6)).toNatClampNeg)).toInt ≠ (13 : Int)) (h15 : ((q_i (τ.1 (q_r (τ.1 l0 17)) ((l4 + Int32.ofInt (-1)) - (Int32.ofInt (1))).toNatClampNeg)) + (q_i (τ.1 (q_r (τ.1 l0 17)) (l4 + Int32.ofInt (-1)).toNatClampNeg))).toInt > (0 : Int)) (h20 : (q_i (τ.1 (q_r (τ.1 l0 1)) ((Int32.ofInt (437)) + ((Int32.ofInt (2)) * l6)).toNatClampNeg)).toInt ≠ (9 : Int)) (h22 : 0 ≤ ((l4 + Int32.ofInt (-1)) - (Int32.ofInt (1))).toInt ∧ ((l4 + Int32.ofInt (-1)) - (Int32.ofInt (1))).toInt < (τ.2.1 (q_r (τ.1 l0 17)) : Int)) :
    i_237 a0 a1 a2 a3 σ l0 l2 l3 (l4 + Int32.ofInt (-1)) l5 (l6 + Int32.ofInt (1)) (q_w τ (q_r (τ.1 l0 17)) ((l4 + Int32.ofInt (-1)) - (Int32.ofInt (1))).toNatClampNeg (.int (Int32.ofInt (1)))) := by
  obtain ⟨rfl, rfl, rfl, hI⟩ := hI
  refine ⟨rfl, rfl, rfl, ?_⟩
  intro ea A nt L ls l F hh N x K en hx ef hF eh hhh
  obtain ⟨fr, e5, i, v, sb, sr, hFi, hiT, e4, e6, hv, hA, hK, ht, hsr, hr⟩ := hI ea A nt L ls l F hh N x K en hx ef hF eh hhh
  subst ea en ef eh e4 e5 e6
  have K1 := K.fr fr
  have W := K1.2.2.2.2.2.2.2
  have hN : N < 12 := by have := (List.getElem?_eq_some_iff.mp hx).1; have := W.1; omega
  obtain ⟨b1, b2, b3, b4⟩ := K1.2.2.2.2.2.2.1.2.1 N x hx
  obtain ⟨w1, w2, w3, w4, w5, w6⟩ := W.2.2.2 N x hx
  have L4 := W.2.1
  have ks : q_r (τ.1 205 17) = 213 := by rw [K1.2.1]; rfl
  have kw := K1.1.q
  have n392 := ix392n (i := N) (by omega)
  have v392 : q_i (τ.1 206 (392 + 4 * N)) = Int32.ofNat x.2.2.2 := by rw [b4]; rfl
  have hl := hK.len
  simp only [kw, n392, v392] at h3
  rw [o32 (by omega), o32 (by omega)] at h3
  obtain ⟨y, s', hy, hs, ht'⟩ := eTn_st (n := x.2.2.2 - (i + 1)) (i := i) (s := sb) (r := sr) (by rw [show x.2.2.2 - (i + 1) + 1 = x.2.2.2 - i by omega]; exact ht)
  have hr' : eRn (eFa A nt F hh) l (x.2.2.2 - (i + 1)) (i + 1) (eS (eFa A nt F hh) y v) = eRn (eFa A nt F hh) l (x.2.2.2 - x.2.2.1) x.2.2.1 [] := by
    rw [← hr, show x.2.2.2 - i = x.2.2.2 - (i + 1) + 1 by omega, eRn_st hy]
  obtain ⟨y1, y2⟩ := K1.2.2.2.2.2.2.1.2.2 i y hy
  have y1 : q_i (τ.1 206 (437 + 2 * i)) = Int32.ofNat y.1 := by rw [y1]; rfl
  have y2 : q_i (τ.1 206 (438 + 2 * i)) = Int32.ofNat y.2 := by rw [y2]; rfl
  have n437 := ix437 (i := i) (by omega)
  have n438 := ix438 (i := i) (by omega)
  have q14 := eT_lt hs
  have o14 : (Int32.ofNat y.1).toInt = (y.1 : Int) := o32 (by omega)
  have hK' := hK.step (eFa_F (H := A) (nt := nt) (F := F) (n := hh)) hs
  simp only [kw, n437, y1, o14] at h8 h9
  have q8 : ¬ y.1 ≤ 8 := by omega
  have q12 : y.1 ≠ 12 := by omega
  obtain ⟨q, hq⟩ := eT_join q8 q12 hs
  have hl2 : 2 ≤ v.length := by
    rcases hq with ⟨-, g, -⟩ | ⟨-, g, -⟩ | ⟨-, g, -⟩ <;> rw [g] at hl <;> simp only [List.length_cons] at hl <;> omega
  obtain ⟨a, b, v0, rfl⟩ := two_of hl2
  have hv : v0.length + 1 + 1 ≤ 32 := hv
  have n0 : Int32.ofNat (a :: b :: v0).length + Int32.ofInt (-1) = Int32.ofNat (v0.length + 1) := o32d (n := v0.length + 1) (by omega)
  have n1 : Int32.ofNat (v0.length + 1) - Int32.ofInt 1 = Int32.ofNat v0.length := o32s (by omega)
  have n2 : (Int32.ofNat v0.length).toNatClampNeg = v0.length := o32n (by omega)
  have n3 : (Int32.ofNat (v0.length + 1)).toNatClampNeg = v0.length + 1 := o32n (by omega)
  have va : q_i (τ.1 213 (v0.length + 1)) = a := by rw [show τ.1 213 (v0.length + 1) = .int a from hA.1]; rfl
  have vb : q_i (τ.1 213 v0.length) = b := by rw [hA.2.1]; rfl
  have eS1 : eS (eFa A nt F hh) y (a :: b :: v0) = eJ y.1 b a :: v0 := by
    show (if y.1 ≤ 8 then _ else if y.1 = 12 then _ else _) = _
    rw [if_neg q8, if_neg q12]
  rw [eS1] at hK' hr'
  simp only [kw, ks, n437, y1, o14, n0, n1, n2, n3, va, vb] at h12 h13 h14 h15 h20
  simp only [ks, kw, n437, y1, n0, n1, n2, n3, va, vb]
  have hk : y.1 = 14 := by omega
  have ej : Int32.ofInt 1 = eJ y.1 b a := by
    unfold eJ
    rw [hk]
    rw [if_neg (by decide), if_neg (by decide), if_neg (by decide), if_neg (by decide)]
    have ty : (a = Int32.ofInt 0 ∨ a = Int32.ofInt 1) ∧ (b = Int32.ofInt 0 ∨ b = Int32.ofInt 1) := by
      rcases hq with ⟨c, -, -⟩ | ⟨c, -, -⟩ | ⟨-, g, -⟩
      · omega
      · omega
      · subst g
        exact ⟨hK.1 rfl, hK.2.1 rfl⟩
    obtain ⟨ta, tb⟩ := ty
    rcases ta with rfl | rfl <;> rcases tb with rfl | rfl <;> first | decide | exact absurd h15 (by decide)
  exact ⟨fr.w, (by trivial), i + 1, eJ y.1 b a :: v0, s', sr, by omega, by omega, rfl, o32i (by omega), (by show v0.length + 1 ≤ 32; omega), ⟨(q_w_at _ _ _ _).trans (congrArg Value.int ej), eA.w hA.2.2 (Nat.le_refl _)⟩, hK', ht', hsr, hr'⟩
theorem sp_237_c15_ftttttff (a0 : Nat) (a1 : Int32) (a2 : Int32) (a3 : Int32) (σ : zSg) (l0 : Nat) (l2 : Int32) (l3 : Int32) (l4 : Int32) (l5 : Int32) (l6 : Int32) (τ : zSg) (hI : i_237 a0 a1 a2 a3 σ l0 l2 l3 l4 l5 l6 τ) (h2 : 0 ≤ (l5 + (Int32.ofInt (3))).toInt ∧ (l5 + (Int32.ofInt (3))).toInt < (τ.2.1 (q_r (τ.1 l0 1)) : Int)) (h3 : l6.toInt < (q_i (τ.1 (q_r (τ.1 l0 1)) (l5 + (Int32.ofInt (3))).toNatClampNeg)).toInt) (h7 : 0 ≤ ((Int32.ofInt (437)) + ((Int32.ofInt (2)) * l6)).toInt ∧ ((Int32.ofInt (437)) + ((Int32.ofInt (2)) * l6)).toInt < (τ.2.1 (q_r (τ.1 l0 1)) : Int)) (h8 : (q_i (τ.1 (q_r (τ.1 l0 1)) ((Int32.ofInt (437)) + ((Int32.ofInt (2)) * l6)).toNatClampNeg)).toInt > (8 : Int)) (h9 : (q_i (τ.1 (q_r (τ.1 l0 1)) ((Int32.ofInt (437)) + ((Int32.ofInt (2)) * l6)).toNatClampNeg)).toInt ≠ (12 : Int)) (h10 : 0 ≤ ((l4 + Int32.ofInt (-1)) - (Int32.ofInt (1))).toInt ∧ ((l4 + Int32.ofInt (-1)) - (Int32.ofInt (1))).toInt < (τ.2.1 (q_r (τ.1 l0 17)) : Int)) (h11 : 0 ≤ (l4 + Int32.ofInt (-1)).toInt ∧ (l4 + Int32.ofInt (-1)).toInt < (τ.2.1 (q_r (τ.1 l0 17)) : Int)) (h12 : (q_i (τ.1 (q_r (τ.1 l0 1)) ((Int32.ofInt (437)) + ((Int32.ofInt (2)) * l6)).toNatClampNeg)).toInt ≠ (10 : Int)) (h13 : (q_i (τ.1 (q_r (τ.1 l0 1)) ((Int32.ofInt (437)) + ((Int32.ofInt (2)) * l6)).toNatClampNeg)).toInt ≠ (11 : Int)) (h14 : (q_i (τ.1 (q_r (τ.1 l0 1)) ((Int32.ofInt (437)) + ((Int32.ofInt (2)) * l6)).toNatClampNeg)).toInt ≠ (13 : Int)) (h15 : ((q_i (τ.1 (q_r (τ.1 l0 17)) ((l4 + Int32.ofInt (-1)) - (Int32.ofInt (1))).toNatClampNeg)) + (q_i (τ.1 (q_r (τ.1 l0 17)) (l4 + Int32.ofInt (-1)).toNatClampNeg))).toInt > (0 : Int)) (h20 : (q_i (τ.1 (q_r (τ.1 l0 1)) ((Int32.ofInt (437)) + ((Int32.ofInt (2)) * l6)).toNatClampNeg)).toInt = (9 : Int)) (h23 : 0 ≤ ((l4 + Int32.ofInt (-1)) - (Int32.ofInt (1))).toInt ∧ ((l4 + Int32.ofInt (-1)) - (Int32.ofInt (1))).toInt < (τ.2.1 (q_r (τ.1 l0 17)) : Int)) :
    i_237 a0 a1 a2 a3 σ l0 l2 l3 (l4 + Int32.ofInt (-1)) l5 (l6 + Int32.ofInt (1)) (q_w τ (q_r (τ.1 l0 17)) ((l4 + Int32.ofInt (-1)) - (Int32.ofInt (1))).toNatClampNeg (.int ((q_i (τ.1 (q_r (τ.1 l0 17)) ((l4 + Int32.ofInt (-1)) - (Int32.ofInt (1))).toNatClampNeg)) + (q_i (τ.1 (q_r (τ.1 l0 17)) (l4 + Int32.ofInt (-1)).toNatClampNeg))))) := by
  obtain ⟨rfl, rfl, rfl, hI⟩ := hI
  refine ⟨rfl, rfl, rfl, ?_⟩
  intro ea A nt L ls l F hh N x K en hx ef hF eh hhh
  obtain ⟨fr, e5, i, v, sb, sr, hFi, hiT, e4, e6, hv, hA, hK, ht, hsr, hr⟩ := hI ea A nt L ls l F hh N x K en hx ef hF eh hhh
  subst ea en ef eh e4 e5 e6
  have K1 := K.fr fr
  have W := K1.2.2.2.2.2.2.2
  have hN : N < 12 := by have := (List.getElem?_eq_some_iff.mp hx).1; have := W.1; omega
  obtain ⟨b1, b2, b3, b4⟩ := K1.2.2.2.2.2.2.1.2.1 N x hx
  obtain ⟨w1, w2, w3, w4, w5, w6⟩ := W.2.2.2 N x hx
  have L4 := W.2.1
  have ks : q_r (τ.1 205 17) = 213 := by rw [K1.2.1]; rfl
  have kw := K1.1.q
  have n392 := ix392n (i := N) (by omega)
  have v392 : q_i (τ.1 206 (392 + 4 * N)) = Int32.ofNat x.2.2.2 := by rw [b4]; rfl
  have hl := hK.len
  simp only [kw, n392, v392] at h3
  rw [o32 (by omega), o32 (by omega)] at h3
  obtain ⟨y, s', hy, hs, ht'⟩ := eTn_st (n := x.2.2.2 - (i + 1)) (i := i) (s := sb) (r := sr) (by rw [show x.2.2.2 - (i + 1) + 1 = x.2.2.2 - i by omega]; exact ht)
  have hr' : eRn (eFa A nt F hh) l (x.2.2.2 - (i + 1)) (i + 1) (eS (eFa A nt F hh) y v) = eRn (eFa A nt F hh) l (x.2.2.2 - x.2.2.1) x.2.2.1 [] := by
    rw [← hr, show x.2.2.2 - i = x.2.2.2 - (i + 1) + 1 by omega, eRn_st hy]
  obtain ⟨y1, y2⟩ := K1.2.2.2.2.2.2.1.2.2 i y hy
  have y1 : q_i (τ.1 206 (437 + 2 * i)) = Int32.ofNat y.1 := by rw [y1]; rfl
  have y2 : q_i (τ.1 206 (438 + 2 * i)) = Int32.ofNat y.2 := by rw [y2]; rfl
  have n437 := ix437 (i := i) (by omega)
  have n438 := ix438 (i := i) (by omega)
  have q14 := eT_lt hs
  have o14 : (Int32.ofNat y.1).toInt = (y.1 : Int) := o32 (by omega)
  have hK' := hK.step (eFa_F (H := A) (nt := nt) (F := F) (n := hh)) hs
  simp only [kw, n437, y1, o14] at h8 h9
  have q8 : ¬ y.1 ≤ 8 := by omega
  have q12 : y.1 ≠ 12 := by omega
  obtain ⟨q, hq⟩ := eT_join q8 q12 hs
  have hl2 : 2 ≤ v.length := by
    rcases hq with ⟨-, g, -⟩ | ⟨-, g, -⟩ | ⟨-, g, -⟩ <;> rw [g] at hl <;> simp only [List.length_cons] at hl <;> omega
  obtain ⟨a, b, v0, rfl⟩ := two_of hl2
  have hv : v0.length + 1 + 1 ≤ 32 := hv
  have n0 : Int32.ofNat (a :: b :: v0).length + Int32.ofInt (-1) = Int32.ofNat (v0.length + 1) := o32d (n := v0.length + 1) (by omega)
  have n1 : Int32.ofNat (v0.length + 1) - Int32.ofInt 1 = Int32.ofNat v0.length := o32s (by omega)
  have n2 : (Int32.ofNat v0.length).toNatClampNeg = v0.length := o32n (by omega)
  have n3 : (Int32.ofNat (v0.length + 1)).toNatClampNeg = v0.length + 1 := o32n (by omega)
  have va : q_i (τ.1 213 (v0.length + 1)) = a := by rw [show τ.1 213 (v0.length + 1) = .int a from hA.1]; rfl
  have vb : q_i (τ.1 213 v0.length) = b := by rw [hA.2.1]; rfl
  have eS1 : eS (eFa A nt F hh) y (a :: b :: v0) = eJ y.1 b a :: v0 := by
    show (if y.1 ≤ 8 then _ else if y.1 = 12 then _ else _) = _
    rw [if_neg q8, if_neg q12]
  rw [eS1] at hK' hr'
  simp only [kw, ks, n437, y1, o14, n0, n1, n2, n3, va, vb] at h12 h13 h14 h15 h20
  simp only [ks, kw, n437, y1, n0, n1, n2, n3, va, vb]
  have hk : y.1 = 9 := by omega
  have ej : b + a = eJ y.1 b a := by
    unfold eJ
    rw [hk]
    rw [if_pos rfl]
  exact ⟨fr.w, (by trivial), i + 1, eJ y.1 b a :: v0, s', sr, by omega, by omega, rfl, o32i (by omega), (by show v0.length + 1 ≤ 32; omega), ⟨(q_w_at _ _ _ _).trans (congrArg Value.int ej), eA.w hA.2.2 (Nat.le_refl _)⟩, hK', ht', hsr, hr'⟩
theorem sp_237_c15_fttttftt (a0 : Nat) (a1 : Int32) (a2 : Int32) (a3 : Int32) (σ : zSg) (l0 : Nat) (l2 : Int32) (l3 : Int32) (l4 : Int32) (l5 : Int32) (l6 : Int32) (τ : zSg) (hI : i_237 a0 a1 a2 a3 σ l0 l2 l3 l4 l5 l6 τ) (h2 : 0 ≤ (l5 + (Int32.ofInt (3))).toInt ∧ (l5 + (Int32.ofInt (3))).toInt < (τ.2.1 (q_r (τ.1 l0 1)) : Int)) (h3 : l6.toInt < (q_i (τ.1 (q_r (τ.1 l0 1)) (l5 + (Int32.ofInt (3))).toNatClampNeg)).toInt) (h7 : 0 ≤ ((Int32.ofInt (437)) + ((Int32.ofInt (2)) * l6)).toInt ∧ ((Int32.ofInt (437)) + ((Int32.ofInt (2)) * l6)).toInt < (τ.2.1 (q_r (τ.1 l0 1)) : Int)) (h8 : (q_i (τ.1 (q_r (τ.1 l0 1)) ((Int32.ofInt (437)) + ((Int32.ofInt (2)) * l6)).toNatClampNeg)).toInt > (8 : Int)) (h9 : (q_i (τ.1 (q_r (τ.1 l0 1)) ((Int32.ofInt (437)) + ((Int32.ofInt (2)) * l6)).toNatClampNeg)).toInt ≠ (12 : Int)) (h10 : 0 ≤ ((l4 + Int32.ofInt (-1)) - (Int32.ofInt (1))).toInt ∧ ((l4 + Int32.ofInt (-1)) - (Int32.ofInt (1))).toInt < (τ.2.1 (q_r (τ.1 l0 17)) : Int)) (h11 : 0 ≤ (l4 + Int32.ofInt (-1)).toInt ∧ (l4 + Int32.ofInt (-1)).toInt < (τ.2.1 (q_r (τ.1 l0 17)) : Int)) (h12 : (q_i (τ.1 (q_r (τ.1 l0 1)) ((Int32.ofInt (437)) + ((Int32.ofInt (2)) * l6)).toNatClampNeg)).toInt ≠ (10 : Int)) (h13 : (q_i (τ.1 (q_r (τ.1 l0 1)) ((Int32.ofInt (437)) + ((Int32.ofInt (2)) * l6)).toNatClampNeg)).toInt ≠ (11 : Int)) (h14 : (q_i (τ.1 (q_r (τ.1 l0 1)) ((Int32.ofInt (437)) + ((Int32.ofInt (2)) * l6)).toNatClampNeg)).toInt = (13 : Int)) (h24 : ((q_i (τ.1 (q_r (τ.1 l0 17)) ((l4 + Int32.ofInt (-1)) - (Int32.ofInt (1))).toNatClampNeg)) + (q_i (τ.1 (q_r (τ.1 l0 17)) (l4 + Int32.ofInt (-1)).toNatClampNeg))).toInt ≠ (2 : Int)) (h25 : (q_i (τ.1 (q_r (τ.1 l0 1)) ((Int32.ofInt (437)) + ((Int32.ofInt (2)) * l6)).toNatClampNeg)).toInt ≠ (9 : Int)) (h27 : 0 ≤ ((l4 + Int32.ofInt (-1)) - (Int32.ofInt (1))).toInt ∧ ((l4 + Int32.ofInt (-1)) - (Int32.ofInt (1))).toInt < (τ.2.1 (q_r (τ.1 l0 17)) : Int)) :
    i_237 a0 a1 a2 a3 σ l0 l2 l3 (l4 + Int32.ofInt (-1)) l5 (l6 + Int32.ofInt (1)) (q_w τ (q_r (τ.1 l0 17)) ((l4 + Int32.ofInt (-1)) - (Int32.ofInt (1))).toNatClampNeg (.int (Int32.ofInt (0)))) := by
  obtain ⟨rfl, rfl, rfl, hI⟩ := hI
  refine ⟨rfl, rfl, rfl, ?_⟩
  intro ea A nt L ls l F hh N x K en hx ef hF eh hhh
  obtain ⟨fr, e5, i, v, sb, sr, hFi, hiT, e4, e6, hv, hA, hK, ht, hsr, hr⟩ := hI ea A nt L ls l F hh N x K en hx ef hF eh hhh
  subst ea en ef eh e4 e5 e6
  have K1 := K.fr fr
  have W := K1.2.2.2.2.2.2.2
  have hN : N < 12 := by have := (List.getElem?_eq_some_iff.mp hx).1; have := W.1; omega
  obtain ⟨b1, b2, b3, b4⟩ := K1.2.2.2.2.2.2.1.2.1 N x hx
  obtain ⟨w1, w2, w3, w4, w5, w6⟩ := W.2.2.2 N x hx
  have L4 := W.2.1
  have ks : q_r (τ.1 205 17) = 213 := by rw [K1.2.1]; rfl
  have kw := K1.1.q
  have n392 := ix392n (i := N) (by omega)
  have v392 : q_i (τ.1 206 (392 + 4 * N)) = Int32.ofNat x.2.2.2 := by rw [b4]; rfl
  have hl := hK.len
  simp only [kw, n392, v392] at h3
  rw [o32 (by omega), o32 (by omega)] at h3
  obtain ⟨y, s', hy, hs, ht'⟩ := eTn_st (n := x.2.2.2 - (i + 1)) (i := i) (s := sb) (r := sr) (by rw [show x.2.2.2 - (i + 1) + 1 = x.2.2.2 - i by omega]; exact ht)
  have hr' : eRn (eFa A nt F hh) l (x.2.2.2 - (i + 1)) (i + 1) (eS (eFa A nt F hh) y v) = eRn (eFa A nt F hh) l (x.2.2.2 - x.2.2.1) x.2.2.1 [] := by
    rw [← hr, show x.2.2.2 - i = x.2.2.2 - (i + 1) + 1 by omega, eRn_st hy]
  obtain ⟨y1, y2⟩ := K1.2.2.2.2.2.2.1.2.2 i y hy
  have y1 : q_i (τ.1 206 (437 + 2 * i)) = Int32.ofNat y.1 := by rw [y1]; rfl
  have y2 : q_i (τ.1 206 (438 + 2 * i)) = Int32.ofNat y.2 := by rw [y2]; rfl
  have n437 := ix437 (i := i) (by omega)
  have n438 := ix438 (i := i) (by omega)
  have q14 := eT_lt hs
  have o14 : (Int32.ofNat y.1).toInt = (y.1 : Int) := o32 (by omega)
  have hK' := hK.step (eFa_F (H := A) (nt := nt) (F := F) (n := hh)) hs
  simp only [kw, n437, y1, o14] at h8 h9
  have q8 : ¬ y.1 ≤ 8 := by omega
  have q12 : y.1 ≠ 12 := by omega
  obtain ⟨q, hq⟩ := eT_join q8 q12 hs
  have hl2 : 2 ≤ v.length := by
    rcases hq with ⟨-, g, -⟩ | ⟨-, g, -⟩ | ⟨-, g, -⟩ <;> rw [g] at hl <;> simp only [List.length_cons] at hl <;> omega
  obtain ⟨a, b, v0, rfl⟩ := two_of hl2
  have hv : v0.length + 1 + 1 ≤ 32 := hv
  have n0 : Int32.ofNat (a :: b :: v0).length + Int32.ofInt (-1) = Int32.ofNat (v0.length + 1) := o32d (n := v0.length + 1) (by omega)
  have n1 : Int32.ofNat (v0.length + 1) - Int32.ofInt 1 = Int32.ofNat v0.length := o32s (by omega)
  have n2 : (Int32.ofNat v0.length).toNatClampNeg = v0.length := o32n (by omega)
  have n3 : (Int32.ofNat (v0.length + 1)).toNatClampNeg = v0.length + 1 := o32n (by omega)
  have va : q_i (τ.1 213 (v0.length + 1)) = a := by rw [show τ.1 213 (v0.length + 1) = .int a from hA.1]; rfl
  have vb : q_i (τ.1 213 v0.length) = b := by rw [hA.2.1]; rfl
  have eS1 : eS (eFa A nt F hh) y (a :: b :: v0) = eJ y.1 b a :: v0 := by
    show (if y.1 ≤ 8 then _ else if y.1 = 12 then _ else _) = _
    rw [if_neg q8, if_neg q12]
  rw [eS1] at hK' hr'
  simp only [kw, ks, n437, y1, o14, n0, n1, n2, n3, va, vb] at h12 h13 h14 h24 h25
  simp only [ks, kw, n437, y1, n0, n1, n2, n3, va, vb]
  have hk : y.1 = 13 := by omega
  have ej : Int32.ofInt 0 = eJ y.1 b a := by
    unfold eJ
    rw [hk]
    rw [if_neg (by decide), if_neg (by decide), if_neg (by decide), if_pos rfl]
    have ty : (a = Int32.ofInt 0 ∨ a = Int32.ofInt 1) ∧ (b = Int32.ofInt 0 ∨ b = Int32.ofInt 1) := by
      rcases hq with ⟨c, -, -⟩ | ⟨c, -, -⟩ | ⟨-, g, -⟩
      · omega
      · omega
      · subst g
        exact ⟨hK.1 rfl, hK.2.1 rfl⟩
    obtain ⟨ta, tb⟩ := ty
    rcases ta with rfl | rfl <;> rcases tb with rfl | rfl <;> first | decide | exact absurd h24 (by decide)
  exact ⟨fr.w, (by trivial), i + 1, eJ y.1 b a :: v0, s', sr, by omega, by omega, rfl, o32i (by omega), (by show v0.length + 1 ≤ 32; omega), ⟨(q_w_at _ _ _ _).trans (congrArg Value.int ej), eA.w hA.2.2 (Nat.le_refl _)⟩, hK', ht', hsr, hr'⟩
theorem sp_237_c15_fttttftf (a0 : Nat) (a1 : Int32) (a2 : Int32) (a3 : Int32) (σ : zSg) (l0 : Nat) (l2 : Int32) (l3 : Int32) (l4 : Int32) (l5 : Int32) (l6 : Int32) (τ : zSg) (hI : i_237 a0 a1 a2 a3 σ l0 l2 l3 l4 l5 l6 τ) (h2 : 0 ≤ (l5 + (Int32.ofInt (3))).toInt ∧ (l5 + (Int32.ofInt (3))).toInt < (τ.2.1 (q_r (τ.1 l0 1)) : Int)) (h3 : l6.toInt < (q_i (τ.1 (q_r (τ.1 l0 1)) (l5 + (Int32.ofInt (3))).toNatClampNeg)).toInt) (h7 : 0 ≤ ((Int32.ofInt (437)) + ((Int32.ofInt (2)) * l6)).toInt ∧ ((Int32.ofInt (437)) + ((Int32.ofInt (2)) * l6)).toInt < (τ.2.1 (q_r (τ.1 l0 1)) : Int)) (h8 : (q_i (τ.1 (q_r (τ.1 l0 1)) ((Int32.ofInt (437)) + ((Int32.ofInt (2)) * l6)).toNatClampNeg)).toInt > (8 : Int)) (h9 : (q_i (τ.1 (q_r (τ.1 l0 1)) ((Int32.ofInt (437)) + ((Int32.ofInt (2)) * l6)).toNatClampNeg)).toInt ≠ (12 : Int)) (h10 : 0 ≤ ((l4 + Int32.ofInt (-1)) - (Int32.ofInt (1))).toInt ∧ ((l4 + Int32.ofInt (-1)) - (Int32.ofInt (1))).toInt < (τ.2.1 (q_r (τ.1 l0 17)) : Int)) (h11 : 0 ≤ (l4 + Int32.ofInt (-1)).toInt ∧ (l4 + Int32.ofInt (-1)).toInt < (τ.2.1 (q_r (τ.1 l0 17)) : Int)) (h12 : (q_i (τ.1 (q_r (τ.1 l0 1)) ((Int32.ofInt (437)) + ((Int32.ofInt (2)) * l6)).toNatClampNeg)).toInt ≠ (10 : Int)) (h13 : (q_i (τ.1 (q_r (τ.1 l0 1)) ((Int32.ofInt (437)) + ((Int32.ofInt (2)) * l6)).toNatClampNeg)).toInt ≠ (11 : Int)) (h14 : (q_i (τ.1 (q_r (τ.1 l0 1)) ((Int32.ofInt (437)) + ((Int32.ofInt (2)) * l6)).toNatClampNeg)).toInt = (13 : Int)) (h24 : ((q_i (τ.1 (q_r (τ.1 l0 17)) ((l4 + Int32.ofInt (-1)) - (Int32.ofInt (1))).toNatClampNeg)) + (q_i (τ.1 (q_r (τ.1 l0 17)) (l4 + Int32.ofInt (-1)).toNatClampNeg))).toInt ≠ (2 : Int)) (h25 : (q_i (τ.1 (q_r (τ.1 l0 1)) ((Int32.ofInt (437)) + ((Int32.ofInt (2)) * l6)).toNatClampNeg)).toInt = (9 : Int)) (h28 : 0 ≤ ((l4 + Int32.ofInt (-1)) - (Int32.ofInt (1))).toInt ∧ ((l4 + Int32.ofInt (-1)) - (Int32.ofInt (1))).toInt < (τ.2.1 (q_r (τ.1 l0 17)) : Int)) :
    i_237 a0 a1 a2 a3 σ l0 l2 l3 (l4 + Int32.ofInt (-1)) l5 (l6 + Int32.ofInt (1)) (q_w τ (q_r (τ.1 l0 17)) ((l4 + Int32.ofInt (-1)) - (Int32.ofInt (1))).toNatClampNeg (.int ((q_i (τ.1 (q_r (τ.1 l0 17)) ((l4 + Int32.ofInt (-1)) - (Int32.ofInt (1))).toNatClampNeg)) + (q_i (τ.1 (q_r (τ.1 l0 17)) (l4 + Int32.ofInt (-1)).toNatClampNeg))))) := by
  obtain ⟨rfl, rfl, rfl, hI⟩ := hI
  refine ⟨rfl, rfl, rfl, ?_⟩
  intro ea A nt L ls l F hh N x K en hx ef hF eh hhh
  obtain ⟨fr, e5, i, v, sb, sr, hFi, hiT, e4, e6, hv, hA, hK, ht, hsr, hr⟩ := hI ea A nt L ls l F hh N x K en hx ef hF eh hhh
  subst ea en ef eh e4 e5 e6
  have K1 := K.fr fr
  have W := K1.2.2.2.2.2.2.2
  have hN : N < 12 := by have := (List.getElem?_eq_some_iff.mp hx).1; have := W.1; omega
  obtain ⟨b1, b2, b3, b4⟩ := K1.2.2.2.2.2.2.1.2.1 N x hx
  obtain ⟨w1, w2, w3, w4, w5, w6⟩ := W.2.2.2 N x hx
  have L4 := W.2.1
  have ks : q_r (τ.1 205 17) = 213 := by rw [K1.2.1]; rfl
  have kw := K1.1.q
  have n392 := ix392n (i := N) (by omega)
  have v392 : q_i (τ.1 206 (392 + 4 * N)) = Int32.ofNat x.2.2.2 := by rw [b4]; rfl
  have hl := hK.len
  simp only [kw, n392, v392] at h3
  rw [o32 (by omega), o32 (by omega)] at h3
  obtain ⟨y, s', hy, hs, ht'⟩ := eTn_st (n := x.2.2.2 - (i + 1)) (i := i) (s := sb) (r := sr) (by rw [show x.2.2.2 - (i + 1) + 1 = x.2.2.2 - i by omega]; exact ht)
  have hr' : eRn (eFa A nt F hh) l (x.2.2.2 - (i + 1)) (i + 1) (eS (eFa A nt F hh) y v) = eRn (eFa A nt F hh) l (x.2.2.2 - x.2.2.1) x.2.2.1 [] := by
    rw [← hr, show x.2.2.2 - i = x.2.2.2 - (i + 1) + 1 by omega, eRn_st hy]
  obtain ⟨y1, y2⟩ := K1.2.2.2.2.2.2.1.2.2 i y hy
  have y1 : q_i (τ.1 206 (437 + 2 * i)) = Int32.ofNat y.1 := by rw [y1]; rfl
  have y2 : q_i (τ.1 206 (438 + 2 * i)) = Int32.ofNat y.2 := by rw [y2]; rfl
  have n437 := ix437 (i := i) (by omega)
  have n438 := ix438 (i := i) (by omega)
  have q14 := eT_lt hs
  have o14 : (Int32.ofNat y.1).toInt = (y.1 : Int) := o32 (by omega)
  have hK' := hK.step (eFa_F (H := A) (nt := nt) (F := F) (n := hh)) hs
  simp only [kw, n437, y1, o14] at h8 h9
  have q8 : ¬ y.1 ≤ 8 := by omega
  have q12 : y.1 ≠ 12 := by omega
  obtain ⟨q, hq⟩ := eT_join q8 q12 hs
  have hl2 : 2 ≤ v.length := by
    rcases hq with ⟨-, g, -⟩ | ⟨-, g, -⟩ | ⟨-, g, -⟩ <;> rw [g] at hl <;> simp only [List.length_cons] at hl <;> omega
  obtain ⟨a, b, v0, rfl⟩ := two_of hl2
  have hv : v0.length + 1 + 1 ≤ 32 := hv
  have n0 : Int32.ofNat (a :: b :: v0).length + Int32.ofInt (-1) = Int32.ofNat (v0.length + 1) := o32d (n := v0.length + 1) (by omega)
  have n1 : Int32.ofNat (v0.length + 1) - Int32.ofInt 1 = Int32.ofNat v0.length := o32s (by omega)
  have n2 : (Int32.ofNat v0.length).toNatClampNeg = v0.length := o32n (by omega)
  have n3 : (Int32.ofNat (v0.length + 1)).toNatClampNeg = v0.length + 1 := o32n (by omega)
  have va : q_i (τ.1 213 (v0.length + 1)) = a := by rw [show τ.1 213 (v0.length + 1) = .int a from hA.1]; rfl
  have vb : q_i (τ.1 213 v0.length) = b := by rw [hA.2.1]; rfl
  have eS1 : eS (eFa A nt F hh) y (a :: b :: v0) = eJ y.1 b a :: v0 := by
    show (if y.1 ≤ 8 then _ else if y.1 = 12 then _ else _) = _
    rw [if_neg q8, if_neg q12]
  rw [eS1] at hK' hr'
  simp only [kw, ks, n437, y1, o14, n0, n1, n2, n3, va, vb] at h12 h13 h14 h24 h25
  simp only [ks, kw, n437, y1, n0, n1, n2, n3, va, vb]
  exfalso
  omega
theorem sp_237_c15_fttttfft (a0 : Nat) (a1 : Int32) (a2 : Int32) (a3 : Int32) (σ : zSg) (l0 : Nat) (l2 : Int32) (l3 : Int32) (l4 : Int32) (l5 : Int32) (l6 : Int32) (τ : zSg) (hI : i_237 a0 a1 a2 a3 σ l0 l2 l3 l4 l5 l6 τ) (h2 : 0 ≤ (l5 + (Int32.ofInt (3))).toInt ∧ (l5 + (Int32.ofInt (3))).toInt < (τ.2.1 (q_r (τ.1 l0 1)) : Int)) (h3 : l6.toInt < (q_i (τ.1 (q_r (τ.1 l0 1)) (l5 + (Int32.ofInt (3))).toNatClampNeg)).toInt) (h7 : 0 ≤ ((Int32.ofInt (437)) + ((Int32.ofInt (2)) * l6)).toInt ∧ ((Int32.ofInt (437)) + ((Int32.ofInt (2)) * l6)).toInt < (τ.2.1 (q_r (τ.1 l0 1)) : Int)) (h8 : (q_i (τ.1 (q_r (τ.1 l0 1)) ((Int32.ofInt (437)) + ((Int32.ofInt (2)) * l6)).toNatClampNeg)).toInt > (8 : Int)) (h9 : (q_i (τ.1 (q_r (τ.1 l0 1)) ((Int32.ofInt (437)) + ((Int32.ofInt (2)) * l6)).toNatClampNeg)).toInt ≠ (12 : Int)) (h10 : 0 ≤ ((l4 + Int32.ofInt (-1)) - (Int32.ofInt (1))).toInt ∧ ((l4 + Int32.ofInt (-1)) - (Int32.ofInt (1))).toInt < (τ.2.1 (q_r (τ.1 l0 17)) : Int)) (h11 : 0 ≤ (l4 + Int32.ofInt (-1)).toInt ∧ (l4 + Int32.ofInt (-1)).toInt < (τ.2.1 (q_r (τ.1 l0 17)) : Int)) (h12 : (q_i (τ.1 (q_r (τ.1 l0 1)) ((Int32.ofInt (437)) + ((Int32.ofInt (2)) * l6)).toNatClampNeg)).toInt ≠ (10 : Int)) (h13 : (q_i (τ.1 (q_r (τ.1 l0 1)) ((Int32.ofInt (437)) + ((Int32.ofInt (2)) * l6)).toNatClampNeg)).toInt ≠ (11 : Int)) (h14 : (q_i (τ.1 (q_r (τ.1 l0 1)) ((Int32.ofInt (437)) + ((Int32.ofInt (2)) * l6)).toNatClampNeg)).toInt = (13 : Int)) (h24 : ((q_i (τ.1 (q_r (τ.1 l0 17)) ((l4 + Int32.ofInt (-1)) - (Int32.ofInt (1))).toNatClampNeg)) + (q_i (τ.1 (q_r (τ.1 l0 17)) (l4 + Int32.ofInt (-1)).toNatClampNeg))).toInt = (2 : Int)) (h29 : (q_i (τ.1 (q_r (τ.1 l0 1)) ((Int32.ofInt (437)) + ((Int32.ofInt (2)) * l6)).toNatClampNeg)).toInt ≠ (9 : Int)) (h31 : 0 ≤ ((l4 + Int32.ofInt (-1)) - (Int32.ofInt (1))).toInt ∧ ((l4 + Int32.ofInt (-1)) - (Int32.ofInt (1))).toInt < (τ.2.1 (q_r (τ.1 l0 17)) : Int)) :
    i_237 a0 a1 a2 a3 σ l0 l2 l3 (l4 + Int32.ofInt (-1)) l5 (l6 + Int32.ofInt (1)) (q_w τ (q_r (τ.1 l0 17)) ((l4 + Int32.ofInt (-1)) - (Int32.ofInt (1))).toNatClampNeg (.int (Int32.ofInt (1)))) := by
  obtain ⟨rfl, rfl, rfl, hI⟩ := hI
  refine ⟨rfl, rfl, rfl, ?_⟩
  intro ea A nt L ls l F hh N x K en hx ef hF eh hhh
  obtain ⟨fr, e5, i, v, sb, sr, hFi, hiT, e4, e6, hv, hA, hK, ht, hsr, hr⟩ := hI ea A nt L ls l F hh N x K en hx ef hF eh hhh
  subst ea en ef eh e4 e5 e6
  have K1 := K.fr fr
  have W := K1.2.2.2.2.2.2.2
  have hN : N < 12 := by have := (List.getElem?_eq_some_iff.mp hx).1; have := W.1; omega
  obtain ⟨b1, b2, b3, b4⟩ := K1.2.2.2.2.2.2.1.2.1 N x hx
  obtain ⟨w1, w2, w3, w4, w5, w6⟩ := W.2.2.2 N x hx
  have L4 := W.2.1
  have ks : q_r (τ.1 205 17) = 213 := by rw [K1.2.1]; rfl
  have kw := K1.1.q
  have n392 := ix392n (i := N) (by omega)
  have v392 : q_i (τ.1 206 (392 + 4 * N)) = Int32.ofNat x.2.2.2 := by rw [b4]; rfl
  have hl := hK.len
  simp only [kw, n392, v392] at h3
  rw [o32 (by omega), o32 (by omega)] at h3
  obtain ⟨y, s', hy, hs, ht'⟩ := eTn_st (n := x.2.2.2 - (i + 1)) (i := i) (s := sb) (r := sr) (by rw [show x.2.2.2 - (i + 1) + 1 = x.2.2.2 - i by omega]; exact ht)
  have hr' : eRn (eFa A nt F hh) l (x.2.2.2 - (i + 1)) (i + 1) (eS (eFa A nt F hh) y v) = eRn (eFa A nt F hh) l (x.2.2.2 - x.2.2.1) x.2.2.1 [] := by
    rw [← hr, show x.2.2.2 - i = x.2.2.2 - (i + 1) + 1 by omega, eRn_st hy]
  obtain ⟨y1, y2⟩ := K1.2.2.2.2.2.2.1.2.2 i y hy
  have y1 : q_i (τ.1 206 (437 + 2 * i)) = Int32.ofNat y.1 := by rw [y1]; rfl
  have y2 : q_i (τ.1 206 (438 + 2 * i)) = Int32.ofNat y.2 := by rw [y2]; rfl
  have n437 := ix437 (i := i) (by omega)
  have n438 := ix438 (i := i) (by omega)
  have q14 := eT_lt hs
  have o14 : (Int32.ofNat y.1).toInt = (y.1 : Int) := o32 (by omega)
  have hK' := hK.step (eFa_F (H := A) (nt := nt) (F := F) (n := hh)) hs
  simp only [kw, n437, y1, o14] at h8 h9
  have q8 : ¬ y.1 ≤ 8 := by omega
  have q12 : y.1 ≠ 12 := by omega
  obtain ⟨q, hq⟩ := eT_join q8 q12 hs
  have hl2 : 2 ≤ v.length := by
    rcases hq with ⟨-, g, -⟩ | ⟨-, g, -⟩ | ⟨-, g, -⟩ <;> rw [g] at hl <;> simp only [List.length_cons] at hl <;> omega
  obtain ⟨a, b, v0, rfl⟩ := two_of hl2
  have hv : v0.length + 1 + 1 ≤ 32 := hv
  have n0 : Int32.ofNat (a :: b :: v0).length + Int32.ofInt (-1) = Int32.ofNat (v0.length + 1) := o32d (n := v0.length + 1) (by omega)
  have n1 : Int32.ofNat (v0.length + 1) - Int32.ofInt 1 = Int32.ofNat v0.length := o32s (by omega)
  have n2 : (Int32.ofNat v0.length).toNatClampNeg = v0.length := o32n (by omega)
  have n3 : (Int32.ofNat (v0.length + 1)).toNatClampNeg = v0.length + 1 := o32n (by omega)
  have va : q_i (τ.1 213 (v0.length + 1)) = a := by rw [show τ.1 213 (v0.length + 1) = .int a from hA.1]; rfl
  have vb : q_i (τ.1 213 v0.length) = b := by rw [hA.2.1]; rfl
  have eS1 : eS (eFa A nt F hh) y (a :: b :: v0) = eJ y.1 b a :: v0 := by
    show (if y.1 ≤ 8 then _ else if y.1 = 12 then _ else _) = _
    rw [if_neg q8, if_neg q12]
  rw [eS1] at hK' hr'
  simp only [kw, ks, n437, y1, o14, n0, n1, n2, n3, va, vb] at h12 h13 h14 h24 h29
  simp only [ks, kw, n437, y1, n0, n1, n2, n3, va, vb]
  have hk : y.1 = 13 := by omega
  have ej : Int32.ofInt 1 = eJ y.1 b a := by
    unfold eJ
    rw [hk]
    rw [if_neg (by decide), if_neg (by decide), if_neg (by decide), if_pos rfl]
    have ty : (a = Int32.ofInt 0 ∨ a = Int32.ofInt 1) ∧ (b = Int32.ofInt 0 ∨ b = Int32.ofInt 1) := by
      rcases hq with ⟨c, -, -⟩ | ⟨c, -, -⟩ | ⟨-, g, -⟩
      · omega
      · omega
      · subst g
        exact ⟨hK.1 rfl, hK.2.1 rfl⟩
    obtain ⟨ta, tb⟩ := ty
    rcases ta with rfl | rfl <;> rcases tb with rfl | rfl <;> first | decide | exact absurd h24 (by decide)
  exact ⟨fr.w, (by trivial), i + 1, eJ y.1 b a :: v0, s', sr, by omega, by omega, rfl, o32i (by omega), (by show v0.length + 1 ≤ 32; omega), ⟨(q_w_at _ _ _ _).trans (congrArg Value.int ej), eA.w hA.2.2 (Nat.le_refl _)⟩, hK', ht', hsr, hr'⟩
theorem sp_237_c15_fttttfff (a0 : Nat) (a1 : Int32) (a2 : Int32) (a3 : Int32) (σ : zSg) (l0 : Nat) (l2 : Int32) (l3 : Int32) (l4 : Int32) (l5 : Int32) (l6 : Int32) (τ : zSg) (hI : i_237 a0 a1 a2 a3 σ l0 l2 l3 l4 l5 l6 τ) (h2 : 0 ≤ (l5 + (Int32.ofInt (3))).toInt ∧ (l5 + (Int32.ofInt (3))).toInt < (τ.2.1 (q_r (τ.1 l0 1)) : Int)) (h3 : l6.toInt < (q_i (τ.1 (q_r (τ.1 l0 1)) (l5 + (Int32.ofInt (3))).toNatClampNeg)).toInt) (h7 : 0 ≤ ((Int32.ofInt (437)) + ((Int32.ofInt (2)) * l6)).toInt ∧ ((Int32.ofInt (437)) + ((Int32.ofInt (2)) * l6)).toInt < (τ.2.1 (q_r (τ.1 l0 1)) : Int)) (h8 : (q_i (τ.1 (q_r (τ.1 l0 1)) ((Int32.ofInt (437)) + ((Int32.ofInt (2)) * l6)).toNatClampNeg)).toInt > (8 : Int)) (h9 : (q_i (τ.1 (q_r (τ.1 l0 1)) ((Int32.ofInt (437)) + ((Int32.ofInt (2)) * l6)).toNatClampNeg)).toInt ≠ (12 : Int)) (h10 : 0 ≤ ((l4 + Int32.ofInt (-1)) - (Int32.ofInt (1))).toInt ∧ ((l4 + Int32.ofInt (-1)) - (Int32.ofInt (1))).toInt < (τ.2.1 (q_r (τ.1 l0 17)) : Int)) (h11 : 0 ≤ (l4 + Int32.ofInt (-1)).toInt ∧ (l4 + Int32.ofInt (-1)).toInt < (τ.2.1 (q_r (τ.1 l0 17)) : Int)) (h12 : (q_i (τ.1 (q_r (τ.1 l0 1)) ((Int32.ofInt (437)) + ((Int32.ofInt (2)) * l6)).toNatClampNeg)).toInt ≠ (10 : Int)) (h13 : (q_i (τ.1 (q_r (τ.1 l0 1)) ((Int32.ofInt (437)) + ((Int32.ofInt (2)) * l6)).toNatClampNeg)).toInt ≠ (11 : Int)) (h14 : (q_i (τ.1 (q_r (τ.1 l0 1)) ((Int32.ofInt (437)) + ((Int32.ofInt (2)) * l6)).toNatClampNeg)).toInt = (13 : Int)) (h24 : ((q_i (τ.1 (q_r (τ.1 l0 17)) ((l4 + Int32.ofInt (-1)) - (Int32.ofInt (1))).toNatClampNeg)) + (q_i (τ.1 (q_r (τ.1 l0 17)) (l4 + Int32.ofInt (-1)).toNatClampNeg))).toInt = (2 : Int)) (h29 : (q_i (τ.1 (q_r (τ.1 l0 1)) ((Int32.ofInt (437)) + ((Int32.ofInt (2)) * l6)).toNatClampNeg)).toInt = (9 : Int)) (h32 : 0 ≤ ((l4 + Int32.ofInt (-1)) - (Int32.ofInt (1))).toInt ∧ ((l4 + Int32.ofInt (-1)) - (Int32.ofInt (1))).toInt < (τ.2.1 (q_r (τ.1 l0 17)) : Int)) :
    i_237 a0 a1 a2 a3 σ l0 l2 l3 (l4 + Int32.ofInt (-1)) l5 (l6 + Int32.ofInt (1)) (q_w τ (q_r (τ.1 l0 17)) ((l4 + Int32.ofInt (-1)) - (Int32.ofInt (1))).toNatClampNeg (.int ((q_i (τ.1 (q_r (τ.1 l0 17)) ((l4 + Int32.ofInt (-1)) - (Int32.ofInt (1))).toNatClampNeg)) + (q_i (τ.1 (q_r (τ.1 l0 17)) (l4 + Int32.ofInt (-1)).toNatClampNeg))))) := by
  obtain ⟨rfl, rfl, rfl, hI⟩ := hI
  refine ⟨rfl, rfl, rfl, ?_⟩
  intro ea A nt L ls l F hh N x K en hx ef hF eh hhh
  obtain ⟨fr, e5, i, v, sb, sr, hFi, hiT, e4, e6, hv, hA, hK, ht, hsr, hr⟩ := hI ea A nt L ls l F hh N x K en hx ef hF eh hhh
  subst ea en ef eh e4 e5 e6
  have K1 := K.fr fr
  have W := K1.2.2.2.2.2.2.2
  have hN : N < 12 := by have := (List.getElem?_eq_some_iff.mp hx).1; have := W.1; omega
  obtain ⟨b1, b2, b3, b4⟩ := K1.2.2.2.2.2.2.1.2.1 N x hx
  obtain ⟨w1, w2, w3, w4, w5, w6⟩ := W.2.2.2 N x hx
  have L4 := W.2.1
  have ks : q_r (τ.1 205 17) = 213 := by rw [K1.2.1]; rfl
  have kw := K1.1.q
  have n392 := ix392n (i := N) (by omega)
  have v392 : q_i (τ.1 206 (392 + 4 * N)) = Int32.ofNat x.2.2.2 := by rw [b4]; rfl
  have hl := hK.len
  simp only [kw, n392, v392] at h3
  rw [o32 (by omega), o32 (by omega)] at h3
  obtain ⟨y, s', hy, hs, ht'⟩ := eTn_st (n := x.2.2.2 - (i + 1)) (i := i) (s := sb) (r := sr) (by rw [show x.2.2.2 - (i + 1) + 1 = x.2.2.2 - i by omega]; exact ht)
  have hr' : eRn (eFa A nt F hh) l (x.2.2.2 - (i + 1)) (i + 1) (eS (eFa A nt F hh) y v) = eRn (eFa A nt F hh) l (x.2.2.2 - x.2.2.1) x.2.2.1 [] := by
    rw [← hr, show x.2.2.2 - i = x.2.2.2 - (i + 1) + 1 by omega, eRn_st hy]
  obtain ⟨y1, y2⟩ := K1.2.2.2.2.2.2.1.2.2 i y hy
  have y1 : q_i (τ.1 206 (437 + 2 * i)) = Int32.ofNat y.1 := by rw [y1]; rfl
  have y2 : q_i (τ.1 206 (438 + 2 * i)) = Int32.ofNat y.2 := by rw [y2]; rfl
  have n437 := ix437 (i := i) (by omega)
  have n438 := ix438 (i := i) (by omega)
  have q14 := eT_lt hs
  have o14 : (Int32.ofNat y.1).toInt = (y.1 : Int) := o32 (by omega)
  have hK' := hK.step (eFa_F (H := A) (nt := nt) (F := F) (n := hh)) hs
  simp only [kw, n437, y1, o14] at h8 h9
  have q8 : ¬ y.1 ≤ 8 := by omega
  have q12 : y.1 ≠ 12 := by omega
  obtain ⟨q, hq⟩ := eT_join q8 q12 hs
  have hl2 : 2 ≤ v.length := by
    rcases hq with ⟨-, g, -⟩ | ⟨-, g, -⟩ | ⟨-, g, -⟩ <;> rw [g] at hl <;> simp only [List.length_cons] at hl <;> omega
  obtain ⟨a, b, v0, rfl⟩ := two_of hl2
  have hv : v0.length + 1 + 1 ≤ 32 := hv
  have n0 : Int32.ofNat (a :: b :: v0).length + Int32.ofInt (-1) = Int32.ofNat (v0.length + 1) := o32d (n := v0.length + 1) (by omega)
  have n1 : Int32.ofNat (v0.length + 1) - Int32.ofInt 1 = Int32.ofNat v0.length := o32s (by omega)
  have n2 : (Int32.ofNat v0.length).toNatClampNeg = v0.length := o32n (by omega)
  have n3 : (Int32.ofNat (v0.length + 1)).toNatClampNeg = v0.length + 1 := o32n (by omega)
  have va : q_i (τ.1 213 (v0.length + 1)) = a := by rw [show τ.1 213 (v0.length + 1) = .int a from hA.1]; rfl
  have vb : q_i (τ.1 213 v0.length) = b := by rw [hA.2.1]; rfl
  have eS1 : eS (eFa A nt F hh) y (a :: b :: v0) = eJ y.1 b a :: v0 := by
    show (if y.1 ≤ 8 then _ else if y.1 = 12 then _ else _) = _
    rw [if_neg q8, if_neg q12]
  rw [eS1] at hK' hr'
  simp only [kw, ks, n437, y1, o14, n0, n1, n2, n3, va, vb] at h12 h13 h14 h24 h29
  simp only [ks, kw, n437, y1, n0, n1, n2, n3, va, vb]
  exfalso
  omega
theorem sp_237_c15_ftttftt (a0 : Nat) (a1 : Int32) (a2 : Int32) (a3 : Int32) (σ : zSg) (l0 : Nat) (l2 : Int32) (l3 : Int32) (l4 : Int32) (l5 : Int32) (l6 : Int32) (τ : zSg) (hI : i_237 a0 a1 a2 a3 σ l0 l2 l3 l4 l5 l6 τ) (h2 : 0 ≤ (l5 + (Int32.ofInt (3))).toInt ∧ (l5 + (Int32.ofInt (3))).toInt < (τ.2.1 (q_r (τ.1 l0 1)) : Int)) (h3 : l6.toInt < (q_i (τ.1 (q_r (τ.1 l0 1)) (l5 + (Int32.ofInt (3))).toNatClampNeg)).toInt) (h7 : 0 ≤ ((Int32.ofInt (437)) + ((Int32.ofInt (2)) * l6)).toInt ∧ ((Int32.ofInt (437)) + ((Int32.ofInt (2)) * l6)).toInt < (τ.2.1 (q_r (τ.1 l0 1)) : Int)) (h8 : (q_i (τ.1 (q_r (τ.1 l0 1)) ((Int32.ofInt (437)) + ((Int32.ofInt (2)) * l6)).toNatClampNeg)).toInt > (8 : Int)) (h9 : (q_i (τ.1 (q_r (τ.1 l0 1)) ((Int32.ofInt (437)) + ((Int32.ofInt (2)) * l6)).toNatClampNeg)).toInt ≠ (12 : Int)) (h10 : 0 ≤ ((l4 + Int32.ofInt (-1)) - (Int32.ofInt (1))).toInt ∧ ((l4 + Int32.ofInt (-1)) - (Int32.ofInt (1))).toInt < (τ.2.1 (q_r (τ.1 l0 17)) : Int)) (h11 : 0 ≤ (l4 + Int32.ofInt (-1)).toInt ∧ (l4 + Int32.ofInt (-1)).toInt < (τ.2.1 (q_r (τ.1 l0 17)) : Int)) (h12 : (q_i (τ.1 (q_r (τ.1 l0 1)) ((Int32.ofInt (437)) + ((Int32.ofInt (2)) * l6)).toNatClampNeg)).toInt ≠ (10 : Int)) (h13 : (q_i (τ.1 (q_r (τ.1 l0 1)) ((Int32.ofInt (437)) + ((Int32.ofInt (2)) * l6)).toNatClampNeg)).toInt = (11 : Int)) (h33 : (q_i (τ.1 (q_r (τ.1 l0 17)) ((l4 + Int32.ofInt (-1)) - (Int32.ofInt (1))).toNatClampNeg)).toInt ≤ (q_i (τ.1 (q_r (τ.1 l0 17)) (l4 + Int32.ofInt (-1)).toNatClampNeg)).toInt) (h34 : (q_i (τ.1 (q_r (τ.1 l0 1)) ((Int32.ofInt (437)) + ((Int32.ofInt (2)) * l6)).toNatClampNeg)).toInt ≠ (9 : Int)) (h36 : 0 ≤ ((l4 + Int32.ofInt (-1)) - (Int32.ofInt (1))).toInt ∧ ((l4 + Int32.ofInt (-1)) - (Int32.ofInt (1))).toInt < (τ.2.1 (q_r (τ.1 l0 17)) : Int)) :
    i_237 a0 a1 a2 a3 σ l0 l2 l3 (l4 + Int32.ofInt (-1)) l5 (l6 + Int32.ofInt (1)) (q_w τ (q_r (τ.1 l0 17)) ((l4 + Int32.ofInt (-1)) - (Int32.ofInt (1))).toNatClampNeg (.int (Int32.ofInt (0)))) := by
  obtain ⟨rfl, rfl, rfl, hI⟩ := hI
  refine ⟨rfl, rfl, rfl, ?_⟩
  intro ea A nt L ls l F hh N x K en hx ef hF eh hhh
  obtain ⟨fr, e5, i, v, sb, sr, hFi, hiT, e4, e6, hv, hA, hK, ht, hsr, hr⟩ := hI ea A nt L ls l F hh N x K en hx ef hF eh hhh
  subst ea en ef eh e4 e5 e6
  have K1 := K.fr fr
  have W := K1.2.2.2.2.2.2.2
  have hN : N < 12 := by have := (List.getElem?_eq_some_iff.mp hx).1; have := W.1; omega
  obtain ⟨b1, b2, b3, b4⟩ := K1.2.2.2.2.2.2.1.2.1 N x hx
  obtain ⟨w1, w2, w3, w4, w5, w6⟩ := W.2.2.2 N x hx
  have L4 := W.2.1
  have ks : q_r (τ.1 205 17) = 213 := by rw [K1.2.1]; rfl
  have kw := K1.1.q
  have n392 := ix392n (i := N) (by omega)
  have v392 : q_i (τ.1 206 (392 + 4 * N)) = Int32.ofNat x.2.2.2 := by rw [b4]; rfl
  have hl := hK.len
  simp only [kw, n392, v392] at h3
  rw [o32 (by omega), o32 (by omega)] at h3
  obtain ⟨y, s', hy, hs, ht'⟩ := eTn_st (n := x.2.2.2 - (i + 1)) (i := i) (s := sb) (r := sr) (by rw [show x.2.2.2 - (i + 1) + 1 = x.2.2.2 - i by omega]; exact ht)
  have hr' : eRn (eFa A nt F hh) l (x.2.2.2 - (i + 1)) (i + 1) (eS (eFa A nt F hh) y v) = eRn (eFa A nt F hh) l (x.2.2.2 - x.2.2.1) x.2.2.1 [] := by
    rw [← hr, show x.2.2.2 - i = x.2.2.2 - (i + 1) + 1 by omega, eRn_st hy]
  obtain ⟨y1, y2⟩ := K1.2.2.2.2.2.2.1.2.2 i y hy
  have y1 : q_i (τ.1 206 (437 + 2 * i)) = Int32.ofNat y.1 := by rw [y1]; rfl
  have y2 : q_i (τ.1 206 (438 + 2 * i)) = Int32.ofNat y.2 := by rw [y2]; rfl
  have n437 := ix437 (i := i) (by omega)
  have n438 := ix438 (i := i) (by omega)
  have q14 := eT_lt hs
  have o14 : (Int32.ofNat y.1).toInt = (y.1 : Int) := o32 (by omega)
  have hK' := hK.step (eFa_F (H := A) (nt := nt) (F := F) (n := hh)) hs
  simp only [kw, n437, y1, o14] at h8 h9
  have q8 : ¬ y.1 ≤ 8 := by omega
  have q12 : y.1 ≠ 12 := by omega
  obtain ⟨q, hq⟩ := eT_join q8 q12 hs
  have hl2 : 2 ≤ v.length := by
    rcases hq with ⟨-, g, -⟩ | ⟨-, g, -⟩ | ⟨-, g, -⟩ <;> rw [g] at hl <;> simp only [List.length_cons] at hl <;> omega
  obtain ⟨a, b, v0, rfl⟩ := two_of hl2
  have hv : v0.length + 1 + 1 ≤ 32 := hv
  have n0 : Int32.ofNat (a :: b :: v0).length + Int32.ofInt (-1) = Int32.ofNat (v0.length + 1) := o32d (n := v0.length + 1) (by omega)
  have n1 : Int32.ofNat (v0.length + 1) - Int32.ofInt 1 = Int32.ofNat v0.length := o32s (by omega)
  have n2 : (Int32.ofNat v0.length).toNatClampNeg = v0.length := o32n (by omega)
  have n3 : (Int32.ofNat (v0.length + 1)).toNatClampNeg = v0.length + 1 := o32n (by omega)
  have va : q_i (τ.1 213 (v0.length + 1)) = a := by rw [show τ.1 213 (v0.length + 1) = .int a from hA.1]; rfl
  have vb : q_i (τ.1 213 v0.length) = b := by rw [hA.2.1]; rfl
  have eS1 : eS (eFa A nt F hh) y (a :: b :: v0) = eJ y.1 b a :: v0 := by
    show (if y.1 ≤ 8 then _ else if y.1 = 12 then _ else _) = _
    rw [if_neg q8, if_neg q12]
  rw [eS1] at hK' hr'
  simp only [kw, ks, n437, y1, o14, n0, n1, n2, n3, va, vb] at h12 h13 h33 h34
  simp only [ks, kw, n437, y1, n0, n1, n2, n3, va, vb]
  have hk : y.1 = 11 := by omega
  have ej : Int32.ofInt 0 = eJ y.1 b a := by
    unfold eJ
    rw [hk]
    rw [if_neg (by decide), if_neg (by decide), if_pos rfl]
    rw [if_neg (fun q => by rw [Int32.lt_iff_toInt_lt] at q; omega)]
  exact ⟨fr.w, (by trivial), i + 1, eJ y.1 b a :: v0, s', sr, by omega, by omega, rfl, o32i (by omega), (by show v0.length + 1 ≤ 32; omega), ⟨(q_w_at _ _ _ _).trans (congrArg Value.int ej), eA.w hA.2.2 (Nat.le_refl _)⟩, hK', ht', hsr, hr'⟩
theorem sp_237_c15_ftttftf (a0 : Nat) (a1 : Int32) (a2 : Int32) (a3 : Int32) (σ : zSg) (l0 : Nat) (l2 : Int32) (l3 : Int32) (l4 : Int32) (l5 : Int32) (l6 : Int32) (τ : zSg) (hI : i_237 a0 a1 a2 a3 σ l0 l2 l3 l4 l5 l6 τ) (h2 : 0 ≤ (l5 + (Int32.ofInt (3))).toInt ∧ (l5 + (Int32.ofInt (3))).toInt < (τ.2.1 (q_r (τ.1 l0 1)) : Int)) (h3 : l6.toInt < (q_i (τ.1 (q_r (τ.1 l0 1)) (l5 + (Int32.ofInt (3))).toNatClampNeg)).toInt) (h7 : 0 ≤ ((Int32.ofInt (437)) + ((Int32.ofInt (2)) * l6)).toInt ∧ ((Int32.ofInt (437)) + ((Int32.ofInt (2)) * l6)).toInt < (τ.2.1 (q_r (τ.1 l0 1)) : Int)) (h8 : (q_i (τ.1 (q_r (τ.1 l0 1)) ((Int32.ofInt (437)) + ((Int32.ofInt (2)) * l6)).toNatClampNeg)).toInt > (8 : Int)) (h9 : (q_i (τ.1 (q_r (τ.1 l0 1)) ((Int32.ofInt (437)) + ((Int32.ofInt (2)) * l6)).toNatClampNeg)).toInt ≠ (12 : Int)) (h10 : 0 ≤ ((l4 + Int32.ofInt (-1)) - (Int32.ofInt (1))).toInt ∧ ((l4 + Int32.ofInt (-1)) - (Int32.ofInt (1))).toInt < (τ.2.1 (q_r (τ.1 l0 17)) : Int)) (h11 : 0 ≤ (l4 + Int32.ofInt (-1)).toInt ∧ (l4 + Int32.ofInt (-1)).toInt < (τ.2.1 (q_r (τ.1 l0 17)) : Int)) (h12 : (q_i (τ.1 (q_r (τ.1 l0 1)) ((Int32.ofInt (437)) + ((Int32.ofInt (2)) * l6)).toNatClampNeg)).toInt ≠ (10 : Int)) (h13 : (q_i (τ.1 (q_r (τ.1 l0 1)) ((Int32.ofInt (437)) + ((Int32.ofInt (2)) * l6)).toNatClampNeg)).toInt = (11 : Int)) (h33 : (q_i (τ.1 (q_r (τ.1 l0 17)) ((l4 + Int32.ofInt (-1)) - (Int32.ofInt (1))).toNatClampNeg)).toInt ≤ (q_i (τ.1 (q_r (τ.1 l0 17)) (l4 + Int32.ofInt (-1)).toNatClampNeg)).toInt) (h34 : (q_i (τ.1 (q_r (τ.1 l0 1)) ((Int32.ofInt (437)) + ((Int32.ofInt (2)) * l6)).toNatClampNeg)).toInt = (9 : Int)) (h37 : 0 ≤ ((l4 + Int32.ofInt (-1)) - (Int32.ofInt (1))).toInt ∧ ((l4 + Int32.ofInt (-1)) - (Int32.ofInt (1))).toInt < (τ.2.1 (q_r (τ.1 l0 17)) : Int)) :
    i_237 a0 a1 a2 a3 σ l0 l2 l3 (l4 + Int32.ofInt (-1)) l5 (l6 + Int32.ofInt (1)) (q_w τ (q_r (τ.1 l0 17)) ((l4 + Int32.ofInt (-1)) - (Int32.ofInt (1))).toNatClampNeg (.int ((q_i (τ.1 (q_r (τ.1 l0 17)) ((l4 + Int32.ofInt (-1)) - (Int32.ofInt (1))).toNatClampNeg)) + (q_i (τ.1 (q_r (τ.1 l0 17)) (l4 + Int32.ofInt (-1)).toNatClampNeg))))) := by
  obtain ⟨rfl, rfl, rfl, hI⟩ := hI
  refine ⟨rfl, rfl, rfl, ?_⟩
  intro ea A nt L ls l F hh N x K en hx ef hF eh hhh
  obtain ⟨fr, e5, i, v, sb, sr, hFi, hiT, e4, e6, hv, hA, hK, ht, hsr, hr⟩ := hI ea A nt L ls l F hh N x K en hx ef hF eh hhh
  subst ea en ef eh e4 e5 e6
  have K1 := K.fr fr
  have W := K1.2.2.2.2.2.2.2
  have hN : N < 12 := by have := (List.getElem?_eq_some_iff.mp hx).1; have := W.1; omega
  obtain ⟨b1, b2, b3, b4⟩ := K1.2.2.2.2.2.2.1.2.1 N x hx
  obtain ⟨w1, w2, w3, w4, w5, w6⟩ := W.2.2.2 N x hx
  have L4 := W.2.1
  have ks : q_r (τ.1 205 17) = 213 := by rw [K1.2.1]; rfl
  have kw := K1.1.q
  have n392 := ix392n (i := N) (by omega)
  have v392 : q_i (τ.1 206 (392 + 4 * N)) = Int32.ofNat x.2.2.2 := by rw [b4]; rfl
  have hl := hK.len
  simp only [kw, n392, v392] at h3
  rw [o32 (by omega), o32 (by omega)] at h3
  obtain ⟨y, s', hy, hs, ht'⟩ := eTn_st (n := x.2.2.2 - (i + 1)) (i := i) (s := sb) (r := sr) (by rw [show x.2.2.2 - (i + 1) + 1 = x.2.2.2 - i by omega]; exact ht)
  have hr' : eRn (eFa A nt F hh) l (x.2.2.2 - (i + 1)) (i + 1) (eS (eFa A nt F hh) y v) = eRn (eFa A nt F hh) l (x.2.2.2 - x.2.2.1) x.2.2.1 [] := by
    rw [← hr, show x.2.2.2 - i = x.2.2.2 - (i + 1) + 1 by omega, eRn_st hy]
  obtain ⟨y1, y2⟩ := K1.2.2.2.2.2.2.1.2.2 i y hy
  have y1 : q_i (τ.1 206 (437 + 2 * i)) = Int32.ofNat y.1 := by rw [y1]; rfl
  have y2 : q_i (τ.1 206 (438 + 2 * i)) = Int32.ofNat y.2 := by rw [y2]; rfl
  have n437 := ix437 (i := i) (by omega)
  have n438 := ix438 (i := i) (by omega)
  have q14 := eT_lt hs
  have o14 : (Int32.ofNat y.1).toInt = (y.1 : Int) := o32 (by omega)
  have hK' := hK.step (eFa_F (H := A) (nt := nt) (F := F) (n := hh)) hs
  simp only [kw, n437, y1, o14] at h8 h9
  have q8 : ¬ y.1 ≤ 8 := by omega
  have q12 : y.1 ≠ 12 := by omega
  obtain ⟨q, hq⟩ := eT_join q8 q12 hs
  have hl2 : 2 ≤ v.length := by
    rcases hq with ⟨-, g, -⟩ | ⟨-, g, -⟩ | ⟨-, g, -⟩ <;> rw [g] at hl <;> simp only [List.length_cons] at hl <;> omega
  obtain ⟨a, b, v0, rfl⟩ := two_of hl2
  have hv : v0.length + 1 + 1 ≤ 32 := hv
  have n0 : Int32.ofNat (a :: b :: v0).length + Int32.ofInt (-1) = Int32.ofNat (v0.length + 1) := o32d (n := v0.length + 1) (by omega)
  have n1 : Int32.ofNat (v0.length + 1) - Int32.ofInt 1 = Int32.ofNat v0.length := o32s (by omega)
  have n2 : (Int32.ofNat v0.length).toNatClampNeg = v0.length := o32n (by omega)
  have n3 : (Int32.ofNat (v0.length + 1)).toNatClampNeg = v0.length + 1 := o32n (by omega)
  have va : q_i (τ.1 213 (v0.length + 1)) = a := by rw [show τ.1 213 (v0.length + 1) = .int a from hA.1]; rfl
  have vb : q_i (τ.1 213 v0.length) = b := by rw [hA.2.1]; rfl
  have eS1 : eS (eFa A nt F hh) y (a :: b :: v0) = eJ y.1 b a :: v0 := by
    show (if y.1 ≤ 8 then _ else if y.1 = 12 then _ else _) = _
    rw [if_neg q8, if_neg q12]
  rw [eS1] at hK' hr'
  simp only [kw, ks, n437, y1, o14, n0, n1, n2, n3, va, vb] at h12 h13 h33 h34
  simp only [ks, kw, n437, y1, n0, n1, n2, n3, va, vb]
  exfalso
  omega
theorem sp_237_c15_ftttfft (a0 : Nat) (a1 : Int32) (a2 : Int32) (a3 : Int32) (σ : zSg) (l0 : Nat) (l2 : Int32) (l3 : Int32) (l4 : Int32) (l5 : Int32) (l6 : Int32) (τ : zSg) (hI : i_237 a0 a1 a2 a3 σ l0 l2 l3 l4 l5 l6 τ) (h2 : 0 ≤ (l5 + (Int32.ofInt (3))).toInt ∧ (l5 + (Int32.ofInt (3))).toInt < (τ.2.1 (q_r (τ.1 l0 1)) : Int)) (h3 : l6.toInt < (q_i (τ.1 (q_r (τ.1 l0 1)) (l5 + (Int32.ofInt (3))).toNatClampNeg)).toInt) (h7 : 0 ≤ ((Int32.ofInt (437)) + ((Int32.ofInt (2)) * l6)).toInt ∧ ((Int32.ofInt (437)) + ((Int32.ofInt (2)) * l6)).toInt < (τ.2.1 (q_r (τ.1 l0 1)) : Int)) (h8 : (q_i (τ.1 (q_r (τ.1 l0 1)) ((Int32.ofInt (437)) + ((Int32.ofInt (2)) * l6)).toNatClampNeg)).toInt > (8 : Int)) (h9 : (q_i (τ.1 (q_r (τ.1 l0 1)) ((Int32.ofInt (437)) + ((Int32.ofInt (2)) * l6)).toNatClampNeg)).toInt ≠ (12 : Int)) (h10 : 0 ≤ ((l4 + Int32.ofInt (-1)) - (Int32.ofInt (1))).toInt ∧ ((l4 + Int32.ofInt (-1)) - (Int32.ofInt (1))).toInt < (τ.2.1 (q_r (τ.1 l0 17)) : Int)) (h11 : 0 ≤ (l4 + Int32.ofInt (-1)).toInt ∧ (l4 + Int32.ofInt (-1)).toInt < (τ.2.1 (q_r (τ.1 l0 17)) : Int)) (h12 : (q_i (τ.1 (q_r (τ.1 l0 1)) ((Int32.ofInt (437)) + ((Int32.ofInt (2)) * l6)).toNatClampNeg)).toInt ≠ (10 : Int)) (h13 : (q_i (τ.1 (q_r (τ.1 l0 1)) ((Int32.ofInt (437)) + ((Int32.ofInt (2)) * l6)).toNatClampNeg)).toInt = (11 : Int)) (h33 : (q_i (τ.1 (q_r (τ.1 l0 17)) ((l4 + Int32.ofInt (-1)) - (Int32.ofInt (1))).toNatClampNeg)).toInt > (q_i (τ.1 (q_r (τ.1 l0 17)) (l4 + Int32.ofInt (-1)).toNatClampNeg)).toInt) (h38 : (q_i (τ.1 (q_r (τ.1 l0 1)) ((Int32.ofInt (437)) + ((Int32.ofInt (2)) * l6)).toNatClampNeg)).toInt ≠ (9 : Int)) (h40 : 0 ≤ ((l4 + Int32.ofInt (-1)) - (Int32.ofInt (1))).toInt ∧ ((l4 + Int32.ofInt (-1)) - (Int32.ofInt (1))).toInt < (τ.2.1 (q_r (τ.1 l0 17)) : Int)) :
    i_237 a0 a1 a2 a3 σ l0 l2 l3 (l4 + Int32.ofInt (-1)) l5 (l6 + Int32.ofInt (1)) (q_w τ (q_r (τ.1 l0 17)) ((l4 + Int32.ofInt (-1)) - (Int32.ofInt (1))).toNatClampNeg (.int (Int32.ofInt (1)))) := by
  obtain ⟨rfl, rfl, rfl, hI⟩ := hI
  refine ⟨rfl, rfl, rfl, ?_⟩
  intro ea A nt L ls l F hh N x K en hx ef hF eh hhh
  obtain ⟨fr, e5, i, v, sb, sr, hFi, hiT, e4, e6, hv, hA, hK, ht, hsr, hr⟩ := hI ea A nt L ls l F hh N x K en hx ef hF eh hhh
  subst ea en ef eh e4 e5 e6
  have K1 := K.fr fr
  have W := K1.2.2.2.2.2.2.2
  have hN : N < 12 := by have := (List.getElem?_eq_some_iff.mp hx).1; have := W.1; omega
  obtain ⟨b1, b2, b3, b4⟩ := K1.2.2.2.2.2.2.1.2.1 N x hx
  obtain ⟨w1, w2, w3, w4, w5, w6⟩ := W.2.2.2 N x hx
  have L4 := W.2.1
  have ks : q_r (τ.1 205 17) = 213 := by rw [K1.2.1]; rfl
  have kw := K1.1.q
  have n392 := ix392n (i := N) (by omega)
  have v392 : q_i (τ.1 206 (392 + 4 * N)) = Int32.ofNat x.2.2.2 := by rw [b4]; rfl
  have hl := hK.len
  simp only [kw, n392, v392] at h3
  rw [o32 (by omega), o32 (by omega)] at h3
  obtain ⟨y, s', hy, hs, ht'⟩ := eTn_st (n := x.2.2.2 - (i + 1)) (i := i) (s := sb) (r := sr) (by rw [show x.2.2.2 - (i + 1) + 1 = x.2.2.2 - i by omega]; exact ht)
  have hr' : eRn (eFa A nt F hh) l (x.2.2.2 - (i + 1)) (i + 1) (eS (eFa A nt F hh) y v) = eRn (eFa A nt F hh) l (x.2.2.2 - x.2.2.1) x.2.2.1 [] := by
    rw [← hr, show x.2.2.2 - i = x.2.2.2 - (i + 1) + 1 by omega, eRn_st hy]
  obtain ⟨y1, y2⟩ := K1.2.2.2.2.2.2.1.2.2 i y hy
  have y1 : q_i (τ.1 206 (437 + 2 * i)) = Int32.ofNat y.1 := by rw [y1]; rfl
  have y2 : q_i (τ.1 206 (438 + 2 * i)) = Int32.ofNat y.2 := by rw [y2]; rfl
  have n437 := ix437 (i := i) (by omega)
  have n438 := ix438 (i := i) (by omega)
  have q14 := eT_lt hs
  have o14 : (Int32.ofNat y.1).toInt = (y.1 : Int) := o32 (by omega)
  have hK' := hK.step (eFa_F (H := A) (nt := nt) (F := F) (n := hh)) hs
  simp only [kw, n437, y1, o14] at h8 h9
  have q8 : ¬ y.1 ≤ 8 := by omega
  have q12 : y.1 ≠ 12 := by omega
  obtain ⟨q, hq⟩ := eT_join q8 q12 hs
  have hl2 : 2 ≤ v.length := by
    rcases hq with ⟨-, g, -⟩ | ⟨-, g, -⟩ | ⟨-, g, -⟩ <;> rw [g] at hl <;> simp only [List.length_cons] at hl <;> omega
  obtain ⟨a, b, v0, rfl⟩ := two_of hl2
  have hv : v0.length + 1 + 1 ≤ 32 := hv
  have n0 : Int32.ofNat (a :: b :: v0).length + Int32.ofInt (-1) = Int32.ofNat (v0.length + 1) := o32d (n := v0.length + 1) (by omega)
  have n1 : Int32.ofNat (v0.length + 1) - Int32.ofInt 1 = Int32.ofNat v0.length := o32s (by omega)
  have n2 : (Int32.ofNat v0.length).toNatClampNeg = v0.length := o32n (by omega)
  have n3 : (Int32.ofNat (v0.length + 1)).toNatClampNeg = v0.length + 1 := o32n (by omega)
  have va : q_i (τ.1 213 (v0.length + 1)) = a := by rw [show τ.1 213 (v0.length + 1) = .int a from hA.1]; rfl
  have vb : q_i (τ.1 213 v0.length) = b := by rw [hA.2.1]; rfl
  have eS1 : eS (eFa A nt F hh) y (a :: b :: v0) = eJ y.1 b a :: v0 := by
    show (if y.1 ≤ 8 then _ else if y.1 = 12 then _ else _) = _
    rw [if_neg q8, if_neg q12]
  rw [eS1] at hK' hr'
  simp only [kw, ks, n437, y1, o14, n0, n1, n2, n3, va, vb] at h12 h13 h33 h38
  simp only [ks, kw, n437, y1, n0, n1, n2, n3, va, vb]
  have hk : y.1 = 11 := by omega
  have ej : Int32.ofInt 1 = eJ y.1 b a := by
    unfold eJ
    rw [hk]
    rw [if_neg (by decide), if_neg (by decide), if_pos rfl]
    rw [if_pos (Int32.lt_iff_toInt_lt.mpr (by omega))]
  exact ⟨fr.w, (by trivial), i + 1, eJ y.1 b a :: v0, s', sr, by omega, by omega, rfl, o32i (by omega), (by show v0.length + 1 ≤ 32; omega), ⟨(q_w_at _ _ _ _).trans (congrArg Value.int ej), eA.w hA.2.2 (Nat.le_refl _)⟩, hK', ht', hsr, hr'⟩
theorem sp_237_c15_ftttfff (a0 : Nat) (a1 : Int32) (a2 : Int32) (a3 : Int32) (σ : zSg) (l0 : Nat) (l2 : Int32) (l3 : Int32) (l4 : Int32) (l5 : Int32) (l6 : Int32) (τ : zSg) (hI : i_237 a0 a1 a2 a3 σ l0 l2 l3 l4 l5 l6 τ) (h2 : 0 ≤ (l5 + (Int32.ofInt (3))).toInt ∧ (l5 + (Int32.ofInt (3))).toInt < (τ.2.1 (q_r (τ.1 l0 1)) : Int)) (h3 : l6.toInt < (q_i (τ.1 (q_r (τ.1 l0 1)) (l5 + (Int32.ofInt (3))).toNatClampNeg)).toInt) (h7 : 0 ≤ ((Int32.ofInt (437)) + ((Int32.ofInt (2)) * l6)).toInt ∧ ((Int32.ofInt (437)) + ((Int32.ofInt (2)) * l6)).toInt < (τ.2.1 (q_r (τ.1 l0 1)) : Int)) (h8 : (q_i (τ.1 (q_r (τ.1 l0 1)) ((Int32.ofInt (437)) + ((Int32.ofInt (2)) * l6)).toNatClampNeg)).toInt > (8 : Int)) (h9 : (q_i (τ.1 (q_r (τ.1 l0 1)) ((Int32.ofInt (437)) + ((Int32.ofInt (2)) * l6)).toNatClampNeg)).toInt ≠ (12 : Int)) (h10 : 0 ≤ ((l4 + Int32.ofInt (-1)) - (Int32.ofInt (1))).toInt ∧ ((l4 + Int32.ofInt (-1)) - (Int32.ofInt (1))).toInt < (τ.2.1 (q_r (τ.1 l0 17)) : Int)) (h11 : 0 ≤ (l4 + Int32.ofInt (-1)).toInt ∧ (l4 + Int32.ofInt (-1)).toInt < (τ.2.1 (q_r (τ.1 l0 17)) : Int)) (h12 : (q_i (τ.1 (q_r (τ.1 l0 1)) ((Int32.ofInt (437)) + ((Int32.ofInt (2)) * l6)).toNatClampNeg)).toInt ≠ (10 : Int)) (h13 : (q_i (τ.1 (q_r (τ.1 l0 1)) ((Int32.ofInt (437)) + ((Int32.ofInt (2)) * l6)).toNatClampNeg)).toInt = (11 : Int)) (h33 : (q_i (τ.1 (q_r (τ.1 l0 17)) ((l4 + Int32.ofInt (-1)) - (Int32.ofInt (1))).toNatClampNeg)).toInt > (q_i (τ.1 (q_r (τ.1 l0 17)) (l4 + Int32.ofInt (-1)).toNatClampNeg)).toInt) (h38 : (q_i (τ.1 (q_r (τ.1 l0 1)) ((Int32.ofInt (437)) + ((Int32.ofInt (2)) * l6)).toNatClampNeg)).toInt = (9 : Int)) (h41 : 0 ≤ ((l4 + Int32.ofInt (-1)) - (Int32.ofInt (1))).toInt ∧ ((l4 + Int32.ofInt (-1)) - (Int32.ofInt (1))).toInt < (τ.2.1 (q_r (τ.1 l0 17)) : Int)) :
    i_237 a0 a1 a2 a3 σ l0 l2 l3 (l4 + Int32.ofInt (-1)) l5 (l6 + Int32.ofInt (1)) (q_w τ (q_r (τ.1 l0 17)) ((l4 + Int32.ofInt (-1)) - (Int32.ofInt (1))).toNatClampNeg (.int ((q_i (τ.1 (q_r (τ.1 l0 17)) ((l4 + Int32.ofInt (-1)) - (Int32.ofInt (1))).toNatClampNeg)) + (q_i (τ.1 (q_r (τ.1 l0 17)) (l4 + Int32.ofInt (-1)).toNatClampNeg))))) := by
  obtain ⟨rfl, rfl, rfl, hI⟩ := hI
  refine ⟨rfl, rfl, rfl, ?_⟩
  intro ea A nt L ls l F hh N x K en hx ef hF eh hhh
  obtain ⟨fr, e5, i, v, sb, sr, hFi, hiT, e4, e6, hv, hA, hK, ht, hsr, hr⟩ := hI ea A nt L ls l F hh N x K en hx ef hF eh hhh
  subst ea en ef eh e4 e5 e6
  have K1 := K.fr fr
  have W := K1.2.2.2.2.2.2.2
  have hN : N < 12 := by have := (List.getElem?_eq_some_iff.mp hx).1; have := W.1; omega
  obtain ⟨b1, b2, b3, b4⟩ := K1.2.2.2.2.2.2.1.2.1 N x hx
  obtain ⟨w1, w2, w3, w4, w5, w6⟩ := W.2.2.2 N x hx
  have L4 := W.2.1
  have ks : q_r (τ.1 205 17) = 213 := by rw [K1.2.1]; rfl
  have kw := K1.1.q
  have n392 := ix392n (i := N) (by omega)
  have v392 : q_i (τ.1 206 (392 + 4 * N)) = Int32.ofNat x.2.2.2 := by rw [b4]; rfl
  have hl := hK.len
  simp only [kw, n392, v392] at h3
  rw [o32 (by omega), o32 (by omega)] at h3
  obtain ⟨y, s', hy, hs, ht'⟩ := eTn_st (n := x.2.2.2 - (i + 1)) (i := i) (s := sb) (r := sr) (by rw [show x.2.2.2 - (i + 1) + 1 = x.2.2.2 - i by omega]; exact ht)
  have hr' : eRn (eFa A nt F hh) l (x.2.2.2 - (i + 1)) (i + 1) (eS (eFa A nt F hh) y v) = eRn (eFa A nt F hh) l (x.2.2.2 - x.2.2.1) x.2.2.1 [] := by
    rw [← hr, show x.2.2.2 - i = x.2.2.2 - (i + 1) + 1 by omega, eRn_st hy]
  obtain ⟨y1, y2⟩ := K1.2.2.2.2.2.2.1.2.2 i y hy
  have y1 : q_i (τ.1 206 (437 + 2 * i)) = Int32.ofNat y.1 := by rw [y1]; rfl
  have y2 : q_i (τ.1 206 (438 + 2 * i)) = Int32.ofNat y.2 := by rw [y2]; rfl
  have n437 := ix437 (i := i) (by omega)
  have n438 := ix438 (i := i) (by omega)
  have q14 := eT_lt hs
  have o14 : (Int32.ofNat y.1).toInt = (y.1 : Int) := o32 (by omega)
  have hK' := hK.step (eFa_F (H := A) (nt := nt) (F := F) (n := hh)) hs
  simp only [kw, n437, y1, o14] at h8 h9
  have q8 : ¬ y.1 ≤ 8 := by omega
  have q12 : y.1 ≠ 12 := by omega
  obtain ⟨q, hq⟩ := eT_join q8 q12 hs
  have hl2 : 2 ≤ v.length := by
    rcases hq with ⟨-, g, -⟩ | ⟨-, g, -⟩ | ⟨-, g, -⟩ <;> rw [g] at hl <;> simp only [List.length_cons] at hl <;> omega
  obtain ⟨a, b, v0, rfl⟩ := two_of hl2
  have hv : v0.length + 1 + 1 ≤ 32 := hv
  have n0 : Int32.ofNat (a :: b :: v0).length + Int32.ofInt (-1) = Int32.ofNat (v0.length + 1) := o32d (n := v0.length + 1) (by omega)
  have n1 : Int32.ofNat (v0.length + 1) - Int32.ofInt 1 = Int32.ofNat v0.length := o32s (by omega)
  have n2 : (Int32.ofNat v0.length).toNatClampNeg = v0.length := o32n (by omega)
  have n3 : (Int32.ofNat (v0.length + 1)).toNatClampNeg = v0.length + 1 := o32n (by omega)
  have va : q_i (τ.1 213 (v0.length + 1)) = a := by rw [show τ.1 213 (v0.length + 1) = .int a from hA.1]; rfl
  have vb : q_i (τ.1 213 v0.length) = b := by rw [hA.2.1]; rfl
  have eS1 : eS (eFa A nt F hh) y (a :: b :: v0) = eJ y.1 b a :: v0 := by
    show (if y.1 ≤ 8 then _ else if y.1 = 12 then _ else _) = _
    rw [if_neg q8, if_neg q12]
  rw [eS1] at hK' hr'
  simp only [kw, ks, n437, y1, o14, n0, n1, n2, n3, va, vb] at h12 h13 h33 h38
  simp only [ks, kw, n437, y1, n0, n1, n2, n3, va, vb]
  exfalso
  omega
theorem sp_237_c15_fttftt (a0 : Nat) (a1 : Int32) (a2 : Int32) (a3 : Int32) (σ : zSg) (l0 : Nat) (l2 : Int32) (l3 : Int32) (l4 : Int32) (l5 : Int32) (l6 : Int32) (τ : zSg) (hI : i_237 a0 a1 a2 a3 σ l0 l2 l3 l4 l5 l6 τ) (h2 : 0 ≤ (l5 + (Int32.ofInt (3))).toInt ∧ (l5 + (Int32.ofInt (3))).toInt < (τ.2.1 (q_r (τ.1 l0 1)) : Int)) (h3 : l6.toInt < (q_i (τ.1 (q_r (τ.1 l0 1)) (l5 + (Int32.ofInt (3))).toNatClampNeg)).toInt) (h7 : 0 ≤ ((Int32.ofInt (437)) + ((Int32.ofInt (2)) * l6)).toInt ∧ ((Int32.ofInt (437)) + ((Int32.ofInt (2)) * l6)).toInt < (τ.2.1 (q_r (τ.1 l0 1)) : Int)) (h8 : (q_i (τ.1 (q_r (τ.1 l0 1)) ((Int32.ofInt (437)) + ((Int32.ofInt (2)) * l6)).toNatClampNeg)).toInt > (8 : Int)) (h9 : (q_i (τ.1 (q_r (τ.1 l0 1)) ((Int32.ofInt (437)) + ((Int32.ofInt (2)) * l6)).toNatClampNeg)).toInt ≠ (12 : Int)) (h10 : 0 ≤ ((l4 + Int32.ofInt (-1)) - (Int32.ofInt (1))).toInt ∧ ((l4 + Int32.ofInt (-1)) - (Int32.ofInt (1))).toInt < (τ.2.1 (q_r (τ.1 l0 17)) : Int)) (h11 : 0 ≤ (l4 + Int32.ofInt (-1)).toInt ∧ (l4 + Int32.ofInt (-1)).toInt < (τ.2.1 (q_r (τ.1 l0 17)) : Int)) (h12 : (q_i (τ.1 (q_r (τ.1 l0 1)) ((Int32.ofInt (437)) + ((Int32.ofInt (2)) * l6)).toNatClampNeg)).toInt = (10 : Int)) (h42 : (q_i (τ.1 (q_r (τ.1 l0 17)) ((l4 + Int32.ofInt (-1)) - (Int32.ofInt (1))).toNatClampNeg)).toInt ≥ (q_i (τ.1 (q_r (τ.1 l0 17)) (l4 + Int32.ofInt (-1)).toNatClampNeg)).toInt) (h43 : (q_i (τ.1 (q_r (τ.1 l0 1)) ((Int32.ofInt (437)) + ((Int32.ofInt (2)) * l6)).toNatClampNeg)).toInt ≠ (9 : Int)) (h45 : 0 ≤ ((l4 + Int32.ofInt (-1)) - (Int32.ofInt (1))).toInt ∧ ((l4 + Int32.ofInt (-1)) - (Int32.ofInt (1))).toInt < (τ.2.1 (q_r (τ.1 l0 17)) : Int)) :
    i_237 a0 a1 a2 a3 σ l0 l2 l3 (l4 + Int32.ofInt (-1)) l5 (l6 + Int32.ofInt (1)) (q_w τ (q_r (τ.1 l0 17)) ((l4 + Int32.ofInt (-1)) - (Int32.ofInt (1))).toNatClampNeg (.int (Int32.ofInt (0)))) := by
  obtain ⟨rfl, rfl, rfl, hI⟩ := hI
  refine ⟨rfl, rfl, rfl, ?_⟩
  intro ea A nt L ls l F hh N x K en hx ef hF eh hhh
  obtain ⟨fr, e5, i, v, sb, sr, hFi, hiT, e4, e6, hv, hA, hK, ht, hsr, hr⟩ := hI ea A nt L ls l F hh N x K en hx ef hF eh hhh
  subst ea en ef eh e4 e5 e6
  have K1 := K.fr fr
  have W := K1.2.2.2.2.2.2.2
  have hN : N < 12 := by have := (List.getElem?_eq_some_iff.mp hx).1; have := W.1; omega
  obtain ⟨b1, b2, b3, b4⟩ := K1.2.2.2.2.2.2.1.2.1 N x hx
  obtain ⟨w1, w2, w3, w4, w5, w6⟩ := W.2.2.2 N x hx
  have L4 := W.2.1
  have ks : q_r (τ.1 205 17) = 213 := by rw [K1.2.1]; rfl
  have kw := K1.1.q
  have n392 := ix392n (i := N) (by omega)
  have v392 : q_i (τ.1 206 (392 + 4 * N)) = Int32.ofNat x.2.2.2 := by rw [b4]; rfl
  have hl := hK.len
  simp only [kw, n392, v392] at h3
  rw [o32 (by omega), o32 (by omega)] at h3
  obtain ⟨y, s', hy, hs, ht'⟩ := eTn_st (n := x.2.2.2 - (i + 1)) (i := i) (s := sb) (r := sr) (by rw [show x.2.2.2 - (i + 1) + 1 = x.2.2.2 - i by omega]; exact ht)
  have hr' : eRn (eFa A nt F hh) l (x.2.2.2 - (i + 1)) (i + 1) (eS (eFa A nt F hh) y v) = eRn (eFa A nt F hh) l (x.2.2.2 - x.2.2.1) x.2.2.1 [] := by
    rw [← hr, show x.2.2.2 - i = x.2.2.2 - (i + 1) + 1 by omega, eRn_st hy]
  obtain ⟨y1, y2⟩ := K1.2.2.2.2.2.2.1.2.2 i y hy
  have y1 : q_i (τ.1 206 (437 + 2 * i)) = Int32.ofNat y.1 := by rw [y1]; rfl
  have y2 : q_i (τ.1 206 (438 + 2 * i)) = Int32.ofNat y.2 := by rw [y2]; rfl
  have n437 := ix437 (i := i) (by omega)
  have n438 := ix438 (i := i) (by omega)
  have q14 := eT_lt hs
  have o14 : (Int32.ofNat y.1).toInt = (y.1 : Int) := o32 (by omega)
  have hK' := hK.step (eFa_F (H := A) (nt := nt) (F := F) (n := hh)) hs
  simp only [kw, n437, y1, o14] at h8 h9
  have q8 : ¬ y.1 ≤ 8 := by omega
  have q12 : y.1 ≠ 12 := by omega
  obtain ⟨q, hq⟩ := eT_join q8 q12 hs
  have hl2 : 2 ≤ v.length := by
    rcases hq with ⟨-, g, -⟩ | ⟨-, g, -⟩ | ⟨-, g, -⟩ <;> rw [g] at hl <;> simp only [List.length_cons] at hl <;> omega
  obtain ⟨a, b, v0, rfl⟩ := two_of hl2
  have hv : v0.length + 1 + 1 ≤ 32 := hv
  have n0 : Int32.ofNat (a :: b :: v0).length + Int32.ofInt (-1) = Int32.ofNat (v0.length + 1) := o32d (n := v0.length + 1) (by omega)
  have n1 : Int32.ofNat (v0.length + 1) - Int32.ofInt 1 = Int32.ofNat v0.length := o32s (by omega)
  have n2 : (Int32.ofNat v0.length).toNatClampNeg = v0.length := o32n (by omega)
  have n3 : (Int32.ofNat (v0.length + 1)).toNatClampNeg = v0.length + 1 := o32n (by omega)
  have va : q_i (τ.1 213 (v0.length + 1)) = a := by rw [show τ.1 213 (v0.length + 1) = .int a from hA.1]; rfl
  have vb : q_i (τ.1 213 v0.length) = b := by rw [hA.2.1]; rfl
  have eS1 : eS (eFa A nt F hh) y (a :: b :: v0) = eJ y.1 b a :: v0 := by
    show (if y.1 ≤ 8 then _ else if y.1 = 12 then _ else _) = _
    rw [if_neg q8, if_neg q12]
  rw [eS1] at hK' hr'
  simp only [kw, ks, n437, y1, o14, n0, n1, n2, n3, va, vb] at h12 h42 h43
  simp only [ks, kw, n437, y1, n0, n1, n2, n3, va, vb]
  have hk : y.1 = 10 := by omega
  have ej : Int32.ofInt 0 = eJ y.1 b a := by
    unfold eJ
    rw [hk]
    rw [if_neg (by decide), if_pos rfl]
    rw [if_neg (fun q => by rw [Int32.lt_iff_toInt_lt] at q; omega)]
  exact ⟨fr.w, (by trivial), i + 1, eJ y.1 b a :: v0, s', sr, by omega, by omega, rfl, o32i (by omega), (by show v0.length + 1 ≤ 32; omega), ⟨(q_w_at _ _ _ _).trans (congrArg Value.int ej), eA.w hA.2.2 (Nat.le_refl _)⟩, hK', ht', hsr, hr'⟩
theorem sp_237_c15_fttftf (a0 : Nat) (a1 : Int32) (a2 : Int32) (a3 : Int32) (σ : zSg) (l0 : Nat) (l2 : Int32) (l3 : Int32) (l4 : Int32) (l5 : Int32) (l6 : Int32) (τ : zSg) (hI : i_237 a0 a1 a2 a3 σ l0 l2 l3 l4 l5 l6 τ) (h2 : 0 ≤ (l5 + (Int32.ofInt (3))).toInt ∧ (l5 + (Int32.ofInt (3))).toInt < (τ.2.1 (q_r (τ.1 l0 1)) : Int)) (h3 : l6.toInt < (q_i (τ.1 (q_r (τ.1 l0 1)) (l5 + (Int32.ofInt (3))).toNatClampNeg)).toInt) (h7 : 0 ≤ ((Int32.ofInt (437)) + ((Int32.ofInt (2)) * l6)).toInt ∧ ((Int32.ofInt (437)) + ((Int32.ofInt (2)) * l6)).toInt < (τ.2.1 (q_r (τ.1 l0 1)) : Int)) (h8 : (q_i (τ.1 (q_r (τ.1 l0 1)) ((Int32.ofInt (437)) + ((Int32.ofInt (2)) * l6)).toNatClampNeg)).toInt > (8 : Int)) (h9 : (q_i (τ.1 (q_r (τ.1 l0 1)) ((Int32.ofInt (437)) + ((Int32.ofInt (2)) * l6)).toNatClampNeg)).toInt ≠ (12 : Int)) (h10 : 0 ≤ ((l4 + Int32.ofInt (-1)) - (Int32.ofInt (1))).toInt ∧ ((l4 + Int32.ofInt (-1)) - (Int32.ofInt (1))).toInt < (τ.2.1 (q_r (τ.1 l0 17)) : Int)) (h11 : 0 ≤ (l4 + Int32.ofInt (-1)).toInt ∧ (l4 + Int32.ofInt (-1)).toInt < (τ.2.1 (q_r (τ.1 l0 17)) : Int)) (h12 : (q_i (τ.1 (q_r (τ.1 l0 1)) ((Int32.ofInt (437)) + ((Int32.ofInt (2)) * l6)).toNatClampNeg)).toInt = (10 : Int)) (h42 : (q_i (τ.1 (q_r (τ.1 l0 17)) ((l4 + Int32.ofInt (-1)) - (Int32.ofInt (1))).toNatClampNeg)).toInt ≥ (q_i (τ.1 (q_r (τ.1 l0 17)) (l4 + Int32.ofInt (-1)).toNatClampNeg)).toInt) (h43 : (q_i (τ.1 (q_r (τ.1 l0 1)) ((Int32.ofInt (437)) + ((Int32.ofInt (2)) * l6)).toNatClampNeg)).toInt = (9 : Int)) (h46 : 0 ≤ ((l4 + Int32.ofInt (-1)) - (Int32.ofInt (1))).toInt ∧ ((l4 + Int32.ofInt (-1)) - (Int32.ofInt (1))).toInt < (τ.2.1 (q_r (τ.1 l0 17)) : Int)) :
    i_237 a0 a1 a2 a3 σ l0 l2 l3 (l4 + Int32.ofInt (-1)) l5 (l6 + Int32.ofInt (1)) (q_w τ (q_r (τ.1 l0 17)) ((l4 + Int32.ofInt (-1)) - (Int32.ofInt (1))).toNatClampNeg (.int ((q_i (τ.1 (q_r (τ.1 l0 17)) ((l4 + Int32.ofInt (-1)) - (Int32.ofInt (1))).toNatClampNeg)) + (q_i (τ.1 (q_r (τ.1 l0 17)) (l4 + Int32.ofInt (-1)).toNatClampNeg))))) := by
  obtain ⟨rfl, rfl, rfl, hI⟩ := hI
  refine ⟨rfl, rfl, rfl, ?_⟩
  intro ea A nt L ls l F hh N x K en hx ef hF eh hhh
  obtain ⟨fr, e5, i, v, sb, sr, hFi, hiT, e4, e6, hv, hA, hK, ht, hsr, hr⟩ := hI ea A nt L ls l F hh N x K en hx ef hF eh hhh
  subst ea en ef eh e4 e5 e6
  have K1 := K.fr fr
  have W := K1.2.2.2.2.2.2.2
  have hN : N < 12 := by have := (List.getElem?_eq_some_iff.mp hx).1; have := W.1; omega
  obtain ⟨b1, b2, b3, b4⟩ := K1.2.2.2.2.2.2.1.2.1 N x hx
  obtain ⟨w1, w2, w3, w4, w5, w6⟩ := W.2.2.2 N x hx
  have L4 := W.2.1
  have ks : q_r (τ.1 205 17) = 213 := by rw [K1.2.1]; rfl
  have kw := K1.1.q
  have n392 := ix392n (i := N) (by omega)
  have v392 : q_i (τ.1 206 (392 + 4 * N)) = Int32.ofNat x.2.2.2 := by rw [b4]; rfl
  have hl := hK.len
  simp only [kw, n392, v392] at h3
  rw [o32 (by omega), o32 (by omega)] at h3
  obtain ⟨y, s', hy, hs, ht'⟩ := eTn_st (n := x.2.2.2 - (i + 1)) (i := i) (s := sb) (r := sr) (by rw [show x.2.2.2 - (i + 1) + 1 = x.2.2.2 - i by omega]; exact ht)
  have hr' : eRn (eFa A nt F hh) l (x.2.2.2 - (i + 1)) (i + 1) (eS (eFa A nt F hh) y v) = eRn (eFa A nt F hh) l (x.2.2.2 - x.2.2.1) x.2.2.1 [] := by
    rw [← hr, show x.2.2.2 - i = x.2.2.2 - (i + 1) + 1 by omega, eRn_st hy]
  obtain ⟨y1, y2⟩ := K1.2.2.2.2.2.2.1.2.2 i y hy
  have y1 : q_i (τ.1 206 (437 + 2 * i)) = Int32.ofNat y.1 := by rw [y1]; rfl
  have y2 : q_i (τ.1 206 (438 + 2 * i)) = Int32.ofNat y.2 := by rw [y2]; rfl
  have n437 := ix437 (i := i) (by omega)
  have n438 := ix438 (i := i) (by omega)
  have q14 := eT_lt hs
  have o14 : (Int32.ofNat y.1).toInt = (y.1 : Int) := o32 (by omega)
  have hK' := hK.step (eFa_F (H := A) (nt := nt) (F := F) (n := hh)) hs
  simp only [kw, n437, y1, o14] at h8 h9
  have q8 : ¬ y.1 ≤ 8 := by omega
  have q12 : y.1 ≠ 12 := by omega
  obtain ⟨q, hq⟩ := eT_join q8 q12 hs
  have hl2 : 2 ≤ v.length := by
    rcases hq with ⟨-, g, -⟩ | ⟨-, g, -⟩ | ⟨-, g, -⟩ <;> rw [g] at hl <;> simp only [List.length_cons] at hl <;> omega
  obtain ⟨a, b, v0, rfl⟩ := two_of hl2
  have hv : v0.length + 1 + 1 ≤ 32 := hv
  have n0 : Int32.ofNat (a :: b :: v0).length + Int32.ofInt (-1) = Int32.ofNat (v0.length + 1) := o32d (n := v0.length + 1) (by omega)
  have n1 : Int32.ofNat (v0.length + 1) - Int32.ofInt 1 = Int32.ofNat v0.length := o32s (by omega)
  have n2 : (Int32.ofNat v0.length).toNatClampNeg = v0.length := o32n (by omega)
  have n3 : (Int32.ofNat (v0.length + 1)).toNatClampNeg = v0.length + 1 := o32n (by omega)
  have va : q_i (τ.1 213 (v0.length + 1)) = a := by rw [show τ.1 213 (v0.length + 1) = .int a from hA.1]; rfl
  have vb : q_i (τ.1 213 v0.length) = b := by rw [hA.2.1]; rfl
  have eS1 : eS (eFa A nt F hh) y (a :: b :: v0) = eJ y.1 b a :: v0 := by
    show (if y.1 ≤ 8 then _ else if y.1 = 12 then _ else _) = _
    rw [if_neg q8, if_neg q12]
  rw [eS1] at hK' hr'
  simp only [kw, ks, n437, y1, o14, n0, n1, n2, n3, va, vb] at h12 h42 h43
  simp only [ks, kw, n437, y1, n0, n1, n2, n3, va, vb]
  exfalso
  omega
theorem sp_237_c15_fttfft (a0 : Nat) (a1 : Int32) (a2 : Int32) (a3 : Int32) (σ : zSg) (l0 : Nat) (l2 : Int32) (l3 : Int32) (l4 : Int32) (l5 : Int32) (l6 : Int32) (τ : zSg) (hI : i_237 a0 a1 a2 a3 σ l0 l2 l3 l4 l5 l6 τ) (h2 : 0 ≤ (l5 + (Int32.ofInt (3))).toInt ∧ (l5 + (Int32.ofInt (3))).toInt < (τ.2.1 (q_r (τ.1 l0 1)) : Int)) (h3 : l6.toInt < (q_i (τ.1 (q_r (τ.1 l0 1)) (l5 + (Int32.ofInt (3))).toNatClampNeg)).toInt) (h7 : 0 ≤ ((Int32.ofInt (437)) + ((Int32.ofInt (2)) * l6)).toInt ∧ ((Int32.ofInt (437)) + ((Int32.ofInt (2)) * l6)).toInt < (τ.2.1 (q_r (τ.1 l0 1)) : Int)) (h8 : (q_i (τ.1 (q_r (τ.1 l0 1)) ((Int32.ofInt (437)) + ((Int32.ofInt (2)) * l6)).toNatClampNeg)).toInt > (8 : Int)) (h9 : (q_i (τ.1 (q_r (τ.1 l0 1)) ((Int32.ofInt (437)) + ((Int32.ofInt (2)) * l6)).toNatClampNeg)).toInt ≠ (12 : Int)) (h10 : 0 ≤ ((l4 + Int32.ofInt (-1)) - (Int32.ofInt (1))).toInt ∧ ((l4 + Int32.ofInt (-1)) - (Int32.ofInt (1))).toInt < (τ.2.1 (q_r (τ.1 l0 17)) : Int)) (h11 : 0 ≤ (l4 + Int32.ofInt (-1)).toInt ∧ (l4 + Int32.ofInt (-1)).toInt < (τ.2.1 (q_r (τ.1 l0 17)) : Int)) (h12 : (q_i (τ.1 (q_r (τ.1 l0 1)) ((Int32.ofInt (437)) + ((Int32.ofInt (2)) * l6)).toNatClampNeg)).toInt = (10 : Int)) (h42 : (q_i (τ.1 (q_r (τ.1 l0 17)) ((l4 + Int32.ofInt (-1)) - (Int32.ofInt (1))).toNatClampNeg)).toInt < (q_i (τ.1 (q_r (τ.1 l0 17)) (l4 + Int32.ofInt (-1)).toNatClampNeg)).toInt) (h47 : (q_i (τ.1 (q_r (τ.1 l0 1)) ((Int32.ofInt (437)) + ((Int32.ofInt (2)) * l6)).toNatClampNeg)).toInt ≠ (9 : Int)) (h49 : 0 ≤ ((l4 + Int32.ofInt (-1)) - (Int32.ofInt (1))).toInt ∧ ((l4 + Int32.ofInt (-1)) - (Int32.ofInt (1))).toInt < (τ.2.1 (q_r (τ.1 l0 17)) : Int)) :
    i_237 a0 a1 a2 a3 σ l0 l2 l3 (l4 + Int32.ofInt (-1)) l5 (l6 + Int32.ofInt (1)) (q_w τ (q_r (τ.1 l0 17)) ((l4 + Int32.ofInt (-1)) - (Int32.ofInt (1))).toNatClampNeg (.int (Int32.ofInt (1)))) := by
  obtain ⟨rfl, rfl, rfl, hI⟩ := hI
  refine ⟨rfl, rfl, rfl, ?_⟩
  intro ea A nt L ls l F hh N x K en hx ef hF eh hhh
  obtain ⟨fr, e5, i, v, sb, sr, hFi, hiT, e4, e6, hv, hA, hK, ht, hsr, hr⟩ := hI ea A nt L ls l F hh N x K en hx ef hF eh hhh
  subst ea en ef eh e4 e5 e6
  have K1 := K.fr fr
  have W := K1.2.2.2.2.2.2.2
  have hN : N < 12 := by have := (List.getElem?_eq_some_iff.mp hx).1; have := W.1; omega
  obtain ⟨b1, b2, b3, b4⟩ := K1.2.2.2.2.2.2.1.2.1 N x hx
  obtain ⟨w1, w2, w3, w4, w5, w6⟩ := W.2.2.2 N x hx
  have L4 := W.2.1
  have ks : q_r (τ.1 205 17) = 213 := by rw [K1.2.1]; rfl
  have kw := K1.1.q
  have n392 := ix392n (i := N) (by omega)
  have v392 : q_i (τ.1 206 (392 + 4 * N)) = Int32.ofNat x.2.2.2 := by rw [b4]; rfl
  have hl := hK.len
  simp only [kw, n392, v392] at h3
  rw [o32 (by omega), o32 (by omega)] at h3
  obtain ⟨y, s', hy, hs, ht'⟩ := eTn_st (n := x.2.2.2 - (i + 1)) (i := i) (s := sb) (r := sr) (by rw [show x.2.2.2 - (i + 1) + 1 = x.2.2.2 - i by omega]; exact ht)
  have hr' : eRn (eFa A nt F hh) l (x.2.2.2 - (i + 1)) (i + 1) (eS (eFa A nt F hh) y v) = eRn (eFa A nt F hh) l (x.2.2.2 - x.2.2.1) x.2.2.1 [] := by
    rw [← hr, show x.2.2.2 - i = x.2.2.2 - (i + 1) + 1 by omega, eRn_st hy]
  obtain ⟨y1, y2⟩ := K1.2.2.2.2.2.2.1.2.2 i y hy
  have y1 : q_i (τ.1 206 (437 + 2 * i)) = Int32.ofNat y.1 := by rw [y1]; rfl
  have y2 : q_i (τ.1 206 (438 + 2 * i)) = Int32.ofNat y.2 := by rw [y2]; rfl
  have n437 := ix437 (i := i) (by omega)
  have n438 := ix438 (i := i) (by omega)
  have q14 := eT_lt hs
  have o14 : (Int32.ofNat y.1).toInt = (y.1 : Int) := o32 (by omega)
  have hK' := hK.step (eFa_F (H := A) (nt := nt) (F := F) (n := hh)) hs
  simp only [kw, n437, y1, o14] at h8 h9
  have q8 : ¬ y.1 ≤ 8 := by omega
  have q12 : y.1 ≠ 12 := by omega
  obtain ⟨q, hq⟩ := eT_join q8 q12 hs
  have hl2 : 2 ≤ v.length := by
    rcases hq with ⟨-, g, -⟩ | ⟨-, g, -⟩ | ⟨-, g, -⟩ <;> rw [g] at hl <;> simp only [List.length_cons] at hl <;> omega
  obtain ⟨a, b, v0, rfl⟩ := two_of hl2
  have hv : v0.length + 1 + 1 ≤ 32 := hv
  have n0 : Int32.ofNat (a :: b :: v0).length + Int32.ofInt (-1) = Int32.ofNat (v0.length + 1) := o32d (n := v0.length + 1) (by omega)
  have n1 : Int32.ofNat (v0.length + 1) - Int32.ofInt 1 = Int32.ofNat v0.length := o32s (by omega)
  have n2 : (Int32.ofNat v0.length).toNatClampNeg = v0.length := o32n (by omega)
  have n3 : (Int32.ofNat (v0.length + 1)).toNatClampNeg = v0.length + 1 := o32n (by omega)
  have va : q_i (τ.1 213 (v0.length + 1)) = a := by rw [show τ.1 213 (v0.length + 1) = .int a from hA.1]; rfl
  have vb : q_i (τ.1 213 v0.length) = b := by rw [hA.2.1]; rfl
  have eS1 : eS (eFa A nt F hh) y (a :: b :: v0) = eJ y.1 b a :: v0 := by
    show (if y.1 ≤ 8 then _ else if y.1 = 12 then _ else _) = _
    rw [if_neg q8, if_neg q12]
  rw [eS1] at hK' hr'
  simp only [kw, ks, n437, y1, o14, n0, n1, n2, n3, va, vb] at h12 h42 h47
  simp only [ks, kw, n437, y1, n0, n1, n2, n3, va, vb]
  have hk : y.1 = 10 := by omega
  have ej : Int32.ofInt 1 = eJ y.1 b a := by
    unfold eJ
    rw [hk]
    rw [if_neg (by decide), if_pos rfl]
    rw [if_pos (Int32.lt_iff_toInt_lt.mpr (by omega))]
  exact ⟨fr.w, (by trivial), i + 1, eJ y.1 b a :: v0, s', sr, by omega, by omega, rfl, o32i (by omega), (by show v0.length + 1 ≤ 32; omega), ⟨(q_w_at _ _ _ _).trans (congrArg Value.int ej), eA.w hA.2.2 (Nat.le_refl _)⟩, hK', ht', hsr, hr'⟩
theorem sp_237_c15_fttfff (a0 : Nat) (a1 : Int32) (a2 : Int32) (a3 : Int32) (σ : zSg) (l0 : Nat) (l2 : Int32) (l3 : Int32) (l4 : Int32) (l5 : Int32) (l6 : Int32) (τ : zSg) (hI : i_237 a0 a1 a2 a3 σ l0 l2 l3 l4 l5 l6 τ) (h2 : 0 ≤ (l5 + (Int32.ofInt (3))).toInt ∧ (l5 + (Int32.ofInt (3))).toInt < (τ.2.1 (q_r (τ.1 l0 1)) : Int)) (h3 : l6.toInt < (q_i (τ.1 (q_r (τ.1 l0 1)) (l5 + (Int32.ofInt (3))).toNatClampNeg)).toInt) (h7 : 0 ≤ ((Int32.ofInt (437)) + ((Int32.ofInt (2)) * l6)).toInt ∧ ((Int32.ofInt (437)) + ((Int32.ofInt (2)) * l6)).toInt < (τ.2.1 (q_r (τ.1 l0 1)) : Int)) (h8 : (q_i (τ.1 (q_r (τ.1 l0 1)) ((Int32.ofInt (437)) + ((Int32.ofInt (2)) * l6)).toNatClampNeg)).toInt > (8 : Int)) (h9 : (q_i (τ.1 (q_r (τ.1 l0 1)) ((Int32.ofInt (437)) + ((Int32.ofInt (2)) * l6)).toNatClampNeg)).toInt ≠ (12 : Int)) (h10 : 0 ≤ ((l4 + Int32.ofInt (-1)) - (Int32.ofInt (1))).toInt ∧ ((l4 + Int32.ofInt (-1)) - (Int32.ofInt (1))).toInt < (τ.2.1 (q_r (τ.1 l0 17)) : Int)) (h11 : 0 ≤ (l4 + Int32.ofInt (-1)).toInt ∧ (l4 + Int32.ofInt (-1)).toInt < (τ.2.1 (q_r (τ.1 l0 17)) : Int)) (h12 : (q_i (τ.1 (q_r (τ.1 l0 1)) ((Int32.ofInt (437)) + ((Int32.ofInt (2)) * l6)).toNatClampNeg)).toInt = (10 : Int)) (h42 : (q_i (τ.1 (q_r (τ.1 l0 17)) ((l4 + Int32.ofInt (-1)) - (Int32.ofInt (1))).toNatClampNeg)).toInt < (q_i (τ.1 (q_r (τ.1 l0 17)) (l4 + Int32.ofInt (-1)).toNatClampNeg)).toInt) (h47 : (q_i (τ.1 (q_r (τ.1 l0 1)) ((Int32.ofInt (437)) + ((Int32.ofInt (2)) * l6)).toNatClampNeg)).toInt = (9 : Int)) (h50 : 0 ≤ ((l4 + Int32.ofInt (-1)) - (Int32.ofInt (1))).toInt ∧ ((l4 + Int32.ofInt (-1)) - (Int32.ofInt (1))).toInt < (τ.2.1 (q_r (τ.1 l0 17)) : Int)) :
    i_237 a0 a1 a2 a3 σ l0 l2 l3 (l4 + Int32.ofInt (-1)) l5 (l6 + Int32.ofInt (1)) (q_w τ (q_r (τ.1 l0 17)) ((l4 + Int32.ofInt (-1)) - (Int32.ofInt (1))).toNatClampNeg (.int ((q_i (τ.1 (q_r (τ.1 l0 17)) ((l4 + Int32.ofInt (-1)) - (Int32.ofInt (1))).toNatClampNeg)) + (q_i (τ.1 (q_r (τ.1 l0 17)) (l4 + Int32.ofInt (-1)).toNatClampNeg))))) := by
  obtain ⟨rfl, rfl, rfl, hI⟩ := hI
  refine ⟨rfl, rfl, rfl, ?_⟩
  intro ea A nt L ls l F hh N x K en hx ef hF eh hhh
  obtain ⟨fr, e5, i, v, sb, sr, hFi, hiT, e4, e6, hv, hA, hK, ht, hsr, hr⟩ := hI ea A nt L ls l F hh N x K en hx ef hF eh hhh
  subst ea en ef eh e4 e5 e6
  have K1 := K.fr fr
  have W := K1.2.2.2.2.2.2.2
  have hN : N < 12 := by have := (List.getElem?_eq_some_iff.mp hx).1; have := W.1; omega
  obtain ⟨b1, b2, b3, b4⟩ := K1.2.2.2.2.2.2.1.2.1 N x hx
  obtain ⟨w1, w2, w3, w4, w5, w6⟩ := W.2.2.2 N x hx
  have L4 := W.2.1
  have ks : q_r (τ.1 205 17) = 213 := by rw [K1.2.1]; rfl
  have kw := K1.1.q
  have n392 := ix392n (i := N) (by omega)
  have v392 : q_i (τ.1 206 (392 + 4 * N)) = Int32.ofNat x.2.2.2 := by rw [b4]; rfl
  have hl := hK.len
  simp only [kw, n392, v392] at h3
  rw [o32 (by omega), o32 (by omega)] at h3
  obtain ⟨y, s', hy, hs, ht'⟩ := eTn_st (n := x.2.2.2 - (i + 1)) (i := i) (s := sb) (r := sr) (by rw [show x.2.2.2 - (i + 1) + 1 = x.2.2.2 - i by omega]; exact ht)
  have hr' : eRn (eFa A nt F hh) l (x.2.2.2 - (i + 1)) (i + 1) (eS (eFa A nt F hh) y v) = eRn (eFa A nt F hh) l (x.2.2.2 - x.2.2.1) x.2.2.1 [] := by
    rw [← hr, show x.2.2.2 - i = x.2.2.2 - (i + 1) + 1 by omega, eRn_st hy]
  obtain ⟨y1, y2⟩ := K1.2.2.2.2.2.2.1.2.2 i y hy
  have y1 : q_i (τ.1 206 (437 + 2 * i)) = Int32.ofNat y.1 := by rw [y1]; rfl
  have y2 : q_i (τ.1 206 (438 + 2 * i)) = Int32.ofNat y.2 := by rw [y2]; rfl
  have n437 := ix437 (i := i) (by omega)
  have n438 := ix438 (i := i) (by omega)
  have q14 := eT_lt hs
  have o14 : (Int32.ofNat y.1).toInt = (y.1 : Int) := o32 (by omega)
  have hK' := hK.step (eFa_F (H := A) (nt := nt) (F := F) (n := hh)) hs
  simp only [kw, n437, y1, o14] at h8 h9
  have q8 : ¬ y.1 ≤ 8 := by omega
  have q12 : y.1 ≠ 12 := by omega
  obtain ⟨q, hq⟩ := eT_join q8 q12 hs
  have hl2 : 2 ≤ v.length := by
    rcases hq with ⟨-, g, -⟩ | ⟨-, g, -⟩ | ⟨-, g, -⟩ <;> rw [g] at hl <;> simp only [List.length_cons] at hl <;> omega
  obtain ⟨a, b, v0, rfl⟩ := two_of hl2
  have hv : v0.length + 1 + 1 ≤ 32 := hv
  have n0 : Int32.ofNat (a :: b :: v0).length + Int32.ofInt (-1) = Int32.ofNat (v0.length + 1) := o32d (n := v0.length + 1) (by omega)
  have n1 : Int32.ofNat (v0.length + 1) - Int32.ofInt 1 = Int32.ofNat v0.length := o32s (by omega)
  have n2 : (Int32.ofNat v0.length).toNatClampNeg = v0.length := o32n (by omega)
  have n3 : (Int32.ofNat (v0.length + 1)).toNatClampNeg = v0.length + 1 := o32n (by omega)
  have va : q_i (τ.1 213 (v0.length + 1)) = a := by rw [show τ.1 213 (v0.length + 1) = .int a from hA.1]; rfl
  have vb : q_i (τ.1 213 v0.length) = b := by rw [hA.2.1]; rfl
  have eS1 : eS (eFa A nt F hh) y (a :: b :: v0) = eJ y.1 b a :: v0 := by
    show (if y.1 ≤ 8 then _ else if y.1 = 12 then _ else _) = _
    rw [if_neg q8, if_neg q12]
  rw [eS1] at hK' hr'
  simp only [kw, ks, n437, y1, o14, n0, n1, n2, n3, va, vb] at h12 h42 h47
  simp only [ks, kw, n437, y1, n0, n1, n2, n3, va, vb]
  exfalso
  omega
theorem sp_237_c15_ftf (a0 : Nat) (a1 : Int32) (a2 : Int32) (a3 : Int32) (σ : zSg) (l0 : Nat) (l2 : Int32) (l3 : Int32) (l4 : Int32) (l5 : Int32) (l6 : Int32) (τ : zSg) (hI : i_237 a0 a1 a2 a3 σ l0 l2 l3 l4 l5 l6 τ) (h2 : 0 ≤ (l5 + (Int32.ofInt (3))).toInt ∧ (l5 + (Int32.ofInt (3))).toInt < (τ.2.1 (q_r (τ.1 l0 1)) : Int)) (h3 : l6.toInt < (q_i (τ.1 (q_r (τ.1 l0 1)) (l5 + (Int32.ofInt (3))).toNatClampNeg)).toInt) (h7 : 0 ≤ ((Int32.ofInt (437)) + ((Int32.ofInt (2)) * l6)).toInt ∧ ((Int32.ofInt (437)) + ((Int32.ofInt (2)) * l6)).toInt < (τ.2.1 (q_r (τ.1 l0 1)) : Int)) (h8 : (q_i (τ.1 (q_r (τ.1 l0 1)) ((Int32.ofInt (437)) + ((Int32.ofInt (2)) * l6)).toNatClampNeg)).toInt > (8 : Int)) (h9 : (q_i (τ.1 (q_r (τ.1 l0 1)) ((Int32.ofInt (437)) + ((Int32.ofInt (2)) * l6)).toNatClampNeg)).toInt = (12 : Int)) (h51 : 0 ≤ (l4 - (Int32.ofInt (1))).toInt ∧ (l4 - (Int32.ofInt (1))).toInt < (τ.2.1 (q_r (τ.1 l0 17)) : Int)) (h52 : 0 ≤ (l4 - (Int32.ofInt (1))).toInt ∧ (l4 - (Int32.ofInt (1))).toInt < (τ.2.1 (q_r (τ.1 l0 17)) : Int)) :
    i_237 a0 a1 a2 a3 σ l0 l2 l3 l4 l5 (l6 + Int32.ofInt (1)) (q_w τ (q_r (τ.1 l0 17)) (l4 - (Int32.ofInt (1))).toNatClampNeg (.int ((Int32.ofInt (1)) - (q_i (τ.1 (q_r (τ.1 l0 17)) (l4 - (Int32.ofInt (1))).toNatClampNeg))))) := by
  obtain ⟨rfl, rfl, rfl, hI⟩ := hI
  refine ⟨rfl, rfl, rfl, ?_⟩
  intro ea A nt L ls l F hh N x K en hx ef hF eh hhh
  obtain ⟨fr, e5, i, v, sb, sr, hFi, hiT, e4, e6, hv, hA, hK, ht, hsr, hr⟩ := hI ea A nt L ls l F hh N x K en hx ef hF eh hhh
  subst ea en ef eh e4 e5 e6
  have K1 := K.fr fr
  have W := K1.2.2.2.2.2.2.2
  have hN : N < 12 := by have := (List.getElem?_eq_some_iff.mp hx).1; have := W.1; omega
  obtain ⟨b1, b2, b3, b4⟩ := K1.2.2.2.2.2.2.1.2.1 N x hx
  obtain ⟨w1, w2, w3, w4, w5, w6⟩ := W.2.2.2 N x hx
  have L4 := W.2.1
  have ks : q_r (τ.1 205 17) = 213 := by rw [K1.2.1]; rfl
  have kw := K1.1.q
  have n392 := ix392n (i := N) (by omega)
  have v392 : q_i (τ.1 206 (392 + 4 * N)) = Int32.ofNat x.2.2.2 := by rw [b4]; rfl
  have hl := hK.len
  simp only [kw, n392, v392] at h3
  rw [o32 (by omega), o32 (by omega)] at h3
  obtain ⟨y, s', hy, hs, ht'⟩ := eTn_st (n := x.2.2.2 - (i + 1)) (i := i) (s := sb) (r := sr) (by rw [show x.2.2.2 - (i + 1) + 1 = x.2.2.2 - i by omega]; exact ht)
  have hr' : eRn (eFa A nt F hh) l (x.2.2.2 - (i + 1)) (i + 1) (eS (eFa A nt F hh) y v) = eRn (eFa A nt F hh) l (x.2.2.2 - x.2.2.1) x.2.2.1 [] := by
    rw [← hr, show x.2.2.2 - i = x.2.2.2 - (i + 1) + 1 by omega, eRn_st hy]
  obtain ⟨y1, y2⟩ := K1.2.2.2.2.2.2.1.2.2 i y hy
  have y1 : q_i (τ.1 206 (437 + 2 * i)) = Int32.ofNat y.1 := by rw [y1]; rfl
  have y2 : q_i (τ.1 206 (438 + 2 * i)) = Int32.ofNat y.2 := by rw [y2]; rfl
  have n437 := ix437 (i := i) (by omega)
  have n438 := ix438 (i := i) (by omega)
  have q14 := eT_lt hs
  have o14 : (Int32.ofNat y.1).toInt = (y.1 : Int) := o32 (by omega)
  have hK' := hK.step (eFa_F (H := A) (nt := nt) (F := F) (n := hh)) hs
  simp only [kw, n437, y1, o14] at h8 h9
  have q12 : y.1 = 12 := by omega
  obtain ⟨sr1, es, es'⟩ := eT_not q12 hs
  subst es
  obtain ⟨a, v0, rfl⟩ := one_of (v := v) (by rw [← hl]; exact Nat.le_add_left 1 _)
  have hv : v0.length + 1 ≤ 32 := hv
  have n1 : Int32.ofNat (a :: v0).length - Int32.ofInt 1 = Int32.ofNat v0.length := o32s (by omega)
  have n2 : (Int32.ofNat v0.length).toNatClampNeg = v0.length := o32n (by omega)
  have va : q_i (τ.1 213 v0.length) = a := by rw [hA.1]; rfl
  have eS1 : eS (eFa A nt F hh) y (a :: v0) = (Int32.ofInt 1 - a) :: v0 := by
    show (if y.1 ≤ 8 then _ else if y.1 = 12 then _ else _) = _
    rw [if_neg (by omega), if_pos q12]
  rw [eS1] at hK' hr'
  simp only [ks, n1, n2, va]
  exact ⟨fr.w, (by trivial), i + 1, (Int32.ofInt 1 - a) :: v0, s', sr, by omega, by omega, rfl, o32i (by omega), hv, ⟨q_w_at _ _ _ _, eA.w hA.2 (Nat.le_refl _)⟩, hK', ht', hsr, hr'⟩
theorem sp_237_c15_ff (a0 : Nat) (a1 : Int32) (a2 : Int32) (a3 : Int32) (σ : zSg) (l0 : Nat) (l2 : Int32) (l3 : Int32) (l4 : Int32) (l5 : Int32) (l6 : Int32) (τ : zSg) (τ54 : zSg) (r54 : Int32) (hI : i_237 a0 a1 a2 a3 σ l0 l2 l3 l4 l5 l6 τ) (h2 : 0 ≤ (l5 + (Int32.ofInt (3))).toInt ∧ (l5 + (Int32.ofInt (3))).toInt < (τ.2.1 (q_r (τ.1 l0 1)) : Int)) (h3 : l6.toInt < (q_i (τ.1 (q_r (τ.1 l0 1)) (l5 + (Int32.ofInt (3))).toNatClampNeg)).toInt) (h7 : 0 ≤ ((Int32.ofInt (437)) + ((Int32.ofInt (2)) * l6)).toInt ∧ ((Int32.ofInt (437)) + ((Int32.ofInt (2)) * l6)).toInt < (τ.2.1 (q_r (τ.1 l0 1)) : Int)) (h8 : (q_i (τ.1 (q_r (τ.1 l0 1)) ((Int32.ofInt (437)) + ((Int32.ofInt (2)) * l6)).toNatClampNeg)).toInt ≤ (8 : Int)) (h53 : 0 ≤ (((Int32.ofInt (437)) + ((Int32.ofInt (2)) * l6)) + (Int32.ofInt (1))).toInt ∧ (((Int32.ofInt (437)) + ((Int32.ofInt (2)) * l6)) + (Int32.ofInt (1))).toInt < (τ.2.1 (q_r (τ.1 l0 1)) : Int)) (g54 : p_236 l0 (q_i (τ.1 (q_r (τ.1 l0 1)) ((Int32.ofInt (437)) + ((Int32.ofInt (2)) * l6)).toNatClampNeg)) (q_i (τ.1 (q_r (τ.1 l0 1)) (((Int32.ofInt (437)) + ((Int32.ofInt (2)) * l6)) + (Int32.ofInt (1))).toNatClampNeg)) l2 l3 τ r54 τ54) (h55 : 0 ≤ l4.toInt ∧ l4.toInt < (τ54.2.1 (q_r (τ.1 l0 17)) : Int)) :
    i_237 a0 a1 a2 a3 σ l0 l2 l3 (l4 + Int32.ofInt (1)) l5 (l6 + Int32.ofInt (1)) (q_w τ54 (q_r (τ.1 l0 17)) l4.toNatClampNeg (.int r54)) := by
  obtain ⟨rfl, rfl, rfl, hI⟩ := hI
  refine ⟨rfl, rfl, rfl, ?_⟩
  intro ea A nt L ls l F hh N x K en hx ef hF eh hhh
  obtain ⟨fr, e5, i, v, sb, sr, hFi, hiT, e4, e6, hv, hA, hK, ht, hsr, hr⟩ := hI ea A nt L ls l F hh N x K en hx ef hF eh hhh
  subst ea en ef eh e4 e5 e6
  have K1 := K.fr fr
  have W := K1.2.2.2.2.2.2.2
  have hN : N < 12 := by have := (List.getElem?_eq_some_iff.mp hx).1; have := W.1; omega
  obtain ⟨b1, b2, b3, b4⟩ := K1.2.2.2.2.2.2.1.2.1 N x hx
  obtain ⟨w1, w2, w3, w4, w5, w6⟩ := W.2.2.2 N x hx
  have L4 := W.2.1
  have ks : q_r (τ.1 205 17) = 213 := by rw [K1.2.1]; rfl
  have kw := K1.1.q
  have n392 := ix392n (i := N) (by omega)
  have v392 : q_i (τ.1 206 (392 + 4 * N)) = Int32.ofNat x.2.2.2 := by rw [b4]; rfl
  have hl := hK.len
  simp only [kw, n392, v392] at h3
  rw [o32 (by omega), o32 (by omega)] at h3
  obtain ⟨y, s', hy, hs, ht'⟩ := eTn_st (n := x.2.2.2 - (i + 1)) (i := i) (s := sb) (r := sr) (by rw [show x.2.2.2 - (i + 1) + 1 = x.2.2.2 - i by omega]; exact ht)
  have hr' : eRn (eFa A nt F hh) l (x.2.2.2 - (i + 1)) (i + 1) (eS (eFa A nt F hh) y v) = eRn (eFa A nt F hh) l (x.2.2.2 - x.2.2.1) x.2.2.1 [] := by
    rw [← hr, show x.2.2.2 - i = x.2.2.2 - (i + 1) + 1 by omega, eRn_st hy]
  obtain ⟨y1, y2⟩ := K1.2.2.2.2.2.2.1.2.2 i y hy
  have y1 : q_i (τ.1 206 (437 + 2 * i)) = Int32.ofNat y.1 := by rw [y1]; rfl
  have y2 : q_i (τ.1 206 (438 + 2 * i)) = Int32.ofNat y.2 := by rw [y2]; rfl
  have n437 := ix437 (i := i) (by omega)
  have n438 := ix438 (i := i) (by omega)
  have q14 := eT_lt hs
  have o14 : (Int32.ofNat y.1).toInt = (y.1 : Int) := o32 (by omega)
  have hK' := hK.step (eFa_F (H := A) (nt := nt) (F := F) (n := hh)) hs
  simp only [kw, n437, y1, o14] at h8
  have q8 : y.1 ≤ 8 := by omega
  obtain ⟨q32, q999, -⟩ := eT_push q8 hs
  simp only [kw, n437, n438, y1, y2] at g54
  obtain ⟨rfl, gx⟩ := g54 rfl A nt F hh y K1.1 K1.2.2.1 K1.2.2.2.1 K1.2.2.2.2.1 rfl q8 rfl rfl hF rfl hhh
  have n2 : (Int32.ofNat v.length).toNatClampNeg = v.length := o32n (by omega)
  rw [eS_push q8] at hK' hr'
  simp only [ks, n2, gx]
  exact ⟨fr.w, (by trivial), i + 1, eV (eFa A nt F hh) y :: v, s', sr, by omega, by omega, o32i (by omega), o32i (by omega), (by show v.length + 1 ≤ 32; omega), ⟨q_w_at _ _ _ _, eA.w hA (Nat.le_refl _)⟩, hK', ht', hsr, hr'⟩
noncomputable def qP_237 : zPp := fun as σ o σ' => match as with
  | [a0, a1, a2, a3] => ∃ r, o = .inl (some (.int r)) ∧ p_237 (q_r a0) (q_i a1) (q_i a2) (q_i a3) σ r σ'
  | _ => True
set_option maxRecDepth 100000 in
theorem sp_237 {sx : zX} (S236 : zEe sx 236 5 qP_236) : zEe sx 237 4 qP_237 := by
  refine zfle zJ_237 (sps := [(236, 5, qP_236)]) (fun q hq => by
    simp only [List.mem_cons, List.not_mem_nil, or_false] at hq
    rcases hq with rfl
    · exact S236) (fun as σ hl => ?_)
  match as, hl with
  | [a0, a1, a2, a3], _ =>
  refine ⟨[(15, fun lo st τ => st = [] ∧ i_237 (q_r a0) (q_i a1) (q_i a2) (q_i a3) σ (q_r (lo 0)) (q_i (lo 2)) (q_i (lo 3)) (q_i (lo 4)) (q_i (lo 5)) (q_i (lo 6)) τ)], 400, ?_, ?_⟩
  · intro q hq
    simp only [List.mem_cons, List.not_mem_nil, or_false] at hq
    rcases hq with rfl
    · rintro lo st τ ⟨rfl, hI⟩
      refine ⟨400, ?_⟩
      refine fun h2 => ?_
      refine And.intro (fun h3 => ?_) (fun h3 => ?_)
      · refine And.intro (fun h4 => ?_) (fun h4 => ?_)
        · exact ⟨_, rfl, sp_237_c15_tt (q_r a0) (q_i a1) (q_i a2) (q_i a3) σ (q_r (lo 0)) (q_i (lo 2)) (q_i (lo 3)) (q_i (lo 4)) (q_i (lo 5)) (q_i (lo 6)) τ hI (q_inp h2) (cm3t h3) (cm0t h4)⟩
        · refine fun h5 => ?_
          refine And.intro (fun h6 => ?_) (fun h6 => ?_)
          · exact ⟨_, rfl, sp_237_c15_tft (q_r a0) (q_i a1) (q_i a2) (q_i a3) σ (q_r (lo 0)) (q_i (lo 2)) (q_i (lo 3)) (q_i (lo 4)) (q_i (lo 5)) (q_i (lo 6)) τ hI (q_inp h2) (cm3t h3) (cm0f h4) (q_inp h5) (cm1t h6)⟩
          · exact ⟨_, rfl, sp_237_c15_tff (q_r a0) (q_i a1) (q_i a2) (q_i a3) σ (q_r (lo 0)) (q_i (lo 2)) (q_i (lo 3)) (q_i (lo 4)) (q_i (lo 5)) (q_i (lo 6)) τ hI (q_inp h2) (cm3t h3) (cm0f h4) (q_inp h5) (cm1f h6)⟩
      · refine fun h7 => ?_
        refine And.intro (fun h8 => ?_) (fun h8 => ?_)
        · refine And.intro (fun h9 => ?_) (fun h9 => ?_)
          · refine fun h10 => ?_
            refine fun h11 => ?_
            refine And.intro (fun h12 => ?_) (fun h12 => ?_)
            · refine And.intro (fun h13 => ?_) (fun h13 => ?_)
              · refine And.intro (fun h14 => ?_) (fun h14 => ?_)
                · refine And.intro (fun h15 => ?_) (fun h15 => ?_)
                  · refine And.intro (fun h16 => ?_) (fun h16 => ?_)
                    · refine And.intro (fun _ => ?_) (fun h17 => absurd (show z_cmp 0 (Int32.ofInt (0)) 0 = false from h17) (by decide))
                      refine fun h18 => ?_
                      exact ⟨rfl, sp_237_c15_fttttttt (q_r a0) (q_i a1) (q_i a2) (q_i a3) σ (q_r (lo 0)) (q_i (lo 2)) (q_i (lo 3)) (q_i (lo 4)) (q_i (lo 5)) (q_i (lo 6)) τ hI (q_inp h2) (cm3f h3) (q_inp h7) (cm4t h8) (cm1t h9) (q_inp h10) (q_inp h11) (cm1t h12) (cm1t h13) (cm1t h14) (cm5t h15) (cm1t h16) (q_inp h18)⟩
                    · refine fun h19 => ?_
                      exact ⟨rfl, sp_237_c15_fttttttf (q_r a0) (q_i a1) (q_i a2) (q_i a3) σ (q_r (lo 0)) (q_i (lo 2)) (q_i (lo 3)) (q_i (lo 4)) (q_i (lo 5)) (q_i (lo 6)) τ hI (q_inp h2) (cm3f h3) (q_inp h7) (cm4t h8) (cm1t h9) (q_inp h10) (q_inp h11) (cm1t h12) (cm1t h13) (cm1t h14) (cm5t h15) (cm1f h16) (q_inp h19)⟩
                  · refine And.intro (fun h20 => ?_) (fun h20 => ?_)
                    · refine And.intro (fun h21 => absurd (show z_cmp 0 (Int32.ofInt (1)) 0 = true from h21) (by decide)) (fun _ => ?_)
                      refine fun h22 => ?_
                      exact ⟨rfl, sp_237_c15_ftttttft (q_r a0) (q_i a1) (q_i a2) (q_i a3) σ (q_r (lo 0)) (q_i (lo 2)) (q_i (lo 3)) (q_i (lo 4)) (q_i (lo 5)) (q_i (lo 6)) τ hI (q_inp h2) (cm3f h3) (q_inp h7) (cm4t h8) (cm1t h9) (q_inp h10) (q_inp h11) (cm1t h12) (cm1t h13) (cm1t h14) (cm5f h15) (cm1t h20) (q_inp h22)⟩
                    · refine fun h23 => ?_
                      exact ⟨rfl, sp_237_c15_ftttttff (q_r a0) (q_i a1) (q_i a2) (q_i a3) σ (q_r (lo 0)) (q_i (lo 2)) (q_i (lo 3)) (q_i (lo 4)) (q_i (lo 5)) (q_i (lo 6)) τ hI (q_inp h2) (cm3f h3) (q_inp h7) (cm4t h8) (cm1t h9) (q_inp h10) (q_inp h11) (cm1t h12) (cm1t h13) (cm1t h14) (cm5f h15) (cm1f h20) (q_inp h23)⟩
                · refine And.intro (fun h24 => ?_) (fun h24 => ?_)
                  · refine And.intro (fun h25 => ?_) (fun h25 => ?_)
                    · refine And.intro (fun _ => ?_) (fun h26 => absurd (show z_cmp 0 (Int32.ofInt (0)) 0 = false from h26) (by decide))
                      refine fun h27 => ?_
                      exact ⟨rfl, sp_237_c15_fttttftt (q_r a0) (q_i a1) (q_i a2) (q_i a3) σ (q_r (lo 0)) (q_i (lo 2)) (q_i (lo 3)) (q_i (lo 4)) (q_i (lo 5)) (q_i (lo 6)) τ hI (q_inp h2) (cm3f h3) (q_inp h7) (cm4t h8) (cm1t h9) (q_inp h10) (q_inp h11) (cm1t h12) (cm1t h13) (cm1f h14) (cm1t h24) (cm1t h25) (q_inp h27)⟩
                    · refine fun h28 => ?_
                      exact ⟨rfl, sp_237_c15_fttttftf (q_r a0) (q_i a1) (q_i a2) (q_i a3) σ (q_r (lo 0)) (q_i (lo 2)) (q_i (lo 3)) (q_i (lo 4)) (q_i (lo 5)) (q_i (lo 6)) τ hI (q_inp h2) (cm3f h3) (q_inp h7) (cm4t h8) (cm1t h9) (q_inp h10) (q_inp h11) (cm1t h12) (cm1t h13) (cm1f h14) (cm1t h24) (cm1f h25) (q_inp h28)⟩
                  · refine And.intro (fun h29 => ?_) (fun h29 => ?_)
                    · refine And.intro (fun h30 => absurd (show z_cmp 0 (Int32.ofInt (1)) 0 = true from h30) (by decide)) (fun _ => ?_)
                      refine fun h31 => ?_
                      exact ⟨rfl, sp_237_c15_fttttfft (q_r a0) (q_i a1) (q_i a2) (q_i a3) σ (q_r (lo 0)) (q_i (lo 2)) (q_i (lo 3)) (q_i (lo 4)) (q_i (lo 5)) (q_i (lo 6)) τ hI (q_inp h2) (cm3f h3) (q_inp h7) (cm4t h8) (cm1t h9) (q_inp h10) (q_inp h11) (cm1t h12) (cm1t h13) (cm1f h14) (cm1f h24) (cm1t h29) (q_inp h31)⟩
                    · refine fun h32 => ?_
                      exact ⟨rfl, sp_237_c15_fttttfff (q_r a0) (q_i a1) (q_i a2) (q_i a3) σ (q_r (lo 0)) (q_i (lo 2)) (q_i (lo 3)) (q_i (lo 4)) (q_i (lo 5)) (q_i (lo 6)) τ hI (q_inp h2) (cm3f h3) (q_inp h7) (cm4t h8) (cm1t h9) (q_inp h10) (q_inp h11) (cm1t h12) (cm1t h13) (cm1f h14) (cm1f h24) (cm1f h29) (q_inp h32)⟩
              · refine And.intro (fun h33 => ?_) (fun h33 => ?_)
                · refine And.intro (fun h34 => ?_) (fun h34 => ?_)
                  · refine And.intro (fun _ => ?_) (fun h35 => absurd (show z_cmp 0 (Int32.ofInt (0)) 0 = false from h35) (by decide))
                    refine fun h36 => ?_
                    exact ⟨rfl, sp_237_c15_ftttftt (q_r a0) (q_i a1) (q_i a2) (q_i a3) σ (q_r (lo 0)) (q_i (lo 2)) (q_i (lo 3)) (q_i (lo 4)) (q_i (lo 5)) (q_i (lo 6)) τ hI (q_inp h2) (cm3f h3) (q_inp h7) (cm4t h8) (cm1t h9) (q_inp h10) (q_inp h11) (cm1t h12) (cm1f h13) (cm5t h33) (cm1t h34) (q_inp h36)⟩
                  · refine fun h37 => ?_
                    exact ⟨rfl, sp_237_c15_ftttftf (q_r a0) (q_i a1) (q_i a2) (q_i a3) σ (q_r (lo 0)) (q_i (lo 2)) (q_i (lo 3)) (q_i (lo 4)) (q_i (lo 5)) (q_i (lo 6)) τ hI (q_inp h2) (cm3f h3) (q_inp h7) (cm4t h8) (cm1t h9) (q_inp h10) (q_inp h11) (cm1t h12) (cm1f h13) (cm5t h33) (cm1f h34) (q_inp h37)⟩
                · refine And.intro (fun h38 => ?_) (fun h38 => ?_)
                  · refine And.intro (fun h39 => absurd (show z_cmp 0 (Int32.ofInt (1)) 0 = true from h39) (by decide)) (fun _ => ?_)
                    refine fun h40 => ?_
                    exact ⟨rfl, sp_237_c15_ftttfft (q_r a0) (q_i a1) (q_i a2) (q_i a3) σ (q_r (lo 0)) (q_i (lo 2)) (q_i (lo 3)) (q_i (lo 4)) (q_i (lo 5)) (q_i (lo 6)) τ hI (q_inp h2) (cm3f h3) (q_inp h7) (cm4t h8) (cm1t h9) (q_inp h10) (q_inp h11) (cm1t h12) (cm1f h13) (cm5f h33) (cm1t h38) (q_inp h40)⟩
                  · refine fun h41 => ?_
                    exact ⟨rfl, sp_237_c15_ftttfff (q_r a0) (q_i a1) (q_i a2) (q_i a3) σ (q_r (lo 0)) (q_i (lo 2)) (q_i (lo 3)) (q_i (lo 4)) (q_i (lo 5)) (q_i (lo 6)) τ hI (q_inp h2) (cm3f h3) (q_inp h7) (cm4t h8) (cm1t h9) (q_inp h10) (q_inp h11) (cm1t h12) (cm1f h13) (cm5f h33) (cm1f h38) (q_inp h41)⟩
            · refine And.intro (fun h42 => ?_) (fun h42 => ?_)
              · refine And.intro (fun h43 => ?_) (fun h43 => ?_)
                · refine And.intro (fun _ => ?_) (fun h44 => absurd (show z_cmp 0 (Int32.ofInt (0)) 0 = false from h44) (by decide))
                  refine fun h45 => ?_
                  exact ⟨rfl, sp_237_c15_fttftt (q_r a0) (q_i a1) (q_i a2) (q_i a3) σ (q_r (lo 0)) (q_i (lo 2)) (q_i (lo 3)) (q_i (lo 4)) (q_i (lo 5)) (q_i (lo 6)) τ hI (q_inp h2) (cm3f h3) (q_inp h7) (cm4t h8) (cm1t h9) (q_inp h10) (q_inp h11) (cm1f h12) (cm3t h42) (cm1t h43) (q_inp h45)⟩
                · refine fun h46 => ?_
                  exact ⟨rfl, sp_237_c15_fttftf (q_r a0) (q_i a1) (q_i a2) (q_i a3) σ (q_r (lo 0)) (q_i (lo 2)) (q_i (lo 3)) (q_i (lo 4)) (q_i (lo 5)) (q_i (lo 6)) τ hI (q_inp h2) (cm3f h3) (q_inp h7) (cm4t h8) (cm1t h9) (q_inp h10) (q_inp h11) (cm1f h12) (cm3t h42) (cm1f h43) (q_inp h46)⟩
              · refine And.intro (fun h47 => ?_) (fun h47 => ?_)
                · refine And.intro (fun h48 => absurd (show z_cmp 0 (Int32.ofInt (1)) 0 = true from h48) (by decide)) (fun _ => ?_)
                  refine fun h49 => ?_
                  exact ⟨rfl, sp_237_c15_fttfft (q_r a0) (q_i a1) (q_i a2) (q_i a3) σ (q_r (lo 0)) (q_i (lo 2)) (q_i (lo 3)) (q_i (lo 4)) (q_i (lo 5)) (q_i (lo 6)) τ hI (q_inp h2) (cm3f h3) (q_inp h7) (cm4t h8) (cm1t h9) (q_inp h10) (q_inp h11) (cm1f h12) (cm3f h42) (cm1t h47) (q_inp h49)⟩
                · refine fun h50 => ?_
                  exact ⟨rfl, sp_237_c15_fttfff (q_r a0) (q_i a1) (q_i a2) (q_i a3) σ (q_r (lo 0)) (q_i (lo 2)) (q_i (lo 3)) (q_i (lo 4)) (q_i (lo 5)) (q_i (lo 6)) τ hI (q_inp h2) (cm3f h3) (q_inp h7) (cm4t h8) (cm1t h9) (q_inp h10) (q_inp h11) (cm1f h12) (cm3f h42) (cm1f h47) (q_inp h50)⟩
          · refine fun h51 => ?_
            refine fun h52 => ?_
            exact ⟨rfl, sp_237_c15_ftf (q_r a0) (q_i a1) (q_i a2) (q_i a3) σ (q_r (lo 0)) (q_i (lo 2)) (q_i (lo 3)) (q_i (lo 4)) (q_i (lo 5)) (q_i (lo 6)) τ hI (q_inp h2) (cm3f h3) (q_inp h7) (cm4t h8) (cm1f h9) (q_inp h51) (q_inp h52)⟩
        · refine fun h53 => ?_
          refine fun o54 τ54 g54 => ?_
          obtain ⟨r54, rfl, g54⟩ := g54
          refine fun h55 => ?_
          exact ⟨rfl, sp_237_c15_ff (q_r a0) (q_i a1) (q_i a2) (q_i a3) σ (q_r (lo 0)) (q_i (lo 2)) (q_i (lo 3)) (q_i (lo 4)) (q_i (lo 5)) (q_i (lo 6)) τ τ54 r54 hI (q_inp h2) (cm3f h3) (q_inp h7) (cm4f h8) (q_inp h53) g54 (q_inp h55)⟩
  · refine fun h1 => ?_
    exact ⟨rfl, sp_237_e (q_r a0) (q_i a1) (q_i a2) (q_i a3) σ (q_inp h1)⟩
noncomputable def eSk (Lo : Option (Nat × List gLn4 × zSs)) (fa : Nat → Int32) (kd n : Nat) : Int32 := match Lo with
  | none => Int32.ofInt 0
  | some (_, ls, l) => eSum ls l fa kd n
noncomputable def eLe (Lo : Option (Nat × List gLn4 × zSs)) (n : Nat) : Prop := match Lo with
  | none => True
  | some (_, ls, _) => n ≤ ls.length
noncomputable def p_238 (a : Nat) (kk f h : Int32) (σ : zSg) (r : Int32) (σ' : zSg) : Prop := a = 205 → ∀ A nt Lo F hh kd, rEv σ A nt Lo → kk = Int32.ofNat kd ∧ kd ≤ 2 → f = Int32.ofNat F → F < 6 → h = Int32.ofNat hh → hh < 24 → rVF σ σ' ∧ r = eSm Lo (eFa A nt F hh) kd
noncomputable def i_238 (a : Nat) (kk f h : Int32) (σ : zSg) (l0 : Nat) (l1 l2 l3 l4 l5 : Int32) (τ : zSg) : Prop := l0 = a ∧ l1 = kk ∧ l2 = f ∧ l3 = h ∧ (a = 205 → ∀ A nt Lo F hh kd, rEv σ A nt Lo → kk = Int32.ofNat kd ∧ kd ≤ 2 → f = Int32.ofNat F → F < 6 → h = Int32.ofNat hh → hh < 24 → rVF σ τ ∧ ∃ n, l5 = Int32.ofNat n ∧ l4 = eSk Lo (eFa A nt F hh) kd n ∧ eLe Lo n)
theorem sp_238_e (a0 : Nat) (a1 : Int32) (a2 : Int32) (a3 : Int32) (σ : zSg)  :
    i_238 a0 a1 a2 a3 σ a0 a1 a2 a3 (Int32.ofInt (0)) (Int32.ofInt (0)) σ := by
  refine ⟨rfl, rfl, rfl, rfl, fun ea A nt Lo F hh kd K ek ef hF eh hhh => ⟨rVF.rf, 0, rfl, ?_, ?_⟩⟩
  · match Lo with
    | none => rfl
    | some (L, ls, l) => rfl
  · match Lo with
    | none => trivial
    | some (L, ls, l) => exact Nat.zero_le _
theorem sp_238_c4_t (a0 : Nat) (a1 : Int32) (a2 : Int32) (a3 : Int32) (σ : zSg) (l0 : Nat) (l1 : Int32) (l2 : Int32) (l3 : Int32) (l4 : Int32) (l5 : Int32) (τ : zSg) (hI : i_238 a0 a1 a2 a3 σ l0 l1 l2 l3 l4 l5 τ) (h1 : 0 ≤ (Int32.ofInt (3)).toInt ∧ (Int32.ofInt (3)).toInt < (τ.2.1 (q_r (τ.1 l0 1)) : Int)) (h2 : (q_i (τ.1 (q_r (τ.1 l0 1)) (Int32.ofInt (3)).toNatClampNeg)).toInt ≠ (1 : Int)) :
    p_238 (a0) (a1) (a2) (a3) σ l4 τ := by
  obtain ⟨rfl, rfl, rfl, rfl, hI⟩ := hI
  intro ea A nt Lo F hh kd K ek ef hF eh hhh
  obtain ⟨fr, n, e5, e4, hn⟩ := hI ea A nt Lo F hh kd K ek ef hF eh hhh
  obtain ⟨ek, hk2⟩ := ek
  subst ea ek ef eh e5 e4
  have K1 := K.fr fr
  have kw := K1.1.q
  have z3 : (Int32.ofInt 3).toNatClampNeg = 3 := rfl
  have z388 : (Int32.ofInt 388).toNatClampNeg = 388 := rfl
  have i3 := K1.1.i (k := 3) (by omega)
  simp only [kw, z3, i3] at h2
  match Lo, K, K1, hn with
  | none, K, K1, hn =>
    have e3 : A 3 = Int32.ofInt 0 := K1.2.2.2.2.2
    exact ⟨fr, rfl⟩
  | some (L, ls, l), K, K1, hn =>
  have e3 : A 3 = Int32.ofInt 1 := K1.2.2.2.2.2.1
  have hn : n ≤ ls.length := hn
  have RL := K1.2.2.2.2.2.2.1
  have W := K1.2.2.2.2.2.2.2
  have L12 := W.1
  have c0 : q_i (τ.1 206 388) = Int32.ofNat ls.length := by rw [RL.1]; rfl
  rw [e3] at h2
  exact absurd rfl h2
theorem sp_238_c4_ft (a0 : Nat) (a1 : Int32) (a2 : Int32) (a3 : Int32) (σ : zSg) (l0 : Nat) (l1 : Int32) (l2 : Int32) (l3 : Int32) (l4 : Int32) (l5 : Int32) (τ : zSg) (hI : i_238 a0 a1 a2 a3 σ l0 l1 l2 l3 l4 l5 τ) (h1 : 0 ≤ (Int32.ofInt (3)).toInt ∧ (Int32.ofInt (3)).toInt < (τ.2.1 (q_r (τ.1 l0 1)) : Int)) (h2 : (q_i (τ.1 (q_r (τ.1 l0 1)) (Int32.ofInt (3)).toNatClampNeg)).toInt = (1 : Int)) (h3 : 0 ≤ (Int32.ofInt (388)).toInt ∧ (Int32.ofInt (388)).toInt < (τ.2.1 (q_r (τ.1 l0 1)) : Int)) (h4 : l5.toInt ≥ (q_i (τ.1 (q_r (τ.1 l0 1)) (Int32.ofInt (388)).toNatClampNeg)).toInt) :
    p_238 (a0) (a1) (a2) (a3) σ l4 τ := by
  obtain ⟨rfl, rfl, rfl, rfl, hI⟩ := hI
  intro ea A nt Lo F hh kd K ek ef hF eh hhh
  obtain ⟨fr, n, e5, e4, hn⟩ := hI ea A nt Lo F hh kd K ek ef hF eh hhh
  obtain ⟨ek, hk2⟩ := ek
  subst ea ek ef eh e5 e4
  have K1 := K.fr fr
  have kw := K1.1.q
  have z3 : (Int32.ofInt 3).toNatClampNeg = 3 := rfl
  have z388 : (Int32.ofInt 388).toNatClampNeg = 388 := rfl
  have i3 := K1.1.i (k := 3) (by omega)
  simp only [kw, z3, i3] at h2
  match Lo, K, K1, hn with
  | none, K, K1, hn =>
    have e3 : A 3 = Int32.ofInt 0 := K1.2.2.2.2.2
    rw [e3] at h2
    exact absurd h2 (by decide)
  | some (L, ls, l), K, K1, hn =>
  have e3 : A 3 = Int32.ofInt 1 := K1.2.2.2.2.2.1
  have hn : n ≤ ls.length := hn
  have RL := K1.2.2.2.2.2.2.1
  have W := K1.2.2.2.2.2.2.2
  have L12 := W.1
  have c0 : q_i (τ.1 206 388) = Int32.ofNat ls.length := by rw [RL.1]; rfl
  simp only [kw, z388, c0] at h4
  rw [o32 (by omega), o32 (by omega)] at h4
  have e : n = ls.length := by omega
  subst e
  exact ⟨fr, rfl⟩
theorem sp_238_c4_fft (a0 : Nat) (a1 : Int32) (a2 : Int32) (a3 : Int32) (σ : zSg) (l0 : Nat) (l1 : Int32) (l2 : Int32) (l3 : Int32) (l4 : Int32) (l5 : Int32) (τ : zSg) (hI : i_238 a0 a1 a2 a3 σ l0 l1 l2 l3 l4 l5 τ) (h1 : 0 ≤ (Int32.ofInt (3)).toInt ∧ (Int32.ofInt (3)).toInt < (τ.2.1 (q_r (τ.1 l0 1)) : Int)) (h2 : (q_i (τ.1 (q_r (τ.1 l0 1)) (Int32.ofInt (3)).toNatClampNeg)).toInt = (1 : Int)) (h3 : 0 ≤ (Int32.ofInt (388)).toInt ∧ (Int32.ofInt (388)).toInt < (τ.2.1 (q_r (τ.1 l0 1)) : Int)) (h4 : l5.toInt < (q_i (τ.1 (q_r (τ.1 l0 1)) (Int32.ofInt (388)).toNatClampNeg)).toInt) (h5 : 0 ≤ ((Int32.ofInt (389)) + ((Int32.ofInt (4)) * l5)).toInt ∧ ((Int32.ofInt (389)) + ((Int32.ofInt (4)) * l5)).toInt < (τ.2.1 (q_r (τ.1 l0 1)) : Int)) (h6 : (q_i (τ.1 (q_r (τ.1 l0 1)) ((Int32.ofInt (389)) + ((Int32.ofInt (4)) * l5)).toNatClampNeg)).toInt ≠ l1.toInt) :
    i_238 a0 a1 a2 a3 σ l0 l1 l2 l3 l4 (l5 + Int32.ofInt (1)) τ := by
  obtain ⟨rfl, rfl, rfl, rfl, hI⟩ := hI
  refine ⟨rfl, rfl, rfl, rfl, ?_⟩
  intro ea A nt Lo F hh kd K ek ef hF eh hhh
  obtain ⟨fr, n, e5, e4, hn⟩ := hI ea A nt Lo F hh kd K ek ef hF eh hhh
  obtain ⟨ek, hk2⟩ := ek
  subst ea ek ef eh e5 e4
  have K1 := K.fr fr
  have kw := K1.1.q
  have z3 : (Int32.ofInt 3).toNatClampNeg = 3 := rfl
  have z388 : (Int32.ofInt 388).toNatClampNeg = 388 := rfl
  have i3 := K1.1.i (k := 3) (by omega)
  simp only [kw, z3, i3] at h2
  match Lo, K, K1, hn with
  | none, K, K1, hn =>
    have e3 : A 3 = Int32.ofInt 0 := K1.2.2.2.2.2
    rw [e3] at h2
    exact absurd h2 (by decide)
  | some (L, ls, l), K, K1, hn =>
  have e3 : A 3 = Int32.ofInt 1 := K1.2.2.2.2.2.1
  have hn : n ≤ ls.length := hn
  have RL := K1.2.2.2.2.2.2.1
  have W := K1.2.2.2.2.2.2.2
  have L12 := W.1
  have c0 : q_i (τ.1 206 388) = Int32.ofNat ls.length := by rw [RL.1]; rfl
  simp only [kw, z388, c0] at h4
  rw [o32 (by omega), o32 (by omega)] at h4
  have hx : ls[n]? = some ls[n] := List.getElem?_eq_getElem (by omega)
  generalize ls[n] = x at hx
  obtain ⟨b1, b2, b3, b4⟩ := RL.2.1 n x hx
  obtain ⟨w1, w2, w3, w4, w5, w6⟩ := W.2.2.2 n x hx
  have b1 : q_i (τ.1 206 (389 + 4 * n)) = Int32.ofNat x.1 := by rw [b1]; rfl
  have b2 : q_i (τ.1 206 (390 + 4 * n)) = Int32.ofNat x.2.1 := by rw [b2]; rfl
  have n389 := ix389n (i := n) (by omega)
  have n390 := ix390n (i := n) (by omega)
  simp only [kw, n389, b1] at h6
  have es : eSum ls l (eFa A nt F hh) kd (n + 1) = eSum ls l (eFa A nt F hh) kd n + (if x.1 = kd ∧ eH l (eFa A nt F hh) x = true then Int32.ofNat x.2.1 else Int32.ofInt 0) := by
    show aSm _ n + eL ls l (eFa A nt F hh) kd n = _
    unfold eL
    rw [hx]
    rfl
  refine ⟨fr, n + 1, o32i (by omega), ?_, ?_⟩
  · show eSum ls l (eFa A nt F hh) kd n = eSum ls l (eFa A nt F hh) kd (n + 1)
    rw [es, if_neg, show Int32.ofInt 0 = 0 from rfl, Int32.add_zero]
    intro q
    exact h6 (by rw [q.1])
  · show n + 1 ≤ ls.length
    omega
theorem sp_238_c4_ffft (a0 : Nat) (a1 : Int32) (a2 : Int32) (a3 : Int32) (σ : zSg) (l0 : Nat) (l1 : Int32) (l2 : Int32) (l3 : Int32) (l4 : Int32) (l5 : Int32) (τ : zSg) (τ7 : zSg) (r7 : Int32) (hI : i_238 a0 a1 a2 a3 σ l0 l1 l2 l3 l4 l5 τ) (h1 : 0 ≤ (Int32.ofInt (3)).toInt ∧ (Int32.ofInt (3)).toInt < (τ.2.1 (q_r (τ.1 l0 1)) : Int)) (h2 : (q_i (τ.1 (q_r (τ.1 l0 1)) (Int32.ofInt (3)).toNatClampNeg)).toInt = (1 : Int)) (h3 : 0 ≤ (Int32.ofInt (388)).toInt ∧ (Int32.ofInt (388)).toInt < (τ.2.1 (q_r (τ.1 l0 1)) : Int)) (h4 : l5.toInt < (q_i (τ.1 (q_r (τ.1 l0 1)) (Int32.ofInt (388)).toNatClampNeg)).toInt) (h5 : 0 ≤ ((Int32.ofInt (389)) + ((Int32.ofInt (4)) * l5)).toInt ∧ ((Int32.ofInt (389)) + ((Int32.ofInt (4)) * l5)).toInt < (τ.2.1 (q_r (τ.1 l0 1)) : Int)) (h6 : (q_i (τ.1 (q_r (τ.1 l0 1)) ((Int32.ofInt (389)) + ((Int32.ofInt (4)) * l5)).toNatClampNeg)).toInt = l1.toInt) (g7 : p_237 l0 l5 l2 l3 τ r7 τ7) (h8 : r7.toInt = (0 : Int)) :
    i_238 a0 a1 a2 a3 σ l0 l1 l2 l3 l4 (l5 + Int32.ofInt (1)) τ7 := by
  obtain ⟨rfl, rfl, rfl, rfl, hI⟩ := hI
  refine ⟨rfl, rfl, rfl, rfl, ?_⟩
  intro ea A nt Lo F hh kd K ek ef hF eh hhh
  obtain ⟨fr, n, e5, e4, hn⟩ := hI ea A nt Lo F hh kd K ek ef hF eh hhh
  obtain ⟨ek, hk2⟩ := ek
  subst ea ek ef eh e5 e4
  have K1 := K.fr fr
  have kw := K1.1.q
  have z3 : (Int32.ofInt 3).toNatClampNeg = 3 := rfl
  have z388 : (Int32.ofInt 388).toNatClampNeg = 388 := rfl
  have i3 := K1.1.i (k := 3) (by omega)
  simp only [kw, z3, i3] at h2
  match Lo, K, K1, hn with
  | none, K, K1, hn =>
    have e3 : A 3 = Int32.ofInt 0 := K1.2.2.2.2.2
    rw [e3] at h2
    exact absurd h2 (by decide)
  | some (L, ls, l), K, K1, hn =>
  have e3 : A 3 = Int32.ofInt 1 := K1.2.2.2.2.2.1
  have hn : n ≤ ls.length := hn
  have RL := K1.2.2.2.2.2.2.1
  have W := K1.2.2.2.2.2.2.2
  have L12 := W.1
  have c0 : q_i (τ.1 206 388) = Int32.ofNat ls.length := by rw [RL.1]; rfl
  simp only [kw, z388, c0] at h4
  rw [o32 (by omega), o32 (by omega)] at h4
  have hx : ls[n]? = some ls[n] := List.getElem?_eq_getElem (by omega)
  generalize ls[n] = x at hx
  obtain ⟨b1, b2, b3, b4⟩ := RL.2.1 n x hx
  obtain ⟨w1, w2, w3, w4, w5, w6⟩ := W.2.2.2 n x hx
  have b1 : q_i (τ.1 206 (389 + 4 * n)) = Int32.ofNat x.1 := by rw [b1]; rfl
  have b2 : q_i (τ.1 206 (390 + 4 * n)) = Int32.ofNat x.2.1 := by rw [b2]; rfl
  have n389 := ix389n (i := n) (by omega)
  have n390 := ix390n (i := n) (by omega)
  simp only [kw, n389, b1] at h6
  have es : eSum ls l (eFa A nt F hh) kd (n + 1) = eSum ls l (eFa A nt F hh) kd n + (if x.1 = kd ∧ eH l (eFa A nt F hh) x = true then Int32.ofNat x.2.1 else Int32.ofInt 0) := by
    show aSm _ n + eL ls l (eFa A nt F hh) kd n = _
    unfold eL
    rw [hx]
    rfl
  have hkd : x.1 = kd := by
    have h9 := congrArg Int32.toInt (Int32.toInt_inj.mp h6)
    rw [o32 (by omega), o32 (by omega)] at h9
    omega
  obtain ⟨f1, e1⟩ := g7 rfl A nt L ls l F hh n x K1 rfl hx rfl hF rfl hhh
  rw [e1] at h8
  refine ⟨fr.tr f1, n + 1, o32i (by omega), ?_, ?_⟩
  · show eSum ls l (eFa A nt F hh) kd n = eSum ls l (eFa A nt F hh) kd (n + 1)
    rw [es, if_neg, show Int32.ofInt 0 = 0 from rfl, Int32.add_zero]
    intro q
    rw [if_pos q.2] at h8
    exact absurd h8 (by decide)
  · show n + 1 ≤ ls.length
    omega
theorem sp_238_c4_ffff (a0 : Nat) (a1 : Int32) (a2 : Int32) (a3 : Int32) (σ : zSg) (l0 : Nat) (l1 : Int32) (l2 : Int32) (l3 : Int32) (l4 : Int32) (l5 : Int32) (τ : zSg) (τ7 : zSg) (r7 : Int32) (hI : i_238 a0 a1 a2 a3 σ l0 l1 l2 l3 l4 l5 τ) (h1 : 0 ≤ (Int32.ofInt (3)).toInt ∧ (Int32.ofInt (3)).toInt < (τ.2.1 (q_r (τ.1 l0 1)) : Int)) (h2 : (q_i (τ.1 (q_r (τ.1 l0 1)) (Int32.ofInt (3)).toNatClampNeg)).toInt = (1 : Int)) (h3 : 0 ≤ (Int32.ofInt (388)).toInt ∧ (Int32.ofInt (388)).toInt < (τ.2.1 (q_r (τ.1 l0 1)) : Int)) (h4 : l5.toInt < (q_i (τ.1 (q_r (τ.1 l0 1)) (Int32.ofInt (388)).toNatClampNeg)).toInt) (h5 : 0 ≤ ((Int32.ofInt (389)) + ((Int32.ofInt (4)) * l5)).toInt ∧ ((Int32.ofInt (389)) + ((Int32.ofInt (4)) * l5)).toInt < (τ.2.1 (q_r (τ.1 l0 1)) : Int)) (h6 : (q_i (τ.1 (q_r (τ.1 l0 1)) ((Int32.ofInt (389)) + ((Int32.ofInt (4)) * l5)).toNatClampNeg)).toInt = l1.toInt) (g7 : p_237 l0 l5 l2 l3 τ r7 τ7) (h8 : r7.toInt ≠ (0 : Int)) (h9 : 0 ≤ (((Int32.ofInt (389)) + ((Int32.ofInt (4)) * l5)) + (Int32.ofInt (1))).toInt ∧ (((Int32.ofInt (389)) + ((Int32.ofInt (4)) * l5)) + (Int32.ofInt (1))).toInt < (τ7.2.1 (q_r (τ7.1 l0 1)) : Int)) :
    i_238 a0 a1 a2 a3 σ l0 l1 l2 l3 (l4 + (q_i (τ7.1 (q_r (τ7.1 l0 1)) (((Int32.ofInt (389)) + ((Int32.ofInt (4)) * l5)) + (Int32.ofInt (1))).toNatClampNeg))) (l5 + Int32.ofInt (1)) τ7 := by
  obtain ⟨rfl, rfl, rfl, rfl, hI⟩ := hI
  refine ⟨rfl, rfl, rfl, rfl, ?_⟩
  intro ea A nt Lo F hh kd K ek ef hF eh hhh
  obtain ⟨fr, n, e5, e4, hn⟩ := hI ea A nt Lo F hh kd K ek ef hF eh hhh
  obtain ⟨ek, hk2⟩ := ek
  subst ea ek ef eh e5 e4
  have K1 := K.fr fr
  have kw := K1.1.q
  have z3 : (Int32.ofInt 3).toNatClampNeg = 3 := rfl
  have z388 : (Int32.ofInt 388).toNatClampNeg = 388 := rfl
  have i3 := K1.1.i (k := 3) (by omega)
  simp only [kw, z3, i3] at h2
  match Lo, K, K1, hn with
  | none, K, K1, hn =>
    have e3 : A 3 = Int32.ofInt 0 := K1.2.2.2.2.2
    rw [e3] at h2
    exact absurd h2 (by decide)
  | some (L, ls, l), K, K1, hn =>
  have e3 : A 3 = Int32.ofInt 1 := K1.2.2.2.2.2.1
  have hn : n ≤ ls.length := hn
  have RL := K1.2.2.2.2.2.2.1
  have W := K1.2.2.2.2.2.2.2
  have L12 := W.1
  have c0 : q_i (τ.1 206 388) = Int32.ofNat ls.length := by rw [RL.1]; rfl
  simp only [kw, z388, c0] at h4
  rw [o32 (by omega), o32 (by omega)] at h4
  have hx : ls[n]? = some ls[n] := List.getElem?_eq_getElem (by omega)
  generalize ls[n] = x at hx
  obtain ⟨b1, b2, b3, b4⟩ := RL.2.1 n x hx
  obtain ⟨w1, w2, w3, w4, w5, w6⟩ := W.2.2.2 n x hx
  have b1 : q_i (τ.1 206 (389 + 4 * n)) = Int32.ofNat x.1 := by rw [b1]; rfl
  have b2 : q_i (τ.1 206 (390 + 4 * n)) = Int32.ofNat x.2.1 := by rw [b2]; rfl
  have n389 := ix389n (i := n) (by omega)
  have n390 := ix390n (i := n) (by omega)
  simp only [kw, n389, b1] at h6
  have es : eSum ls l (eFa A nt F hh) kd (n + 1) = eSum ls l (eFa A nt F hh) kd n + (if x.1 = kd ∧ eH l (eFa A nt F hh) x = true then Int32.ofNat x.2.1 else Int32.ofInt 0) := by
    show aSm _ n + eL ls l (eFa A nt F hh) kd n = _
    unfold eL
    rw [hx]
    rfl
  have hkd : x.1 = kd := by
    have h9 := congrArg Int32.toInt (Int32.toInt_inj.mp h6)
    rw [o32 (by omega), o32 (by omega)] at h9
    omega
  obtain ⟨f1, e1⟩ := g7 rfl A nt L ls l F hh n x K1 rfl hx rfl hF rfl hhh
  rw [e1] at h8
  have hh' : eH l (eFa A nt F hh) x = true := by
    refine Decidable.byContradiction fun q => ?_
    rw [if_neg q] at h8
    exact absurd rfl h8
  have kw' : q_r (τ7.1 205 1) = 206 := by rw [f1.2 _ _ (by omega)]; exact kw
  have b2' : q_i (τ7.1 206 (390 + 4 * n)) = Int32.ofNat x.2.1 := by rw [f1.2 _ _ (by omega)]; exact b2
  refine ⟨fr.tr f1, n + 1, o32i (by omega), ?_, ?_⟩
  · simp only [kw', n390, b2']
    show eSum ls l (eFa A nt F hh) kd n + Int32.ofNat x.2.1 = eSum ls l (eFa A nt F hh) kd (n + 1)
    rw [es, if_pos ⟨hkd, hh'⟩]
  · show n + 1 ≤ ls.length
    omega
noncomputable def qP_238 : zPp := fun as σ o σ' => match as with
  | [a0, a1, a2, a3] => ∃ r, o = .inl (some (.int r)) ∧ p_238 (q_r a0) (q_i a1) (q_i a2) (q_i a3) σ r σ'
  | _ => True
set_option maxRecDepth 100000 in
theorem sp_238 {sx : zX} (S237 : zEe sx 237 4 qP_237) : zEe sx 238 4 qP_238 := by
  refine zfle zJ_238 (sps := [(237, 4, qP_237)]) (fun q hq => by
    simp only [List.mem_cons, List.not_mem_nil, or_false] at hq
    rcases hq with rfl
    · exact S237) (fun as σ hl => ?_)
  match as, hl with
  | [a0, a1, a2, a3], _ =>
  refine ⟨[(4, fun lo st τ => st = [] ∧ i_238 (q_r a0) (q_i a1) (q_i a2) (q_i a3) σ (q_r (lo 0)) (q_i (lo 1)) (q_i (lo 2)) (q_i (lo 3)) (q_i (lo 4)) (q_i (lo 5)) τ)], 400, ?_, ?_⟩
  · intro q hq
    simp only [List.mem_cons, List.not_mem_nil, or_false] at hq
    rcases hq with rfl
    · rintro lo st τ ⟨rfl, hI⟩
      refine ⟨400, ?_⟩
      refine fun h1 => ?_
      refine And.intro (fun h2 => ?_) (fun h2 => ?_)
      · exact ⟨_, rfl, sp_238_c4_t (q_r a0) (q_i a1) (q_i a2) (q_i a3) σ (q_r (lo 0)) (q_i (lo 1)) (q_i (lo 2)) (q_i (lo 3)) (q_i (lo 4)) (q_i (lo 5)) τ hI (q_inp h1) (cm1t h2)⟩
      · refine fun h3 => ?_
        refine And.intro (fun h4 => ?_) (fun h4 => ?_)
        · exact ⟨_, rfl, sp_238_c4_ft (q_r a0) (q_i a1) (q_i a2) (q_i a3) σ (q_r (lo 0)) (q_i (lo 1)) (q_i (lo 2)) (q_i (lo 3)) (q_i (lo 4)) (q_i (lo 5)) τ hI (q_inp h1) (cm1f h2) (q_inp h3) (cm3t h4)⟩
        · refine fun h5 => ?_
          refine And.intro (fun h6 => ?_) (fun h6 => ?_)
          · exact ⟨rfl, sp_238_c4_fft (q_r a0) (q_i a1) (q_i a2) (q_i a3) σ (q_r (lo 0)) (q_i (lo 1)) (q_i (lo 2)) (q_i (lo 3)) (q_i (lo 4)) (q_i (lo 5)) τ hI (q_inp h1) (cm1f h2) (q_inp h3) (cm3f h4) (q_inp h5) (cm1t h6)⟩
          · refine fun o7 τ7 g7 => ?_
            obtain ⟨r7, rfl, g7⟩ := g7
            refine And.intro (fun h8 => ?_) (fun h8 => ?_)
            · exact ⟨rfl, sp_238_c4_ffft (q_r a0) (q_i a1) (q_i a2) (q_i a3) σ (q_r (lo 0)) (q_i (lo 1)) (q_i (lo 2)) (q_i (lo 3)) (q_i (lo 4)) (q_i (lo 5)) τ τ7 r7 hI (q_inp h1) (cm1f h2) (q_inp h3) (cm3f h4) (q_inp h5) (cm1f h6) g7 (cm0t h8)⟩
            · refine fun h9 => ?_
              exact ⟨rfl, sp_238_c4_ffff (q_r a0) (q_i a1) (q_i a2) (q_i a3) σ (q_r (lo 0)) (q_i (lo 1)) (q_i (lo 2)) (q_i (lo 3)) (q_i (lo 4)) (q_i (lo 5)) τ τ7 r7 hI (q_inp h1) (cm1f h2) (q_inp h3) (cm3f h4) (q_inp h5) (cm1f h6) g7 (cm0f h8) (q_inp h9)⟩
  · exact ⟨rfl, sp_238_e (q_r a0) (q_i a1) (q_i a2) (q_i a3) σ ⟩
theorem zJ_239 : zJ3 239 z_m239 z_c239 z_h239 := ⟨rfl, rfl, rfl⟩
noncomputable def p_239 (a : Nat) (f h : Int32) (σ : zSg) (r : Int32) (σ' : zSg) : Prop := a = 205 → ∀ A nt Lo F hh, rEv σ A nt Lo → f = Int32.ofNat F → F < 6 → h = Int32.ofNat hh → hh < 24 → rVF σ σ' ∧ r = A (42 + 4 * F) + eSm Lo (eFa A nt F hh) 0
theorem sp_239_e (a0 : Nat) (a1 : Int32) (a2 : Int32) (σ : zSg) (τ1 : zSg) (r1 : Int32) (τ2 : zSg) (r2 : Int32) (g1 : p_190 a0 a1 (Int32.ofInt (2)) σ r1 τ1) (g2 : p_238 a0 (Int32.ofInt (0)) a1 a2 τ1 r2 τ2) :
    p_239 (a0) (a1) (a2) σ (r1 + r2) τ2 := by
  intro ea A nt Lo F hh K ef hF eh hhh
  subst ea ef eh
  obtain ⟨rfl, g1⟩ := g1
  have x1 := g1 rfl A K.1 F 2 rfl hF rfl (by omega)
  obtain ⟨f2, e2⟩ := g2 rfl A nt Lo F hh 0 K ⟨rfl, by omega⟩ rfl hF rfl hhh
  exact ⟨f2, by rw [x1, e2]⟩
noncomputable def qP_239 : zPp := fun as σ o σ' => match as with
  | [a0, a1, a2] => ∃ r, o = .inl (some (.int r)) ∧ p_239 (q_r a0) (q_i a1) (q_i a2) σ r σ'
  | _ => True
set_option maxRecDepth 100000 in
theorem sp_239 {sx : zX} (S190 : zEe sx 190 3 qP_190) (S238 : zEe sx 238 4 qP_238) : zEe sx 239 3 qP_239 := by
  refine zfle zJ_239 (sps := [(190, 3, qP_190), (238, 4, qP_238)]) (fun q hq => by
    simp only [List.mem_cons, List.not_mem_nil, or_false] at hq
    rcases hq with rfl | rfl
    · exact S190
    · exact S238) (fun as σ hl => ?_)
  match as, hl with
  | [a0, a1, a2], _ =>
  refine ⟨[], 400, ?_, ?_⟩
  · exact fun q hq => absurd hq List.not_mem_nil
  · refine fun o1 τ1 g1 => ?_
    obtain ⟨r1, rfl, g1⟩ := g1
    refine fun o2 τ2 g2 => ?_
    obtain ⟨r2, rfl, g2⟩ := g2
    exact ⟨_, rfl, sp_239_e (q_r a0) (q_i a1) (q_i a2) σ τ1 r1 τ2 r2 g1 g2⟩
theorem zJ_240 : zJ3 240 z_m240 z_c240 z_h240 := ⟨rfl, rfl, rfl⟩
noncomputable def p_240 (a : Nat) (f h : Int32) (σ : zSg) (r : Int32) (σ' : zSg) : Prop := a = 205 → ∀ A nt Lo F hh, rEv σ A nt Lo → f = Int32.ofNat F → F < 6 → h = Int32.ofNat hh → hh < 24 → rVF σ σ' ∧ r = A (41 + 4 * F) + eSm Lo (eFa A nt F hh) 1
theorem sp_240_e (a0 : Nat) (a1 : Int32) (a2 : Int32) (σ : zSg) (τ1 : zSg) (r1 : Int32) (τ2 : zSg) (r2 : Int32) (g1 : p_190 a0 a1 (Int32.ofInt (1)) σ r1 τ1) (g2 : p_238 a0 (Int32.ofInt (1)) a1 a2 τ1 r2 τ2) :
    p_240 (a0) (a1) (a2) σ (r1 + r2) τ2 := by
  intro ea A nt Lo F hh K ef hF eh hhh
  subst ea ef eh
  obtain ⟨rfl, g1⟩ := g1
  have x1 := g1 rfl A K.1 F 1 rfl hF rfl (by omega)
  obtain ⟨f2, e2⟩ := g2 rfl A nt Lo F hh 1 K ⟨rfl, by omega⟩ rfl hF rfl hhh
  exact ⟨f2, by rw [x1, e2]⟩
noncomputable def qP_240 : zPp := fun as σ o σ' => match as with
  | [a0, a1, a2] => ∃ r, o = .inl (some (.int r)) ∧ p_240 (q_r a0) (q_i a1) (q_i a2) σ r σ'
  | _ => True
set_option maxRecDepth 100000 in
theorem sp_240 {sx : zX} (S190 : zEe sx 190 3 qP_190) (S238 : zEe sx 238 4 qP_238) : zEe sx 240 3 qP_240 := by
  refine zfle zJ_240 (sps := [(190, 3, qP_190), (238, 4, qP_238)]) (fun q hq => by
    simp only [List.mem_cons, List.not_mem_nil, or_false] at hq
    rcases hq with rfl | rfl
    · exact S190
    · exact S238) (fun as σ hl => ?_)
  match as, hl with
  | [a0, a1, a2], _ =>
  refine ⟨[], 400, ?_, ?_⟩
  · exact fun q hq => absurd hq List.not_mem_nil
  · refine fun o1 τ1 g1 => ?_
    obtain ⟨r1, rfl, g1⟩ := g1
    refine fun o2 τ2 g2 => ?_
    obtain ⟨r2, rfl, g2⟩ := g2
    exact ⟨_, rfl, sp_240_e (q_r a0) (q_i a1) (q_i a2) σ τ1 r1 τ2 r2 g1 g2⟩
theorem zJ_241 : zJ3 241 z_m241 z_c241 z_h241 := ⟨rfl, rfl, rfl⟩
noncomputable def p_241 (a : Nat) (t : Int32) (σ : zSg) (r : Int32) (σ' : zSg) : Prop := a = 205 → ∀ A nt Lo F hh T, rEv σ A nt Lo → t = Int32.ofNat T → T < 8 → A (64 + 3 * T) = Int32.ofNat F → F < 6 → A 4 = Int32.ofNat hh → hh < 24 → rVF σ σ' ∧ r = A 11 * A (65 + 3 * T) + eSm Lo (eFa A nt F hh) 2
theorem sp_241_e (a0 : Nat) (a1 : Int32) (σ : zSg) (τ2 : zSg) (r2 : Int32) (τ3 : zSg) (r3 : Int32) (τ5 : zSg) (r5 : Int32) (h1 : 0 ≤ (Int32.ofInt (11)).toInt ∧ (Int32.ofInt (11)).toInt < (σ.2.1 (q_r (σ.1 a0 1)) : Int)) (g2 : p_193 a0 a1 (Int32.ofInt (1)) σ r2 τ2) (g3 : p_193 a0 a1 (Int32.ofInt (0)) τ2 r3 τ3) (h4 : 0 ≤ (Int32.ofInt (4)).toInt ∧ (Int32.ofInt (4)).toInt < (τ3.2.1 (q_r (τ3.1 a0 1)) : Int)) (g5 : p_238 a0 (Int32.ofInt (2)) r3 (q_i (τ3.1 (q_r (τ3.1 a0 1)) (Int32.ofInt (4)).toNatClampNeg)) τ3 r5 τ5) :
    p_241 (a0) (a1) σ (((q_i (σ.1 (q_r (σ.1 a0 1)) (Int32.ofInt (11)).toNatClampNeg)) * r2) + r5) τ5 := by
  intro ea A nt Lo F hh T K et hT eo hF e4 hhh
  subst ea et
  have kw := K.1.q
  have z11 : (Int32.ofInt 11).toNatClampNeg = 11 := rfl
  have i11 := K.1.i (k := 11) (by omega)
  have i4 := (K.1.i (k := 4) (by omega)).trans e4
  obtain ⟨rfl, g1⟩ := g2
  have x1 := g1 rfl A K.1 T 1 rfl hT rfl (by omega)
  obtain ⟨rfl, g2⟩ := g3
  have x2 := (g2 rfl A K.1 T 0 rfl hT rfl (by omega)).trans eo
  simp only [kw, kz4, i4, x2] at g5
  obtain ⟨f3, e3⟩ := g5 rfl A nt Lo F hh 2 K ⟨rfl, by omega⟩ rfl hF rfl hhh
  refine ⟨f3, ?_⟩
  simp only [kw, z11, i11, x1, e3]
noncomputable def qP_241 : zPp := fun as σ o σ' => match as with
  | [a0, a1] => ∃ r, o = .inl (some (.int r)) ∧ p_241 (q_r a0) (q_i a1) σ r σ'
  | _ => True
set_option maxRecDepth 100000 in
theorem sp_241 {sx : zX} (S193 : zEe sx 193 3 qP_193) (S238 : zEe sx 238 4 qP_238) : zEe sx 241 2 qP_241 := by
  refine zfle zJ_241 (sps := [(193, 3, qP_193), (238, 4, qP_238)]) (fun q hq => by
    simp only [List.mem_cons, List.not_mem_nil, or_false] at hq
    rcases hq with rfl | rfl
    · exact S193
    · exact S238) (fun as σ hl => ?_)
  match as, hl with
  | [a0, a1], _ =>
  refine ⟨[], 400, ?_, ?_⟩
  · exact fun q hq => absurd hq List.not_mem_nil
  · refine fun h1 => ?_
    refine fun o2 τ2 g2 => ?_
    obtain ⟨r2, rfl, g2⟩ := g2
    refine fun o3 τ3 g3 => ?_
    obtain ⟨r3, rfl, g3⟩ := g3
    refine fun h4 => ?_
    refine fun o5 τ5 g5 => ?_
    obtain ⟨r5, rfl, g5⟩ := g5
    exact ⟨_, rfl, sp_241_e (q_r a0) (q_i a1) σ τ2 r2 τ3 r3 τ5 r5 (q_inp h1) g2 g3 (q_inp h4) g5⟩
end
section
/-! AN HOUR, pure: on a house as a row of ints -/
noncomputable def aMi (x y : Int32) : Int32 := if y < x then y else x
noncomputable def aMa (x y : Int32) : Int32 := if x < y then y else x
/-- a row more of the log -/
noncomputable def aTl (A : Nat → Int32) (d h f w v : Int32) (i : Nat) : Int32 := if 93 ≤ i ∧ i < 388 then A (i - 5) else if i = 88 then d else if i = 89 then h else if i = 90 then f else if i = 91 then w else if i = 92 then v else if i = 14 then aMi (Int32.ofInt 60) (A 14 + Int32.ofInt 1) else A i
theorem aTl_lo {A : Nat → Int32} {d h f w v : Int32} {i : Nat} (h1 : i < 88) (h2 : i ≠ 14) : aTl A d h f w v i = A i := by
  unfold aTl
  rw [if_neg (by omega), if_neg (by omega), if_neg (by omega), if_neg (by omega), if_neg (by omega), if_neg (by omega), if_neg h2]
theorem aTl_14 {A : Nat → Int32} {d h f w v : Int32} : aTl A d h f w v 14 = aMi (Int32.ofInt 60) (A 14 + Int32.ofInt 1) := rfl
/-- who is in, as a number or none -/
noncomputable def hN (A : Nat → Int32) : Nat := (A 4).toNatClampNeg
noncomputable def hO (x : Int32) : Option Nat := if x = Int32.ofInt (-1) then none else some x.toNatClampNeg
noncomputable def hWm (Lo : Option (Nat × List gLn4 × zSs)) (nt : Nat) (A : Nat → Int32) (n : Nat) : Option Nat → (Nat → Int32)
  | none => A
  | some F => aU (aU A 6 (aMi (Int32.ofInt 99) (A 6 + (A (42 + 4 * F) + eSm Lo (eFa A nt F n) 0)))) 7 (aMi (Int32.ofInt 99) (A 7 + (A (41 + 4 * F) + eSm Lo (eFa A nt F n) 1)))
noncomputable def hCd (A : Nat → Int32) : Nat → Int32 := aU A 6 (aMa (Int32.ofInt 0) (A 6 - A 10))
noncomputable def hSd (x : Int32) : Int32 := Int32.ofInt 1103515245 * x + Int32.ofInt 12345
noncomputable def hDr (x : Int32) : Int32 := ((x >>> (Int32.ofInt 16 &&& 31)) &&& Int32.ofInt 32767) - ((x >>> (Int32.ofInt 16 &&& 31)) &&& Int32.ofInt 32767) / Int32.ofInt 100 * Int32.ofInt 100
noncomputable def hVi (A : Nat → Int32) (o : Option Nat) : Nat → Int32 := match o with
  | none => aU A 15 (hSd (A 15))
  | some F => if (hDr (hSd (A 15))).toInt < (A 13).toInt then aTl (aU (aU (aU A 15 (hSd (A 15))) 8 (aMi (Int32.ofInt 9) (A 8 + Int32.ofInt 1))) 9 (Int32.ofNat F)) (A 5) (A 4) (Int32.ofNat F) (Int32.ofInt 0) (aMi (Int32.ofInt 9) (A 8 + Int32.ofInt 1)) else aU A 15 (hSd (A 15))
noncomputable def hCk (A : Nat → Int32) (n : Nat) : Nat → Int32 := if n = 23 then aU (aU A 4 (Int32.ofInt 0)) 5 (aMi (Int32.ofInt 9999) (A 5 + Int32.ofInt 1)) else aU A 4 (Int32.ofNat (n + 1))
noncomputable def hSm (Lo : Option (Nat × List gLn4 × zSs)) (nt : Nat) (A : Nat → Int32) (F n t : Nat) : Int32 := A 11 * A (65 + 3 * t) + eSm Lo (eFa A nt F n) 2
noncomputable def hF1 (A : Nat → Int32) (F t : Nat) (s : Int32) : Nat → Int32 := aTl (aU (aU A (40 + 4 * F) (aPy (A (40 + 4 * F)) s)) (66 + 3 * t) (Int32.ofInt 0)) (A 5) (A 4) (Int32.ofNat F) (Int32.ofInt 1) s
noncomputable def hFi (Lo : Option (Nat × List gLn4 × zSs)) (nt : Nat) (A : Nat → Int32) (F n : Nat) : Nat → (Nat → Int32) × Nat
  | 0 => (A, 0)
  | t + 1 => if (hFi Lo nt A F n t).1 (64 + 3 * t) = Int32.ofNat F ∧ (hFi Lo nt A F n t).1 (66 + 3 * t) = Int32.ofInt 1 then (hF1 (hFi Lo nt A F n t).1 F t (hSm Lo nt (hFi Lo nt A F n t).1 F n t), (hFi Lo nt A F n t).2 + 1) else hFi Lo nt A F n t
/-- ahead of the clock's turn -/
noncomputable def hMd (Lo : Option (Nat × List gLn4 × zSs)) (nt : Nat) (calm : Bool) (A : Nat → Int32) : Nat → Int32 :=
  bif calm then hCd (hWm Lo nt A (hN A) (hO (A (16 + hN A)))) else hVi (hCd (hWm Lo nt A (hN A) (hO (A (16 + hN A))))) (hO (A (16 + hN A)))
noncomputable def hEd (Lo : Option (Nat × List gLn4 × zSs)) (nt : Nat) (B : Nat → Int32) (x : Int32) : (Nat → Int32) × Nat :=
  if x = Int32.ofInt (-1) ∨ B (16 + hN B) = x then (B, 0) else hFi Lo nt B x.toNatClampNeg (hN B) nt
noncomputable def hHr (Lo : Option (Nat × List gLn4 × zSs)) (nt : Nat) (calm : Bool) (A : Nat → Int32) : (Nat → Int32) × Nat := hEd Lo nt (hCk (hMd Lo nt calm A) (hN A)) (A (16 + hN A))
/-- so many hours -/
noncomputable def hHs (Lo : Option (Nat × List gLn4 × zSs)) (nt : Nat) (calm : Bool) (A : Nat → Int32) : Nat → (Nat → Int32) × Nat
  | 0 => (A, 0)
  | n + 1 => ((hHr Lo nt calm (hHs Lo nt calm A n).1).1, (hHs Lo nt calm A n).2 + (hHr Lo nt calm (hHs Lo nt calm A n).1).2)
/-! what stays -/
theorem aMi_r {x y : Int32} (h : 0 ≤ x.toInt) (hy : 0 ≤ y.toInt) : 0 ≤ (aMi x y).toInt ∧ (aMi x y).toInt ≤ x.toInt ∧ (aMi x y).toInt ≤ y.toInt := by
  unfold aMi
  by_cases q : y < x
  · rw [if_pos q]; rw [Int32.lt_iff_toInt_lt] at q; omega
  · rw [if_neg q]; rw [Int32.lt_iff_toInt_lt] at q; omega
theorem hO_n {F : Nat} (h : F ≤ 900) : hO (Int32.ofNat F) = some F := by
  unfold hO
  rw [if_neg, o32n (by omega)]
  intro q
  have := congrArg Int32.toInt q
  rw [o32 (by omega)] at this
  have e : (Int32.ofInt (-1)).toInt = -1 := rfl
  omega
theorem hO_0 : hO (Int32.ofInt (-1)) = none := if_pos rfl
theorem hN_n {A : Nat → Int32} {n : Nat} (h : A 4 = Int32.ofNat n) (hn : n ≤ 900) : hN A = n := by
  unfold hN
  rw [h, o32n (by omega)]
theorem hWm_k {Lo : Option (Nat × List gLn4 × zSs)} {nt n k : Nat} {A : Nat → Int32} {o : Option Nat} (h6 : k ≠ 6) (h7 : k ≠ 7) : hWm Lo nt A n o k = A k := by
  cases o with
  | none => rfl
  | some F =>
    show aU (aU A 6 _) 7 _ k = _
    rw [aU_ne h7, aU_ne h6]
theorem hCd_k {A : Nat → Int32} {k : Nat} (h6 : k ≠ 6) : hCd A k = A k := aU_ne h6
theorem hVi_k {A : Nat → Int32} {o : Option Nat} {k : Nat} (h : k < 88) (h1 : k ≠ 15) (h2 : k ≠ 8) (h3 : k ≠ 9) (h4 : k ≠ 14) : hVi A o k = A k := by
  cases o with
  | none => exact aU_ne h1
  | some F =>
    unfold hVi
    dsimp only
    by_cases q : (hDr (hSd (A 15))).toInt < (A 13).toInt
    · rw [if_pos q, aTl_lo h h4, aU_ne h3, aU_ne h2, aU_ne h1]
    · rw [if_neg q, aU_ne h1]
theorem hCk_k {A : Nat → Int32} {n k : Nat} (h4 : k ≠ 4) (h5 : k ≠ 5) : hCk A n k = A k := by
  unfold hCk
  by_cases q : n = 23
  · rw [if_pos q, aU_ne h5, aU_ne h4]
  · rw [if_neg q, aU_ne h4]
theorem hCk_4 {A : Nat → Int32} {n : Nat} (h : n < 24) : hCk A n 4 = Int32.ofNat ((n + 1) % 24) := by
  unfold hCk
  by_cases q : n = 23
  · rw [if_pos q, aU_ne (by omega), aU_at, q]; rfl
  · rw [if_neg q, aU_at, show (n + 1) % 24 = n + 1 by omega]
theorem hF1_k {A : Nat → Int32} {F t k : Nat} {s : Int32} (h : k < 88) (h0 : k ≠ 40 + 4 * F) (h1 : k ≠ 66 + 3 * t) (h2 : k ≠ 14) : hF1 A F t s k = A k := by
  unfold hF1
  rw [aTl_lo h h2, aU_ne h1, aU_ne h0]
theorem hFi_k {Lo : Option (Nat × List gLn4 × zSs)} {nt F n k : Nat} {A : Nat → Int32} (h : k < 88) (h0 : k ≠ 40 + 4 * F) (h2 : k ≠ 14) : ∀ t, (∀ u, u < t → k ≠ 66 + 3 * u) → (hFi Lo nt A F n t).1 k = A k
  | 0, _ => rfl
  | t + 1, hu => by
    have ih := hFi_k (Lo := Lo) (nt := nt) (F := F) (n := n) (A := A) h h0 h2 t (fun u q => hu u (by omega))
    unfold hFi
    by_cases q : (hFi Lo nt A F n t).1 (64 + 3 * t) = Int32.ofNat F ∧ (hFi Lo nt A F n t).1 (66 + 3 * t) = Int32.ofInt 1
    · rw [if_pos q]
      exact (hF1_k h h0 (hu t (by omega)) h2).trans ih
    · rw [if_neg q]
      exact ih
theorem aMi60 {g : Nat} (h : g ≤ 60) : aMi (Int32.ofInt 60) (Int32.ofNat g + Int32.ofInt 1) = Int32.ofNat (min 60 (g + 1)) := by
  unfold aMi
  rw [o32i (by omega)]
  by_cases q : g + 1 < 60
  · rw [if_pos (Int32.lt_iff_toInt_lt.mpr (by rw [o32 (by omega), show (Int32.ofInt 60).toInt = 60 from rfl]; omega)), show min 60 (g + 1) = g + 1 by omega]
  · rw [if_neg (fun w => by rw [Int32.lt_iff_toInt_lt, o32 (by omega), show (Int32.ofInt 60).toInt = 60 from rfl] at w; omega), show min 60 (g + 1) = 60 by omega]
    rfl
section AIK
variable {nf nt n F : Nat} {A B : Nat → Int32} {Lo : Option (Nat × List gLn4 × zSs)} {o : Option Nat}
theorem aI.of (K : aI nf nt A) (hs : ∀ k, (k < 3 ∨ k = 12 ∨ (16 ≤ k ∧ k < 40) ∨ (64 ≤ k ∧ k < 88 ∧ k % 3 = 1)) → B k = A k) (hz : dZ nt B) (h8 : 0 ≤ (B 8).toInt ∧ (B 8).toInt ≤ 9) (h4 : ∃ n, n < 24 ∧ B 4 = Int32.ofNat n) (h14 : ∃ g, g ≤ 60 ∧ B 14 = Int32.ofNat g) : aI nf nt B := by
  obtain ⟨⟨a0, a1, a2, a3, a4⟩, a5, a6, a7, a8, a9, a10, tx, a11, a12⟩ := K
  refine ⟨⟨(hs 0 (by omega)).trans a0, a1, (hs 1 (by omega)).trans a2, a3, hz⟩, fun h hh => ?_, fun t ht => ?_, ?_, h8, h4, h14, tx, a11, (hs 2 (by omega)).trans a12⟩
  · rw [hs (16 + h) (by omega)]; exact a5 h hh
  · rw [hs (64 + 3 * t) (by omega)]; exact a6 t ht
  · rw [hs 12 (by omega)]; exact a7
theorem aI.wm (K : aI nf nt A) : aI nf nt (hWm Lo nt A n o) := K.of (fun k hk => hWm_k (by omega) (by omega)) (fun t h1 h2 => (hWm_k (by omega) (by omega)).trans (K.1.2.2.2.2 t h1 h2)) (by rw [hWm_k (by omega) (by omega)]; exact K.2.2.2.2.1) (by rw [hWm_k (by omega) (by omega)]; exact K.2.2.2.2.2.1) (by rw [hWm_k (by omega) (by omega)]; exact K.2.2.2.2.2.2.1)
theorem aI.cd (K : aI nf nt A) : aI nf nt (hCd A) := K.of (fun k hk => hCd_k (by omega)) (fun t h1 h2 => (hCd_k (by omega)).trans (K.1.2.2.2.2 t h1 h2)) (by rw [hCd_k (by omega)]; exact K.2.2.2.2.1) (by rw [hCd_k (by omega)]; exact K.2.2.2.2.2.1) (by rw [hCd_k (by omega)]; exact K.2.2.2.2.2.2.1)
theorem aMi9 {x : Int32} (h0 : 0 ≤ x.toInt) (h9 : x.toInt ≤ 9) : 0 ≤ (aMi (Int32.ofInt 9) (x + Int32.ofInt 1)).toInt ∧ (aMi (Int32.ofInt 9) (x + Int32.ofInt 1)).toInt ≤ 9 := by
  have e : (x + Int32.ofInt 1).toInt = x.toInt + 1 := zI_add rfl rfl (by omega) (by omega)
  have := aMi_r (x := Int32.ofInt 9) (y := x + Int32.ofInt 1) (by decide) (by omega)
  rw [show (Int32.ofInt 9).toInt = 9 from rfl] at this
  omega
theorem aI.vi (K : aI nf nt A) : aI nf nt (hVi A o) := by
  have h8 := K.2.2.2.2.1
  obtain ⟨g, hg, eg⟩ := K.2.2.2.2.2.2.1
  refine K.of (fun k hk => hVi_k (by omega) (by omega) (by omega) (by omega) (by omega)) (fun t h1 h2 => (hVi_k (by omega) (by omega) (by omega) (by omega) (by omega)).trans (K.1.2.2.2.2 t h1 h2)) ?_ (by rw [hVi_k (by omega) (by omega) (by omega) (by omega) (by omega)]; exact K.2.2.2.2.2.1) ?_
  · cases o with
    | none => show 0 ≤ (aU A 15 _ 8).toInt ∧ (aU A 15 _ 8).toInt ≤ 9; rw [aU_ne (by omega)]; exact h8
    | some F =>
      unfold hVi
      dsimp only
      by_cases q : (hDr (hSd (A 15))).toInt < (A 13).toInt
      · rw [if_pos q, aTl_lo (by omega) (by omega), aU_ne (by omega), aU_at]; exact aMi9 h8.1 h8.2
      · rw [if_neg q, aU_ne (by omega)]; exact h8
  · cases o with
    | none => exact ⟨g, hg, (aU_ne (by omega)).trans eg⟩
    | some F =>
      unfold hVi
      dsimp only
      by_cases q : (hDr (hSd (A 15))).toInt < (A 13).toInt
      · rw [if_pos q, aTl_14, aU_ne (by omega), aU_ne (by omega), aU_ne (by omega), eg, aMi60 hg]
        exact ⟨_, by omega, rfl⟩
      · rw [if_neg q, aU_ne (by omega)]; exact ⟨g, hg, eg⟩
theorem aI.ck (K : aI nf nt A) (hn : n < 24) : aI nf nt (hCk A n) := K.of (fun k hk => hCk_k (by omega) (by omega)) (fun t h1 h2 => (hCk_k (by omega) (by omega)).trans (K.1.2.2.2.2 t h1 h2)) (by rw [hCk_k (by omega) (by omega)]; exact K.2.2.2.2.1) ⟨(n + 1) % 24, Nat.mod_lt _ (by omega), hCk_4 hn⟩ (by rw [hCk_k (by omega) (by omega)]; exact K.2.2.2.2.2.2.1)
theorem hFi_14 {g : Nat} (hg : g ≤ 60) (eg : A 14 = Int32.ofNat g) : ∀ t, ∃ g', g' ≤ 60 ∧ (hFi Lo nt A F n t).1 14 = Int32.ofNat g'
  | 0 => ⟨g, hg, eg⟩
  | t + 1 => by
    obtain ⟨g', hg', eg'⟩ := hFi_14 hg eg t
    unfold hFi
    by_cases q : (hFi Lo nt A F n t).1 (64 + 3 * t) = Int32.ofNat F ∧ (hFi Lo nt A F n t).1 (66 + 3 * t) = Int32.ofInt 1
    · rw [if_pos q]
      show ∃ g', g' ≤ 60 ∧ hF1 _ F t _ 14 = Int32.ofNat g'
      unfold hF1
      rw [aTl_14, aU_ne (by omega), aU_ne (by omega), eg', aMi60 hg']
      exact ⟨_, by omega, rfl⟩
    · rw [if_neg q]
      exact ⟨g', hg', eg'⟩
theorem hFi_z {t0 : Nat} (h8 : t0 < 8) (h : A (66 + 3 * t0) = Int32.ofInt 0) (hF : F < 6) : ∀ t, (hFi Lo nt A F n t).1 (66 + 3 * t0) = Int32.ofInt 0
  | 0 => h
  | t + 1 => by
    have ih := hFi_z h8 h hF t
    unfold hFi
    by_cases q : (hFi Lo nt A F n t).1 (64 + 3 * t) = Int32.ofNat F ∧ (hFi Lo nt A F n t).1 (66 + 3 * t) = Int32.ofInt 1
    · rw [if_pos q]
      show hF1 _ F t _ (66 + 3 * t0) = _
      by_cases e : t0 = t
      · subst e
        unfold hF1
        rw [aTl_lo (by omega) (by omega), aU_at]
      · rw [hF1_k (by omega) (by omega) (by omega) (by omega)]; exact ih
    · rw [if_neg q]; exact ih
theorem aI.fi (K : aI nf nt A) (hF : F < 6) (t : Nat) (ht : t ≤ nt) : aI nf nt (hFi Lo nt A F n t).1 := by
  obtain ⟨g, hg, eg⟩ := K.2.2.2.2.2.2.1
  have k3 := K.1.2.2.2.1
  have hk : ∀ k, k < 88 → k ≠ 40 + 4 * F → k ≠ 14 → (∀ u, u < t → k ≠ 66 + 3 * u) → (hFi Lo nt A F n t).1 k = A k := fun k h h0 h2 hu => hFi_k h h0 h2 t hu
  refine K.of (fun k h => hk k (by omega) (by omega) (by omega) (fun u hu => by omega)) (fun u h1 h2 => hFi_z h2 (K.1.2.2.2.2 u h1 h2) hF t) ?_ ?_ (hFi_14 hg eg t)
  · rw [hk 8 (by omega) (by omega) (by omega) (fun u hu => by omega)]; exact K.2.2.2.2.1
  · rw [hk 4 (by omega) (by omega) (by omega) (fun u hu => by omega)]; exact K.2.2.2.2.2.1
/-- who is in: nobody, or a family that there is -/
theorem aI.in (K : aI nf nt A) : hN A < 24 ∧ A 4 = Int32.ofNat (hN A) ∧ ((A (16 + hN A) = Int32.ofInt (-1) ∧ hO (A (16 + hN A)) = none) ∨ ∃ F, F < nf ∧ A (16 + hN A) = Int32.ofNat F ∧ hO (A (16 + hN A)) = some F) := by
  obtain ⟨n, hn, en⟩ := K.2.2.2.2.2.1
  have e := hN_n en (by omega)
  have k1 := K.1.2.1
  rw [e]
  refine ⟨hn, en, ?_⟩
  rcases K.2.1 n hn with h | ⟨F, hF, h⟩
  · exact Or.inl ⟨h, by rw [h]; exact hO_0⟩
  · exact Or.inr ⟨F, hF, h, by rw [h]; exact hO_n (by omega)⟩
theorem hMd_4 (K : aI nf nt A) {calm : Bool} {k : Nat} (hk : k < 5 ∨ (10 ≤ k ∧ k ≤ 13) ∨ (16 ≤ k ∧ k < 88)) : hMd Lo nt calm A k = A k := by
  unfold hMd
  cases calm
  · show hVi _ _ k = _
    rw [hVi_k (by omega) (by omega) (by omega) (by omega) (by omega), hCd_k (by omega), hWm_k (by omega) (by omega)]
  · show hCd _ k = _
    rw [hCd_k (by omega), hWm_k (by omega) (by omega)]
theorem aI.md (K : aI nf nt A) {calm : Bool} : aI nf nt (hMd Lo nt calm A) := by
  unfold hMd
  cases calm
  · exact K.wm.cd.vi
  · exact K.wm.cd
theorem aI.ed (K : aI nf nt A) {x : Int32} (hx : x = Int32.ofInt (-1) ∨ ∃ F, F < nf ∧ x = Int32.ofNat F) : aI nf nt (hEd Lo nt A x).1 := by
  unfold hEd
  have k1 := K.1.2.1
  by_cases q : x = Int32.ofInt (-1) ∨ A (16 + hN A) = x
  · rw [if_pos q]; exact K
  · rw [if_neg q]
    rcases hx with hx | ⟨F, hF, hx⟩
    · exact absurd (Or.inl hx) q
    · rw [hx, o32n (by omega)]
      exact K.fi (by omega) nt (Nat.le_refl _)
theorem aI.hr (K : aI nf nt A) {calm : Bool} : aI nf nt (hHr Lo nt calm A).1 := by
  obtain ⟨h1, h2, h3⟩ := K.in
  refine (K.md.ck h1).ed ?_
  rcases h3 with h | ⟨F, hF, h, -⟩
  · exact Or.inl h.1
  · exact Or.inr ⟨F, hF, h⟩
theorem aI.hs (K : aI nf nt A) {calm : Bool} : ∀ i, aI nf nt (hHs Lo nt calm A i).1
  | 0 => K
  | i + 1 => (K.hs i).hr
/-- an hour leaves the law, the texts and counts as they were -/
theorem hHr_k (K : aI nf nt A) {calm : Bool} {k : Nat} (hk : k < 4) : (hHr Lo nt calm A).1 k = A k := by
  obtain ⟨h1, h2, h3⟩ := K.in
  have k1 := K.1.2.1
  unfold hHr hEd
  have e : hCk (hMd Lo nt calm A) (hN A) k = A k := (hCk_k (by omega) (by omega)).trans (hMd_4 K (by omega))
  by_cases q : A (16 + hN A) = Int32.ofInt (-1) ∨ hCk (hMd Lo nt calm A) (hN A) (16 + hN (hCk (hMd Lo nt calm A) (hN A))) = A (16 + hN A)
  · rw [if_pos q]; exact e
  · rw [if_neg q]
    exact (hFi_k (by omega) (by omega) (by omega) nt (fun u hu => by omega)).trans e
theorem hHs_k (K : aI nf nt A) {calm : Bool} {k : Nat} (hk : k < 4) : ∀ i, (hHs Lo nt calm A i).1 k = A k
  | 0 => rfl
  | i + 1 => (hHr_k (K.hs i) hk).trans (hHs_k K hk i)
end AIK
/-! a row more in the class's ring -/
noncomputable def cTl (σ : zSg) (b nx : Nat) (d h f w v z : Int32) : zSg := q_w (q_w (q_w (q_w (q_w (q_w (q_w σ (b + 11) (5 * nx) (.int d)) (b + 11) (5 * nx + 1) (.int h)) (b + 11) (5 * nx + 2) (.int f)) (b + 11) (5 * nx + 3) (.int w)) (b + 11) (5 * nx + 4) (.int v)) (b + 10) 1 (.int (Int32.ofNat ((nx + 1) % 60)))) (b + 10) 2 (.int z)
theorem cTl_ne {σ : zSg} {b nx c k : Nat} {d h f w v z : Int32} (q : ¬ (c = b + 11 ∧ 5 * nx ≤ k ∧ k < 5 * nx + 5)) (q2 : ¬ (c = b + 10 ∧ (k = 1 ∨ k = 2))) : (cTl σ b nx d h f w v z).1 c k = σ.1 c k := by
  unfold cTl
  rw [q_w_ne (fun e1 e2 => by omega), q_w_ne (fun e1 e2 => by omega), q_w_ne (fun e1 e2 => by omega), q_w_ne (fun e1 e2 => by omega), q_w_ne (fun e1 e2 => by omega), q_w_ne (fun e1 e2 => by omega), q_w_ne (fun e1 e2 => by omega)]
noncomputable def tl5 (d h f w v : Int32) (j : Nat) : Int32 := match j with
  | 0 => d
  | 1 => h
  | 2 => f
  | 3 => w
  | _ => v
theorem cTl_at {σ : zSg} {b nx j : Nat} {d h f w v z : Int32} (hj : j < 5) : (cTl σ b nx d h f w v z).1 (b + 11) (5 * nx + j) = .int (tl5 d h f w v j) := by
  unfold cTl
  rw [q_w_ne (fun e1 e2 => by omega), q_w_ne (fun e1 e2 => by omega)]
  have : j = 0 ∨ j = 1 ∨ j = 2 ∨ j = 3 ∨ j = 4 := by omega
  rcases this with rfl | rfl | rfl | rfl | rfl
  · rw [q_w_ne (fun e1 e2 => by omega), q_w_ne (fun e1 e2 => by omega), q_w_ne (fun e1 e2 => by omega), q_w_ne (fun e1 e2 => by omega)]; exact q_w_at _ _ _ _
  · rw [q_w_ne (fun e1 e2 => by omega), q_w_ne (fun e1 e2 => by omega), q_w_ne (fun e1 e2 => by omega)]; exact q_w_at _ _ _ _
  · rw [q_w_ne (fun e1 e2 => by omega), q_w_ne (fun e1 e2 => by omega)]; exact q_w_at _ _ _ _
  · rw [q_w_ne (fun e1 e2 => by omega)]; exact q_w_at _ _ _ _
  · exact q_w_at _ _ _ _
theorem aTl_row {A : Nat → Int32} {d h f w v : Int32} {i j : Nat} (hi : i < 60) (hj : j < 5) : aTl A d h f w v (88 + 5 * i + j) = if i = 0 then tl5 d h f w v j else A (88 + 5 * (i - 1) + j) := by
  unfold aTl
  by_cases h0 : i = 0
  · subst h0
    rw [if_pos rfl, if_neg (by omega)]
    have : j = 0 ∨ j = 1 ∨ j = 2 ∨ j = 3 ∨ j = 4 := by omega
    rcases this with rfl | rfl | rfl | rfl | rfl <;> rfl
  · rw [if_neg h0, if_pos (by omega), show 88 + 5 * i + j - 5 = 88 + 5 * (i - 1) + j by omega]
theorem hH.tl {σ : zSg} {b nx : Nat} {A : Nat → Int32} {d h f w v : Int32} (K : hH σ b A) (hx : nx < 60) (ex : σ.1 (b + 10) 1 = .int (Int32.ofNat nx)) : hH (cTl σ b nx d h f w v (aMi (Int32.ofInt 60) (A 14 + Int32.ofInt 1))) b (aTl A d h f w v) := by
  obtain ⟨h1, h2, ⟨l, h3, h3'⟩, ⟨ny, h4, h4', h4''⟩, h5, h6, h7⟩ := K
  have en : ny = nx := by
    rw [h4'] at ex
    have := congrArg (fun x => (q_i x).toInt) ex
    have this : (Int32.ofNat ny).toInt = (Int32.ofNat nx).toInt := this
    rw [o32 (by omega), o32 (by omega)] at this
    omega
  subst en
  refine ⟨fun c j d hk => ?_, fun k c j hp => ?_, ⟨l, ?_, fun t ht => ?_⟩, ⟨(ny + 1) % 60, Nat.mod_lt _ (by omega), ?_, fun i j hi hj => ?_⟩, ?_, h6, h7⟩
  · rw [cTl_ne (by unfold hKr at hk; omega) (by unfold hKr at hk; omega)]; exact h1 c j d hk
  · have hn := hp.no
    by_cases e14 : k = 14
    · subst e14
      obtain ⟨rfl, rfl⟩ := hp.fn hp_14
      rw [aTl_14]
      exact q_w_at _ _ _ _
    · rw [aTl_lo (by omega) e14, cTl_ne (fun q => hn.2.2.2.2.2.1 q.1) (fun q => by
        have : j = 2 := by
          rcases q.2 with r | r
          · exact absurd ⟨q.1, r⟩ hn.2.2.2.2.1
          · exact r
        subst this
        obtain ⟨rfl, -⟩ := q
        exact e14 (hp.inj hp_14))]
      exact h2 k c j hp
  · rw [cTl_ne (by omega) (by omega)]; exact h3
  · rw [aTl_lo (by omega) (by omega)]; exact h3' t ht
  · unfold cTl
    rw [q_w_ne (fun _ q => by omega)]; exact q_w_at _ _ _ _
  · rw [aTl_row hi hj]
    by_cases h0 : i = 0
    · subst h0
      rw [if_pos rfl, show ((ny + 1) % 60 + 59 - 0) % 60 = ny by omega]
      exact cTl_at hj
    · rw [if_neg h0, cTl_ne (by omega) (by omega), show ((ny + 1) % 60 + 59 - i) % 60 = (ny + 59 - (i - 1)) % 60 by omega]
      exact h4'' (i - 1) j (by omega) hj
  · unfold hWe
    rw [cTl_ne (by omega) (by omega), aTl_lo (by omega) (by omega)]
    exact h5
theorem n60_all : (List.range 60).all (fun n => decide (Int32.ofNat n + Int32.ofInt 1 - (Int32.ofNat n + Int32.ofInt 1) / Int32.ofInt 60 * Int32.ofInt 60 = Int32.ofNat ((n + 1) % 60))) = true := by decide +kernel
theorem n60 {n : Nat} (h : n < 60) : Int32.ofNat n + Int32.ofInt 1 - (Int32.ofNat n + Int32.ofInt 1) / Int32.ofInt 60 * Int32.ofInt 60 = Int32.ofNat ((n + 1) % 60) := of_decide_eq_true (List.all_eq_true.mp n60_all n (List.mem_range.mpr h))
theorem aMi_sw (x y : Int32) : aMi x y = aMi y x := by
  unfold aMi
  by_cases h1 : y < x
  · by_cases h2 : x < y
    · rw [Int32.lt_iff_toInt_lt] at h1 h2; omega
    · rw [if_pos h1, if_neg h2]
  · by_cases h2 : x < y
    · rw [if_neg h1, if_pos h2]
    · rw [if_neg h1, if_neg h2]
      rw [Int32.lt_iff_toInt_lt] at h1 h2
      exact Int32.toInt_inj.mp (by omega)
/-- unsigned or signed: the bits 16 to 30 -/
theorem hDr_u (x : Int32) : ((x.toUInt32 >>> ((Int32.ofInt 16).toUInt32 &&& Int32.toUInt32 31)).toInt32) &&& Int32.ofInt 32767 = (x >>> (Int32.ofInt 16 &&& 31)) &&& Int32.ofInt 32767 := by
  refine Int32.toBitVec_inj.1 ?_
  rw [Int32.toBitVec_and, Int32.toBitVec_and]
  refine BitVec.eq_of_getLsbD_eq (fun i hi => ?_)
  rw [BitVec.getLsbD_and, BitVec.getLsbD_and]
  by_cases h : i < 15
  · have e : ∀ b c : Bool, b = c → (b && (Int32.ofInt 32767).toBitVec.getLsbD i) = (c && (Int32.ofInt 32767).toBitVec.getLsbD i) := fun b c q => by rw [q]
    refine e _ _ ?_
    have h1 : (x >>> (Int32.ofInt 16 &&& 31)).toBitVec = x.toBitVec.sshiftRight 16 := by
      show (x >>> (Int32.ofInt 16)).toBitVec = _
      rw [Int32.toBitVec_shiftRight]
      rfl
    have h2 : ((x.toUInt32 >>> ((Int32.ofInt 16).toUInt32 &&& Int32.toUInt32 31)).toInt32).toBitVec = x.toBitVec >>> 16 := by
      show (x.toUInt32 >>> (16 : UInt32)).toBitVec = _
      rw [UInt32.toBitVec_shiftRight]
      rfl
    rw [h1, h2, BitVec.getLsbD_ushiftRight, BitVec.getLsbD_sshiftRight]
    rw [if_pos (by omega)]
    simp only [show ¬ (32 ≤ i) by omega, decide_false, Bool.not_false, Bool.true_and]
  · have : (Int32.ofInt 32767).toBitVec.getLsbD i = false := by
      have h3 : (List.range 32).all (fun j => decide (j < 15) || !(Int32.ofInt 32767).toBitVec.getLsbD j) = true := by decide
      have h4 := List.all_eq_true.mp h3 i (List.mem_range.mpr hi)
      rw [decide_eq_false h, Bool.false_or, Bool.not_eq_true'] at h4
      exact h4
    rw [this, Bool.and_false, Bool.and_false]
end
