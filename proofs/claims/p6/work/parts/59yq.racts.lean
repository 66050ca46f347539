/-! the reference's acts, exact; printed with wip/gen/gen_de.py -/
/-- nothing thrown yet; behind an act was remembered -/
def r0 (σ : zSg) : zSg := q_w σ 205 0 (.int (Int32.ofInt 0))
def rT (σ : zSg) (c : Int) : zSg := q_w σ 205 0 (.int (Int32.ofInt c))
def rY (σ : zSg) (N : Nat) : zSg := rCy (rRm (r0 σ) N) 206 210 0 (388 * rRn N) 388
def rJ (σ : zSg) (A : Nat → Int32) (N : Nat) : Prop := rSk σ ∧ rW σ A ∧ σ.1 205 7 = .int (Int32.ofNat N) ∧ N ≤ 12
def rAc (σ σ' : zSg) (B : Nat → Int32) (N : Nat) : Prop := σ'.2 = σ.2 ∧ (∀ c k, ¬ (c = 206 ∧ k < 388) → σ'.1 c k = (rY σ N).1 c k) ∧ rW σ' B
section RAC
variable {σ τ : zSg} {A B : Nat → Int32} {N : Nat}
theorem r0_T {c : Int} : q_w (r0 σ) 205 0 (.int (Int32.ofInt c)) = rT σ c := q_w_w
theorem rJ.w (K : rJ σ A N) : rW (r0 σ) A := K.2.1.el (by omega)
theorem rJ.k (K : rJ σ A N) : rSk (r0 σ) := K.1.w (Or.inl rfl)
theorem rRm_2 {τ : zSg} : (rRm τ N).2 = τ.2 := by
  unfold rRm
  split <;> rfl
theorem rRm_W {τ : zSg} (K : rW τ A) : rW (rRm τ N) A := by
  unfold rRm
  split
  · exact ⟨by rw [rCy_ne (fun q => by omega)]; exact K.1, fun k hk => by rw [rCy_ne (fun q => by omega)]; exact K.2 k hk⟩
  · exact K.el (by omega)
theorem rJ.rm (K : rJ σ A N) (G : p_182 205 (r0 σ) τ) : rAc σ τ A N ∧ rSk τ := by
  have h7 : (r0 σ).1 205 7 = .int (Int32.ofNat N) := by
    show (q_w σ 205 0 _).1 205 7 = _
    rw [q_w_ne (fun _ q => by omega)]
    exact K.2.2.1
  have e := G rfl K.k N h7 K.2.2.2
  subst e
  have w := rRm_W (N := N) K.w
  exact ⟨⟨rRm_2, fun c k _ => rfl, ⟨by rw [rCy_ne (fun q => by omega)]; exact w.1, fun k hk => by rw [rCy_ne (fun q => by omega)]; exact w.2 k hk⟩⟩, (rRm_k K.k).cy (by decide)⟩
theorem rAc.w {k : Nat} {v : Int32} (R : rAc σ τ B N) (hk : k < 388) : rAc σ (q_w τ 206 k (.int v)) (aU B k v) N := ⟨R.1, fun c i q => by rw [q_w_ne (fun e1 e2 => q ⟨e1, by omega⟩)]; exact R.2.1 c i q, R.2.2.ww⟩
end RAC
theorem zJ_261 : zJ3 261 z_m261 z_c261 z_h261 := ⟨rfl, rfl, rfl⟩
def p_261 (a : Nat) (σ : zSg) (r : Int32) (σ' : zSg) : Prop := a = 205 → ∀ A N, rJ σ A N → r = A 7 ∧ rAc σ σ' (aU A 7 (Int32.ofInt 0)) N
theorem sp_261_e (a0 : Nat) (σ : zSg) (τ1 : zSg) (g1 : p_182 a0 (q_w σ a0 0 (.int (Int32.ofInt (0)))) τ1) (h2 : 0 ≤ (Int32.ofInt (7)).toInt ∧ (Int32.ofInt (7)).toInt < (τ1.2.1 (q_r (τ1.1 a0 1)) : Int)) (h3 : 0 ≤ (Int32.ofInt (7)).toInt ∧ (Int32.ofInt (7)).toInt < (τ1.2.1 (q_r (τ1.1 a0 1)) : Int)) :
    p_261 (a0) σ (q_i (τ1.1 (q_r (τ1.1 a0 1)) (Int32.ofInt (7)).toNatClampNeg)) (q_w τ1 (q_r (τ1.1 a0 1)) (Int32.ofInt (7)).toNatClampNeg (.int (Int32.ofInt (0)))) := by
  rintro rfl A N K
  have w0 := K.w
  obtain ⟨R, ks⟩ := K.rm g1
  have z7 : (Int32.ofInt 7).toNatClampNeg = 7 := rfl
  have q1 := R.2.2.q
  have i7 := R.2.2.i (k := 7) (by omega)
  simp only [q1, z7, i7]
  exact ⟨trivial, R.w (by omega)⟩
def qP_261 : zPp := fun as σ o σ' => match as with
  | [a0] => ∃ r, o = .inl (some (.int r)) ∧ p_261 (q_r a0) σ r σ'
  | _ => True
set_option maxRecDepth 100000 in
theorem sp_261 {sx : zX} (S182 : zEe sx 182 1 qP_182) : zEe sx 261 1 qP_261 := by
  refine zfle zJ_261 (sps := [(182, 1, qP_182)]) (fun q hq => by
    simp only [List.mem_cons, List.not_mem_nil, or_false] at hq
    rcases hq with rfl
    · exact S182) (fun as σ hl => ?_)
  match as, hl with
  | [a0], _ =>
  refine ⟨[], 400, ?_, ?_⟩
  · exact fun q hq => absurd hq List.not_mem_nil
  · refine fun o1 τ1 g1 => ?_
    obtain ⟨rfl, g1⟩ := g1
    refine fun h2 => ?_
    refine fun h3 => ?_
    exact ⟨_, rfl, sp_261_e (q_r a0) σ τ1 g1 (q_inp h2) (q_inp h3)⟩
