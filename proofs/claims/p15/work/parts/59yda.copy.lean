/-! the class's copies of houses, exact; printed with wip/gen/gen_d7.py -/
noncomputable def hKs (σ : zSg) (b : Nat) : Prop := ∀ c j d, hKr b c j d → σ.1 c j = .ref d
noncomputable def hIr (o c j : Nat) : Prop := (∃ k, hPr o k c j) ∨ (c = o + 7 ∧ j = 2) ∨ (c = o + 10 ∧ j = 1)
noncomputable def hIi (σ : zSg) (o : Nat) : Prop := ∀ c j, hIr o c j → ∃ x, σ.1 c j = .int x
/-- places of a house are copied, and nothing else is changed -/
noncomputable def cpI (σ τ : zSg) (b o : Nat) (D : Nat → Nat → Prop) : Prop := τ.2 = σ.2 ∧ (∀ c j, (∀ d, c = b + d → d ≤ 12 → ¬ D d j) → τ.1 c j = σ.1 c j) ∧ (∀ d j, D d j → d ≤ 12 ∧ (∀ r, ¬ hKr b (b + d) j r) ∧ τ.1 (b + d) j = σ.1 (o + d) j)
theorem nKa {b d j r : Nat} (h : d = 1 ∨ (3 ≤ d ∧ d ≠ 7 ∧ d ≠ 10)) : ¬ hKr b (b + d) j r := fun h' => by unfold hKr at h'; omega
theorem nKw {b d j r : Nat} (h : (d = 0 ∧ 5 ≤ j) ∨ (d = 2 ∧ 4 ≤ j) ∨ (d = 7 ∧ 2 ≤ j) ∨ (d = 10 ∧ 1 ≤ j)) : ¬ hKr b (b + d) j r := fun h' => by unfold hKr at h'; omega
noncomputable def dsj (b o : Nat) : Prop := b + 13 ≤ o ∨ o + 13 ≤ b
section CPI
variable {σ τ υ : zSg} {b o : Nat} {D D' : Nat → Nat → Prop}
theorem cpI.rf : cpI σ σ b o (fun _ _ => False) := ⟨rfl, fun _ _ _ => rfl, fun _ _ h => h.elim⟩
theorem cpI.cg (I : cpI σ τ b o D) (h : ∀ d j, D d j ↔ D' d j) : cpI σ τ b o D' := ⟨I.1, fun c j q => I.2.1 c j (fun d h1 h2 h3 => q d h1 h2 ((h d j).mp h3)), fun d j q => I.2.2 d j ((h d j).mpr q)⟩
theorem cpI.eo (I : cpI σ τ b o D) (hd : dsj b o) {c j : Nat} (h1 : o ≤ c) (h2 : c ≤ o + 12) : τ.1 c j = σ.1 c j := I.2.1 c j (fun d e1 e2 _ => by unfold dsj at hd; omega)
theorem cpI.ko (I : cpI σ τ b o D) (hd : dsj b o) (K : hKs σ o) : hKs τ o := fun c j d h => by rw [I.eo hd (by unfold hKr at h; omega) (by unfold hKr at h; omega)]; exact K c j d h
theorem cpI.kb (I : cpI σ τ b o D) (K : hKs σ b) : hKs τ b := fun c j d h => by
  rw [I.2.1 c j (fun d' e1 e2 e3 => by subst e1; exact (I.2.2 d' j e3).2.1 d h)]
  exact K c j d h
theorem hIr.rg {o c j : Nat} (h : hIr o c j) : o ≤ c ∧ c ≤ o + 12 := by
  rcases h with ⟨k, h⟩ | h | h
  · exact ⟨h.no.2.2.2.2.2.2.2.1, h.no.2.2.2.2.2.2.2.2⟩
  · omega
  · omega
theorem cpI.io (I : cpI σ τ b o D) (hd : dsj b o) (K : hIi σ o) : hIi τ o := fun c j h => by
  rw [I.eo hd h.rg.1 h.rg.2]
  exact K c j h
theorem cpI.tr (hd : dsj b o) (I : cpI σ τ b o D) (I' : cpI τ υ b o D') : cpI σ υ b o (fun d j => D d j ∨ D' d j) := by
  refine ⟨I'.1.trans I.1, fun c j q => ?_, fun d j q => ?_⟩
  · rw [I'.2.1 c j (fun d e1 e2 e3 => q d e1 e2 (Or.inr e3)), I.2.1 c j (fun d e1 e2 e3 => q d e1 e2 (Or.inl e3))]
  · by_cases h' : D' d j
    · obtain ⟨g1, g2, g3⟩ := I'.2.2 d j h'
      refine ⟨g1, g2, ?_⟩
      rw [g3]
      exact I.eo hd (by omega) (by omega)
    · rcases q with q | q
      · obtain ⟨g1, g2, g3⟩ := I.2.2 d j q
        refine ⟨g1, g2, ?_⟩
        rw [← g3]
        exact I'.2.1 _ _ (fun d9 e1 _ e3 => by
          have : d9 = d := by omega
          subst this
          exact h' e3)
      · exact absurd q h'
theorem cpI.cp1 {d n c c' : Nat} (hd : dsj b o) (hc : c = b + d) (hc' : c' = o + d) (h12 : d ≤ 12) (hk : ∀ j r, ¬ hKr b (b + d) j r) : cpI σ (q_cp σ c' c 0 0 n) b o (fun d' j => d' = d ∧ j < n) := by
  subst hc
  subst hc'
  refine ⟨rfl, fun c j q => ?_, fun d' j q => ?_⟩
  · show (if c = b + d ∧ 0 ≤ j ∧ j < 0 + n then σ.1 (o + d) (0 + (j - 0)) else σ.1 c j) = _
    rw [if_neg (fun e => q d e.1 h12 ⟨rfl, by omega⟩)]
  · obtain ⟨rfl, h2⟩ := q
    refine ⟨h12, hk j, ?_⟩
    show (if b + d' = b + d' ∧ 0 ≤ j ∧ j < 0 + n then σ.1 (o + d') (0 + (j - 0)) else σ.1 (b + d') j) = _
    rw [if_pos ⟨rfl, by omega, by omega⟩, Nat.zero_add, Nat.sub_zero]
theorem cpI.w1 {d j c c' : Nat} {v : Value} (hc : c = b + d) (h12 : d ≤ 12) (hk : ∀ r, ¬ hKr b (b + d) j r) (hv : v = σ.1 (o + d) j) : cpI σ (q_w σ c j v) b o (fun d' j' => d' = d ∧ j' = j) := by
  subst hc
  refine ⟨rfl, fun c j' q => ?_, fun d' j' q => ?_⟩
  · exact q_w_ne (fun e1 e2 => q d e1 h12 ⟨rfl, e2⟩)
  · obtain ⟨rfl, rfl⟩ := q
    exact ⟨h12, hk, by rw [q_w_at]; exact hv⟩
theorem cpI.wi {d j c c' : Nat} (hc : c = b + d) (hc' : c' = o + d) (h12 : d ≤ 12) (hk : ∀ r, ¬ hKr b (b + d) j r) (K : hIi σ o) (hi : hIr o (o + d) j) : cpI σ (q_w σ c j (.int (q_i (σ.1 c' j)))) b o (fun d' j' => d' = d ∧ j' = j) := by
  subst hc'
  refine cpI.w1 (c' := 0) hc h12 hk ?_
  obtain ⟨x, hx⟩ := K _ _ hi
  rw [hx]
  rfl
theorem cpI.nx {n : Nat} (I : cpI σ τ b o (fun d j => D d j ∨ (d = 0 ∧ 5 ≤ j ∧ j < n))) (hd : dsj b o) (hn : 5 ≤ n) (I' : cpI τ υ b o (fun d j => d = 0 ∧ j = n)) : cpI σ υ b o (fun d j => D d j ∨ (d = 0 ∧ 5 ≤ j ∧ j < n + 1)) := (I.tr hd I').cg (fun d j => by
  constructor
  · rintro ((h | h) | h)
    · exact Or.inl h
    · exact Or.inr (by omega)
    · exact Or.inr (by omega)
  · rintro (h | h)
    · exact Or.inl (Or.inl h)
    · by_cases h9 : j = n
      · exact Or.inr ⟨h.1, h9⟩
      · exact Or.inl (Or.inr (by omega)))
theorem hKs.q (K : hKs σ b) {c j d : Nat} (h : hKr b c j d) : q_r (σ.1 c j) = d := by rw [K c j d h]; rfl
end CPI
theorem z0 : (Int32.ofInt 0).toNatClampNeg = 0 := rfl
theorem z6 : (Int32.ofInt 6).toNatClampNeg = 6 := rfl
theorem z8 : (Int32.ofInt 8).toNatClampNeg = 8 := rfl
theorem z24 : (Int32.ofInt 24).toNatClampNeg = 24 := rfl
theorem z300 : (Int32.ofInt 300).toNatClampNeg = 300 := rfl
theorem zJ_8 : zJ3 8 z_m8 z_c8 z_h8 := ⟨rfl, rfl, rfl⟩
noncomputable def D8 (d j : Nat) : Prop := ((((False ∨ (d = 3 ∧ j < 6)) ∨ (d = 4 ∧ j < 6)) ∨ (d = 5 ∧ j < 6)) ∨ (d = 6 ∧ j < 6)) ∨ (d = 2 ∧ j = 4)
noncomputable def p_8 (a h : Nat) (σ σ' : zSg) : Prop := ∀ b o, a = b + 2 → h = o + 2 → dsj b o → hKs σ b → hKs σ o → hIi σ o → cpI σ σ' b o D8
theorem sp_8_e (a0 : Nat) (a1 : Nat) (σ : zSg)  :
    p_8 (a0) (a1) σ (q_w (q_cp (q_cp (q_cp (q_cp σ (q_r (σ.1 a1 0)) (q_r (σ.1 a0 0)) (Int32.ofInt (0)).toNatClampNeg (Int32.ofInt (0)).toNatClampNeg (Int32.ofInt (6)).toNatClampNeg) (q_r ((q_cp σ (q_r (σ.1 a1 0)) (q_r (σ.1 a0 0)) (Int32.ofInt (0)).toNatClampNeg (Int32.ofInt (0)).toNatClampNeg (Int32.ofInt (6)).toNatClampNeg).1 a1 1)) (q_r ((q_cp σ (q_r (σ.1 a1 0)) (q_r (σ.1 a0 0)) (Int32.ofInt (0)).toNatClampNeg (Int32.ofInt (0)).toNatClampNeg (Int32.ofInt (6)).toNatClampNeg).1 a0 1)) (Int32.ofInt (0)).toNatClampNeg (Int32.ofInt (0)).toNatClampNeg (Int32.ofInt (6)).toNatClampNeg) (q_r ((q_cp (q_cp σ (q_r (σ.1 a1 0)) (q_r (σ.1 a0 0)) (Int32.ofInt (0)).toNatClampNeg (Int32.ofInt (0)).toNatClampNeg (Int32.ofInt (6)).toNatClampNeg) (q_r ((q_cp σ (q_r (σ.1 a1 0)) (q_r (σ.1 a0 0)) (Int32.ofInt (0)).toNatClampNeg (Int32.ofInt (0)).toNatClampNeg (Int32.ofInt (6)).toNatClampNeg).1 a1 1)) (q_r ((q_cp σ (q_r (σ.1 a1 0)) (q_r (σ.1 a0 0)) (Int32.ofInt (0)).toNatClampNeg (Int32.ofInt (0)).toNatClampNeg (Int32.ofInt (6)).toNatClampNeg).1 a0 1)) (Int32.ofInt (0)).toNatClampNeg (Int32.ofInt (0)).toNatClampNeg (Int32.ofInt (6)).toNatClampNeg).1 a1 2)) (q_r ((q_cp (q_cp σ (q_r (σ.1 a1 0)) (q_r (σ.1 a0 0)) (Int32.ofInt (0)).toNatClampNeg (Int32.ofInt (0)).toNatClampNeg (Int32.ofInt (6)).toNatClampNeg) (q_r ((q_cp σ (q_r (σ.1 a1 0)) (q_r (σ.1 a0 0)) (Int32.ofInt (0)).toNatClampNeg (Int32.ofInt (0)).toNatClampNeg (Int32.ofInt (6)).toNatClampNeg).1 a1 1)) (q_r ((q_cp σ (q_r (σ.1 a1 0)) (q_r (σ.1 a0 0)) (Int32.ofInt (0)).toNatClampNeg (Int32.ofInt (0)).toNatClampNeg (Int32.ofInt (6)).toNatClampNeg).1 a0 1)) (Int32.ofInt (0)).toNatClampNeg (Int32.ofInt (0)).toNatClampNeg (Int32.ofInt (6)).toNatClampNeg).1 a0 2)) (Int32.ofInt (0)).toNatClampNeg (Int32.ofInt (0)).toNatClampNeg (Int32.ofInt (6)).toNatClampNeg) (q_r ((q_cp (q_cp (q_cp σ (q_r (σ.1 a1 0)) (q_r (σ.1 a0 0)) (Int32.ofInt (0)).toNatClampNeg (Int32.ofInt (0)).toNatClampNeg (Int32.ofInt (6)).toNatClampNeg) (q_r ((q_cp σ (q_r (σ.1 a1 0)) (q_r (σ.1 a0 0)) (Int32.ofInt (0)).toNatClampNeg (Int32.ofInt (0)).toNatClampNeg (Int32.ofInt (6)).toNatClampNeg).1 a1 1)) (q_r ((q_cp σ (q_r (σ.1 a1 0)) (q_r (σ.1 a0 0)) (Int32.ofInt (0)).toNatClampNeg (Int32.ofInt (0)).toNatClampNeg (Int32.ofInt (6)).toNatClampNeg).1 a0 1)) (Int32.ofInt (0)).toNatClampNeg (Int32.ofInt (0)).toNatClampNeg (Int32.ofInt (6)).toNatClampNeg) (q_r ((q_cp (q_cp σ (q_r (σ.1 a1 0)) (q_r (σ.1 a0 0)) (Int32.ofInt (0)).toNatClampNeg (Int32.ofInt (0)).toNatClampNeg (Int32.ofInt (6)).toNatClampNeg) (q_r ((q_cp σ (q_r (σ.1 a1 0)) (q_r (σ.1 a0 0)) (Int32.ofInt (0)).toNatClampNeg (Int32.ofInt (0)).toNatClampNeg (Int32.ofInt (6)).toNatClampNeg).1 a1 1)) (q_r ((q_cp σ (q_r (σ.1 a1 0)) (q_r (σ.1 a0 0)) (Int32.ofInt (0)).toNatClampNeg (Int32.ofInt (0)).toNatClampNeg (Int32.ofInt (6)).toNatClampNeg).1 a0 1)) (Int32.ofInt (0)).toNatClampNeg (Int32.ofInt (0)).toNatClampNeg (Int32.ofInt (6)).toNatClampNeg).1 a1 2)) (q_r ((q_cp (q_cp σ (q_r (σ.1 a1 0)) (q_r (σ.1 a0 0)) (Int32.ofInt (0)).toNatClampNeg (Int32.ofInt (0)).toNatClampNeg (Int32.ofInt (6)).toNatClampNeg) (q_r ((q_cp σ (q_r (σ.1 a1 0)) (q_r (σ.1 a0 0)) (Int32.ofInt (0)).toNatClampNeg (Int32.ofInt (0)).toNatClampNeg (Int32.ofInt (6)).toNatClampNeg).1 a1 1)) (q_r ((q_cp σ (q_r (σ.1 a1 0)) (q_r (σ.1 a0 0)) (Int32.ofInt (0)).toNatClampNeg (Int32.ofInt (0)).toNatClampNeg (Int32.ofInt (6)).toNatClampNeg).1 a0 1)) (Int32.ofInt (0)).toNatClampNeg (Int32.ofInt (0)).toNatClampNeg (Int32.ofInt (6)).toNatClampNeg).1 a0 2)) (Int32.ofInt (0)).toNatClampNeg (Int32.ofInt (0)).toNatClampNeg (Int32.ofInt (6)).toNatClampNeg).1 a1 3)) (q_r ((q_cp (q_cp (q_cp σ (q_r (σ.1 a1 0)) (q_r (σ.1 a0 0)) (Int32.ofInt (0)).toNatClampNeg (Int32.ofInt (0)).toNatClampNeg (Int32.ofInt (6)).toNatClampNeg) (q_r ((q_cp σ (q_r (σ.1 a1 0)) (q_r (σ.1 a0 0)) (Int32.ofInt (0)).toNatClampNeg (Int32.ofInt (0)).toNatClampNeg (Int32.ofInt (6)).toNatClampNeg).1 a1 1)) (q_r ((q_cp σ (q_r (σ.1 a1 0)) (q_r (σ.1 a0 0)) (Int32.ofInt (0)).toNatClampNeg (Int32.ofInt (0)).toNatClampNeg (Int32.ofInt (6)).toNatClampNeg).1 a0 1)) (Int32.ofInt (0)).toNatClampNeg (Int32.ofInt (0)).toNatClampNeg (Int32.ofInt (6)).toNatClampNeg) (q_r ((q_cp (q_cp σ (q_r (σ.1 a1 0)) (q_r (σ.1 a0 0)) (Int32.ofInt (0)).toNatClampNeg (Int32.ofInt (0)).toNatClampNeg (Int32.ofInt (6)).toNatClampNeg) (q_r ((q_cp σ (q_r (σ.1 a1 0)) (q_r (σ.1 a0 0)) (Int32.ofInt (0)).toNatClampNeg (Int32.ofInt (0)).toNatClampNeg (Int32.ofInt (6)).toNatClampNeg).1 a1 1)) (q_r ((q_cp σ (q_r (σ.1 a1 0)) (q_r (σ.1 a0 0)) (Int32.ofInt (0)).toNatClampNeg (Int32.ofInt (0)).toNatClampNeg (Int32.ofInt (6)).toNatClampNeg).1 a0 1)) (Int32.ofInt (0)).toNatClampNeg (Int32.ofInt (0)).toNatClampNeg (Int32.ofInt (6)).toNatClampNeg).1 a1 2)) (q_r ((q_cp (q_cp σ (q_r (σ.1 a1 0)) (q_r (σ.1 a0 0)) (Int32.ofInt (0)).toNatClampNeg (Int32.ofInt (0)).toNatClampNeg (Int32.ofInt (6)).toNatClampNeg) (q_r ((q_cp σ (q_r (σ.1 a1 0)) (q_r (σ.1 a0 0)) (Int32.ofInt (0)).toNatClampNeg (Int32.ofInt (0)).toNatClampNeg (Int32.ofInt (6)).toNatClampNeg).1 a1 1)) (q_r ((q_cp σ (q_r (σ.1 a1 0)) (q_r (σ.1 a0 0)) (Int32.ofInt (0)).toNatClampNeg (Int32.ofInt (0)).toNatClampNeg (Int32.ofInt (6)).toNatClampNeg).1 a0 1)) (Int32.ofInt (0)).toNatClampNeg (Int32.ofInt (0)).toNatClampNeg (Int32.ofInt (6)).toNatClampNeg).1 a0 2)) (Int32.ofInt (0)).toNatClampNeg (Int32.ofInt (0)).toNatClampNeg (Int32.ofInt (6)).toNatClampNeg).1 a0 3)) (Int32.ofInt (0)).toNatClampNeg (Int32.ofInt (0)).toNatClampNeg (Int32.ofInt (6)).toNatClampNeg) a0 4 (.int (q_i ((q_cp (q_cp (q_cp (q_cp σ (q_r (σ.1 a1 0)) (q_r (σ.1 a0 0)) (Int32.ofInt (0)).toNatClampNeg (Int32.ofInt (0)).toNatClampNeg (Int32.ofInt (6)).toNatClampNeg) (q_r ((q_cp σ (q_r (σ.1 a1 0)) (q_r (σ.1 a0 0)) (Int32.ofInt (0)).toNatClampNeg (Int32.ofInt (0)).toNatClampNeg (Int32.ofInt (6)).toNatClampNeg).1 a1 1)) (q_r ((q_cp σ (q_r (σ.1 a1 0)) (q_r (σ.1 a0 0)) (Int32.ofInt (0)).toNatClampNeg (Int32.ofInt (0)).toNatClampNeg (Int32.ofInt (6)).toNatClampNeg).1 a0 1)) (Int32.ofInt (0)).toNatClampNeg (Int32.ofInt (0)).toNatClampNeg (Int32.ofInt (6)).toNatClampNeg) (q_r ((q_cp (q_cp σ (q_r (σ.1 a1 0)) (q_r (σ.1 a0 0)) (Int32.ofInt (0)).toNatClampNeg (Int32.ofInt (0)).toNatClampNeg (Int32.ofInt (6)).toNatClampNeg) (q_r ((q_cp σ (q_r (σ.1 a1 0)) (q_r (σ.1 a0 0)) (Int32.ofInt (0)).toNatClampNeg (Int32.ofInt (0)).toNatClampNeg (Int32.ofInt (6)).toNatClampNeg).1 a1 1)) (q_r ((q_cp σ (q_r (σ.1 a1 0)) (q_r (σ.1 a0 0)) (Int32.ofInt (0)).toNatClampNeg (Int32.ofInt (0)).toNatClampNeg (Int32.ofInt (6)).toNatClampNeg).1 a0 1)) (Int32.ofInt (0)).toNatClampNeg (Int32.ofInt (0)).toNatClampNeg (Int32.ofInt (6)).toNatClampNeg).1 a1 2)) (q_r ((q_cp (q_cp σ (q_r (σ.1 a1 0)) (q_r (σ.1 a0 0)) (Int32.ofInt (0)).toNatClampNeg (Int32.ofInt (0)).toNatClampNeg (Int32.ofInt (6)).toNatClampNeg) (q_r ((q_cp σ (q_r (σ.1 a1 0)) (q_r (σ.1 a0 0)) (Int32.ofInt (0)).toNatClampNeg (Int32.ofInt (0)).toNatClampNeg (Int32.ofInt (6)).toNatClampNeg).1 a1 1)) (q_r ((q_cp σ (q_r (σ.1 a1 0)) (q_r (σ.1 a0 0)) (Int32.ofInt (0)).toNatClampNeg (Int32.ofInt (0)).toNatClampNeg (Int32.ofInt (6)).toNatClampNeg).1 a0 1)) (Int32.ofInt (0)).toNatClampNeg (Int32.ofInt (0)).toNatClampNeg (Int32.ofInt (6)).toNatClampNeg).1 a0 2)) (Int32.ofInt (0)).toNatClampNeg (Int32.ofInt (0)).toNatClampNeg (Int32.ofInt (6)).toNatClampNeg) (q_r ((q_cp (q_cp (q_cp σ (q_r (σ.1 a1 0)) (q_r (σ.1 a0 0)) (Int32.ofInt (0)).toNatClampNeg (Int32.ofInt (0)).toNatClampNeg (Int32.ofInt (6)).toNatClampNeg) (q_r ((q_cp σ (q_r (σ.1 a1 0)) (q_r (σ.1 a0 0)) (Int32.ofInt (0)).toNatClampNeg (Int32.ofInt (0)).toNatClampNeg (Int32.ofInt (6)).toNatClampNeg).1 a1 1)) (q_r ((q_cp σ (q_r (σ.1 a1 0)) (q_r (σ.1 a0 0)) (Int32.ofInt (0)).toNatClampNeg (Int32.ofInt (0)).toNatClampNeg (Int32.ofInt (6)).toNatClampNeg).1 a0 1)) (Int32.ofInt (0)).toNatClampNeg (Int32.ofInt (0)).toNatClampNeg (Int32.ofInt (6)).toNatClampNeg) (q_r ((q_cp (q_cp σ (q_r (σ.1 a1 0)) (q_r (σ.1 a0 0)) (Int32.ofInt (0)).toNatClampNeg (Int32.ofInt (0)).toNatClampNeg (Int32.ofInt (6)).toNatClampNeg) (q_r ((q_cp σ (q_r (σ.1 a1 0)) (q_r (σ.1 a0 0)) (Int32.ofInt (0)).toNatClampNeg (Int32.ofInt (0)).toNatClampNeg (Int32.ofInt (6)).toNatClampNeg).1 a1 1)) (q_r ((q_cp σ (q_r (σ.1 a1 0)) (q_r (σ.1 a0 0)) (Int32.ofInt (0)).toNatClampNeg (Int32.ofInt (0)).toNatClampNeg (Int32.ofInt (6)).toNatClampNeg).1 a0 1)) (Int32.ofInt (0)).toNatClampNeg (Int32.ofInt (0)).toNatClampNeg (Int32.ofInt (6)).toNatClampNeg).1 a1 2)) (q_r ((q_cp (q_cp σ (q_r (σ.1 a1 0)) (q_r (σ.1 a0 0)) (Int32.ofInt (0)).toNatClampNeg (Int32.ofInt (0)).toNatClampNeg (Int32.ofInt (6)).toNatClampNeg) (q_r ((q_cp σ (q_r (σ.1 a1 0)) (q_r (σ.1 a0 0)) (Int32.ofInt (0)).toNatClampNeg (Int32.ofInt (0)).toNatClampNeg (Int32.ofInt (6)).toNatClampNeg).1 a1 1)) (q_r ((q_cp σ (q_r (σ.1 a1 0)) (q_r (σ.1 a0 0)) (Int32.ofInt (0)).toNatClampNeg (Int32.ofInt (0)).toNatClampNeg (Int32.ofInt (6)).toNatClampNeg).1 a0 1)) (Int32.ofInt (0)).toNatClampNeg (Int32.ofInt (0)).toNatClampNeg (Int32.ofInt (6)).toNatClampNeg).1 a0 2)) (Int32.ofInt (0)).toNatClampNeg (Int32.ofInt (0)).toNatClampNeg (Int32.ofInt (6)).toNatClampNeg).1 a1 3)) (q_r ((q_cp (q_cp (q_cp σ (q_r (σ.1 a1 0)) (q_r (σ.1 a0 0)) (Int32.ofInt (0)).toNatClampNeg (Int32.ofInt (0)).toNatClampNeg (Int32.ofInt (6)).toNatClampNeg) (q_r ((q_cp σ (q_r (σ.1 a1 0)) (q_r (σ.1 a0 0)) (Int32.ofInt (0)).toNatClampNeg (Int32.ofInt (0)).toNatClampNeg (Int32.ofInt (6)).toNatClampNeg).1 a1 1)) (q_r ((q_cp σ (q_r (σ.1 a1 0)) (q_r (σ.1 a0 0)) (Int32.ofInt (0)).toNatClampNeg (Int32.ofInt (0)).toNatClampNeg (Int32.ofInt (6)).toNatClampNeg).1 a0 1)) (Int32.ofInt (0)).toNatClampNeg (Int32.ofInt (0)).toNatClampNeg (Int32.ofInt (6)).toNatClampNeg) (q_r ((q_cp (q_cp σ (q_r (σ.1 a1 0)) (q_r (σ.1 a0 0)) (Int32.ofInt (0)).toNatClampNeg (Int32.ofInt (0)).toNatClampNeg (Int32.ofInt (6)).toNatClampNeg) (q_r ((q_cp σ (q_r (σ.1 a1 0)) (q_r (σ.1 a0 0)) (Int32.ofInt (0)).toNatClampNeg (Int32.ofInt (0)).toNatClampNeg (Int32.ofInt (6)).toNatClampNeg).1 a1 1)) (q_r ((q_cp σ (q_r (σ.1 a1 0)) (q_r (σ.1 a0 0)) (Int32.ofInt (0)).toNatClampNeg (Int32.ofInt (0)).toNatClampNeg (Int32.ofInt (6)).toNatClampNeg).1 a0 1)) (Int32.ofInt (0)).toNatClampNeg (Int32.ofInt (0)).toNatClampNeg (Int32.ofInt (6)).toNatClampNeg).1 a1 2)) (q_r ((q_cp (q_cp σ (q_r (σ.1 a1 0)) (q_r (σ.1 a0 0)) (Int32.ofInt (0)).toNatClampNeg (Int32.ofInt (0)).toNatClampNeg (Int32.ofInt (6)).toNatClampNeg) (q_r ((q_cp σ (q_r (σ.1 a1 0)) (q_r (σ.1 a0 0)) (Int32.ofInt (0)).toNatClampNeg (Int32.ofInt (0)).toNatClampNeg (Int32.ofInt (6)).toNatClampNeg).1 a1 1)) (q_r ((q_cp σ (q_r (σ.1 a1 0)) (q_r (σ.1 a0 0)) (Int32.ofInt (0)).toNatClampNeg (Int32.ofInt (0)).toNatClampNeg (Int32.ofInt (6)).toNatClampNeg).1 a0 1)) (Int32.ofInt (0)).toNatClampNeg (Int32.ofInt (0)).toNatClampNeg (Int32.ofInt (6)).toNatClampNeg).1 a0 2)) (Int32.ofInt (0)).toNatClampNeg (Int32.ofInt (0)).toNatClampNeg (Int32.ofInt (6)).toNatClampNeg).1 a0 3)) (Int32.ofInt (0)).toNatClampNeg (Int32.ofInt (0)).toNatClampNeg (Int32.ofInt (6)).toNatClampNeg).1 a1 4)))) := by
  rintro b o rfl rfl hd kb ko io
  have I0 : cpI σ σ b o (fun _ _ => False) := cpI.rf
  have kb0 := I0.kb kb
  have ko0 := I0.ko hd ko
  have io0 := I0.io hd io
  have I1 := I0.tr hd (cpI.cp1 (d := 3) (n := 6) hd rfl rfl (by omega) (fun _ _ => nKa (by decide)))
  have kb1 := I1.kb kb
  have ko1 := I1.ko hd ko
  have io1 := I1.io hd io
  have I2 := I1.tr hd (cpI.cp1 (d := 4) (n := 6) hd rfl rfl (by omega) (fun _ _ => nKa (by decide)))
  have kb2 := I2.kb kb
  have ko2 := I2.ko hd ko
  have io2 := I2.io hd io
  have I3 := I2.tr hd (cpI.cp1 (d := 5) (n := 6) hd rfl rfl (by omega) (fun _ _ => nKa (by decide)))
  have kb3 := I3.kb kb
  have ko3 := I3.ko hd ko
  have io3 := I3.io hd io
  have I4 := I3.tr hd (cpI.cp1 (d := 6) (n := 6) hd rfl rfl (by omega) (fun _ _ => nKa (by decide)))
  have kb4 := I4.kb kb
  have ko4 := I4.ko hd ko
  have io4 := I4.io hd io
  have I5 := I4.tr hd (cpI.wi (d := 2) (j := 4) rfl rfl (by omega) (fun _ => nKw (by decide)) io4 (Or.inl ⟨_, hp_0⟩))
  simp only [z0, z6, kb0.q hk_f0, ko0.q hk_f0, kb1.q hk_f1, ko1.q hk_f1, kb2.q hk_f2, ko2.q hk_f2, kb3.q hk_f3, ko3.q hk_f3]
  exact I5
noncomputable def qP_8 : zPp := fun as σ o σ' => match as with
  | [a0, a1] => o = .inl none ∧ p_8 (q_r a0) (q_r a1) σ σ'
  | _ => True
set_option maxRecDepth 100000 in
theorem sp_8 {sx : zX}  : zEe sx 8 2 qP_8 := by
  refine zfle zJ_8 (sps := []) (fun q hq => absurd hq List.not_mem_nil) (fun as σ hl => ?_)
  match as, hl with
  | [a0, a1], _ =>
  refine ⟨[], 400, ?_, ?_⟩
  · exact fun q hq => absurd hq List.not_mem_nil
  · exact ⟨rfl, sp_8_e (q_r a0) (q_r a1) σ ⟩
theorem zJ_101 : zJ3 101 z_m101 z_c101 z_h101 := ⟨rfl, rfl, rfl⟩
noncomputable def D101 (d j : Nat) : Prop := (((False ∨ (d = 8 ∧ j < 8)) ∨ (d = 9 ∧ j < 8)) ∨ (d = 7 ∧ j = 2)) ∨ (d = 7 ∧ j = 3)
noncomputable def p_101 (a h : Nat) (σ σ' : zSg) : Prop := ∀ b o, a = b + 7 → h = o + 7 → dsj b o → hKs σ b → hKs σ o → hIi σ o → cpI σ σ' b o D101
theorem sp_101_e (a0 : Nat) (a1 : Nat) (σ : zSg)  :
    p_101 (a0) (a1) σ (q_w (q_w (q_cp (q_cp σ (q_r (σ.1 a1 0)) (q_r (σ.1 a0 0)) (Int32.ofInt (0)).toNatClampNeg (Int32.ofInt (0)).toNatClampNeg (Int32.ofInt (8)).toNatClampNeg) (q_r ((q_cp σ (q_r (σ.1 a1 0)) (q_r (σ.1 a0 0)) (Int32.ofInt (0)).toNatClampNeg (Int32.ofInt (0)).toNatClampNeg (Int32.ofInt (8)).toNatClampNeg).1 a1 1)) (q_r ((q_cp σ (q_r (σ.1 a1 0)) (q_r (σ.1 a0 0)) (Int32.ofInt (0)).toNatClampNeg (Int32.ofInt (0)).toNatClampNeg (Int32.ofInt (8)).toNatClampNeg).1 a0 1)) (Int32.ofInt (0)).toNatClampNeg (Int32.ofInt (0)).toNatClampNeg (Int32.ofInt (8)).toNatClampNeg) a0 2 (.int (q_i ((q_cp (q_cp σ (q_r (σ.1 a1 0)) (q_r (σ.1 a0 0)) (Int32.ofInt (0)).toNatClampNeg (Int32.ofInt (0)).toNatClampNeg (Int32.ofInt (8)).toNatClampNeg) (q_r ((q_cp σ (q_r (σ.1 a1 0)) (q_r (σ.1 a0 0)) (Int32.ofInt (0)).toNatClampNeg (Int32.ofInt (0)).toNatClampNeg (Int32.ofInt (8)).toNatClampNeg).1 a1 1)) (q_r ((q_cp σ (q_r (σ.1 a1 0)) (q_r (σ.1 a0 0)) (Int32.ofInt (0)).toNatClampNeg (Int32.ofInt (0)).toNatClampNeg (Int32.ofInt (8)).toNatClampNeg).1 a0 1)) (Int32.ofInt (0)).toNatClampNeg (Int32.ofInt (0)).toNatClampNeg (Int32.ofInt (8)).toNatClampNeg).1 a1 2)))) a0 3 (.int (q_i ((q_w (q_cp (q_cp σ (q_r (σ.1 a1 0)) (q_r (σ.1 a0 0)) (Int32.ofInt (0)).toNatClampNeg (Int32.ofInt (0)).toNatClampNeg (Int32.ofInt (8)).toNatClampNeg) (q_r ((q_cp σ (q_r (σ.1 a1 0)) (q_r (σ.1 a0 0)) (Int32.ofInt (0)).toNatClampNeg (Int32.ofInt (0)).toNatClampNeg (Int32.ofInt (8)).toNatClampNeg).1 a1 1)) (q_r ((q_cp σ (q_r (σ.1 a1 0)) (q_r (σ.1 a0 0)) (Int32.ofInt (0)).toNatClampNeg (Int32.ofInt (0)).toNatClampNeg (Int32.ofInt (8)).toNatClampNeg).1 a0 1)) (Int32.ofInt (0)).toNatClampNeg (Int32.ofInt (0)).toNatClampNeg (Int32.ofInt (8)).toNatClampNeg) a0 2 (.int (q_i ((q_cp (q_cp σ (q_r (σ.1 a1 0)) (q_r (σ.1 a0 0)) (Int32.ofInt (0)).toNatClampNeg (Int32.ofInt (0)).toNatClampNeg (Int32.ofInt (8)).toNatClampNeg) (q_r ((q_cp σ (q_r (σ.1 a1 0)) (q_r (σ.1 a0 0)) (Int32.ofInt (0)).toNatClampNeg (Int32.ofInt (0)).toNatClampNeg (Int32.ofInt (8)).toNatClampNeg).1 a1 1)) (q_r ((q_cp σ (q_r (σ.1 a1 0)) (q_r (σ.1 a0 0)) (Int32.ofInt (0)).toNatClampNeg (Int32.ofInt (0)).toNatClampNeg (Int32.ofInt (8)).toNatClampNeg).1 a0 1)) (Int32.ofInt (0)).toNatClampNeg (Int32.ofInt (0)).toNatClampNeg (Int32.ofInt (8)).toNatClampNeg).1 a1 2)))).1 a1 3)))) := by
  rintro b o rfl rfl hd kb ko io
  have I0 : cpI σ σ b o (fun _ _ => False) := cpI.rf
  have kb0 := I0.kb kb
  have ko0 := I0.ko hd ko
  have io0 := I0.io hd io
  have I1 := I0.tr hd (cpI.cp1 (d := 8) (n := 8) hd rfl rfl (by omega) (fun _ _ => nKa (by decide)))
  have kb1 := I1.kb kb
  have ko1 := I1.ko hd ko
  have io1 := I1.io hd io
  have I2 := I1.tr hd (cpI.cp1 (d := 9) (n := 8) hd rfl rfl (by omega) (fun _ _ => nKa (by decide)))
  have kb2 := I2.kb kb
  have ko2 := I2.ko hd ko
  have io2 := I2.io hd io
  have I3 := I2.tr hd (cpI.wi (d := 7) (j := 2) rfl rfl (by omega) (fun _ => nKw (by decide)) io2 (Or.inr (Or.inl ⟨rfl, rfl⟩)))
  have kb3 := I3.kb kb
  have ko3 := I3.ko hd ko
  have io3 := I3.io hd io
  have I4 := I3.tr hd (cpI.wi (d := 7) (j := 3) rfl rfl (by omega) (fun _ => nKw (by decide)) io3 (Or.inl ⟨_, hp_1⟩))
  simp only [z0, z8, kb0.q hk_t0, ko0.q hk_t0, kb1.q hk_t1, ko1.q hk_t1]
  exact I4
noncomputable def qP_101 : zPp := fun as σ o σ' => match as with
  | [a0, a1] => o = .inl none ∧ p_101 (q_r a0) (q_r a1) σ σ'
  | _ => True
set_option maxRecDepth 100000 in
theorem sp_101 {sx : zX}  : zEe sx 101 2 qP_101 := by
  refine zfle zJ_101 (sps := []) (fun q hq => absurd hq List.not_mem_nil) (fun as σ hl => ?_)
  match as, hl with
  | [a0, a1], _ =>
  refine ⟨[], 400, ?_, ?_⟩
  · exact fun q hq => absurd hq List.not_mem_nil
  · exact ⟨rfl, sp_101_e (q_r a0) (q_r a1) σ ⟩
theorem zJ_56 : zJ3 56 z_m56 z_c56 z_h56 := ⟨rfl, rfl, rfl⟩
noncomputable def D56 (d j : Nat) : Prop := ((False ∨ (d = 11 ∧ j < 300)) ∨ (d = 10 ∧ j = 1)) ∨ (d = 10 ∧ j = 2)
noncomputable def p_56 (a h : Nat) (σ σ' : zSg) : Prop := ∀ b o, a = b + 10 → h = o + 10 → dsj b o → hKs σ b → hKs σ o → hIi σ o → cpI σ σ' b o D56
theorem sp_56_e (a0 : Nat) (a1 : Nat) (σ : zSg)  :
    p_56 (a0) (a1) σ (q_w (q_w (q_cp σ (q_r (σ.1 a1 0)) (q_r (σ.1 a0 0)) (Int32.ofInt (0)).toNatClampNeg (Int32.ofInt (0)).toNatClampNeg (Int32.ofInt (300)).toNatClampNeg) a0 1 (.int (q_i ((q_cp σ (q_r (σ.1 a1 0)) (q_r (σ.1 a0 0)) (Int32.ofInt (0)).toNatClampNeg (Int32.ofInt (0)).toNatClampNeg (Int32.ofInt (300)).toNatClampNeg).1 a1 1)))) a0 2 (.int (q_i ((q_w (q_cp σ (q_r (σ.1 a1 0)) (q_r (σ.1 a0 0)) (Int32.ofInt (0)).toNatClampNeg (Int32.ofInt (0)).toNatClampNeg (Int32.ofInt (300)).toNatClampNeg) a0 1 (.int (q_i ((q_cp σ (q_r (σ.1 a1 0)) (q_r (σ.1 a0 0)) (Int32.ofInt (0)).toNatClampNeg (Int32.ofInt (0)).toNatClampNeg (Int32.ofInt (300)).toNatClampNeg).1 a1 1)))).1 a1 2)))) := by
  rintro b o rfl rfl hd kb ko io
  have I0 : cpI σ σ b o (fun _ _ => False) := cpI.rf
  have kb0 := I0.kb kb
  have ko0 := I0.ko hd ko
  have io0 := I0.io hd io
  have I1 := I0.tr hd (cpI.cp1 (d := 11) (n := 300) hd rfl rfl (by omega) (fun _ _ => nKa (by decide)))
  have kb1 := I1.kb kb
  have ko1 := I1.ko hd ko
  have io1 := I1.io hd io
  have I2 := I1.tr hd (cpI.wi (d := 10) (j := 1) rfl rfl (by omega) (fun _ => nKw (by decide)) io1 (Or.inr (Or.inr ⟨rfl, rfl⟩)))
  have kb2 := I2.kb kb
  have ko2 := I2.ko hd ko
  have io2 := I2.io hd io
  have I3 := I2.tr hd (cpI.wi (d := 10) (j := 2) rfl rfl (by omega) (fun _ => nKw (by decide)) io2 (Or.inl ⟨_, hp_14⟩))
  simp only [z0, z300, kb0.q hk_l, ko0.q hk_l]
  exact I3
noncomputable def qP_56 : zPp := fun as σ o σ' => match as with
  | [a0, a1] => o = .inl none ∧ p_56 (q_r a0) (q_r a1) σ σ'
  | _ => True
set_option maxRecDepth 100000 in
theorem sp_56 {sx : zX}  : zEe sx 56 2 qP_56 := by
  refine zfle zJ_56 (sps := []) (fun q hq => absurd hq List.not_mem_nil) (fun as σ hl => ?_)
  match as, hl with
  | [a0, a1], _ =>
  refine ⟨[], 400, ?_, ?_⟩
  · exact fun q hq => absurd hq List.not_mem_nil
  · exact ⟨rfl, sp_56_e (q_r a0) (q_r a1) σ ⟩
theorem zJ_23 : zJ3 23 z_m23 z_c23 z_h23 := ⟨rfl, rfl, rfl⟩
noncomputable def DH (d j : Nat) : Prop := ((((False ∨ (d = 1 ∧ j < 24)) ∨ D8 d j) ∨ D101 d j) ∨ D56 d j) ∨ (d = 0 ∧ 5 ≤ j ∧ j < 18)
noncomputable def p_23 (b o : Nat) (σ σ' : zSg) : Prop := dsj b o → hKs σ b → hKs σ o → hIi σ o → cpI σ σ' b o DH
theorem sp_23_e (a0 : Nat) (a1 : Nat) (σ : zSg) (τ1 : zSg) (τ2 : zSg) (τ3 : zSg) (τ4 : zSg) (τ5 : zSg) (τ6 : zSg) (τ7 : zSg) (τ8 : zSg) (τ9 : zSg) (τ10 : zSg) (τ11 : zSg) (τ12 : zSg) (τ13 : zSg) (τ14 : zSg) (τ15 : zSg) (τ16 : zSg) (g1 : p_8 (q_r ((q_cp σ (q_r (σ.1 a1 0)) (q_r (σ.1 a0 0)) (Int32.ofInt (0)).toNatClampNeg (Int32.ofInt (0)).toNatClampNeg (Int32.ofInt (24)).toNatClampNeg).1 a0 1)) (q_r ((q_cp σ (q_r (σ.1 a1 0)) (q_r (σ.1 a0 0)) (Int32.ofInt (0)).toNatClampNeg (Int32.ofInt (0)).toNatClampNeg (Int32.ofInt (24)).toNatClampNeg).1 a1 1)) (q_cp σ (q_r (σ.1 a1 0)) (q_r (σ.1 a0 0)) (Int32.ofInt (0)).toNatClampNeg (Int32.ofInt (0)).toNatClampNeg (Int32.ofInt (24)).toNatClampNeg) τ1) (g2 : p_101 (q_r (τ1.1 a0 2)) (q_r (τ1.1 a1 2)) τ1 τ2) (g3 : p_56 (q_r (τ2.1 a0 3)) (q_r (τ2.1 a1 3)) τ2 τ3) (ew4 : τ4 = q_w τ3 a0 5 ((τ3.1 a1 5))) (ew5 : τ5 = q_w τ4 a0 6 (.int (q_i (τ4.1 a1 6)))) (ew6 : τ6 = q_w τ5 a0 7 (.int (q_i (τ5.1 a1 7)))) (ew7 : τ7 = q_w τ6 a0 8 (.int (q_i (τ6.1 a1 8)))) (ew8 : τ8 = q_w τ7 a0 9 (.int (q_i (τ7.1 a1 9)))) (ew9 : τ9 = q_w τ8 a0 10 (.int (q_i (τ8.1 a1 10)))) (ew10 : τ10 = q_w τ9 a0 11 (.int (q_i (τ9.1 a1 11)))) (ew11 : τ11 = q_w τ10 a0 12 (.int (q_i (τ10.1 a1 12)))) (ew12 : τ12 = q_w τ11 a0 13 (.int (q_i (τ11.1 a1 13)))) (ew13 : τ13 = q_w τ12 a0 14 (.int (q_i (τ12.1 a1 14)))) (ew14 : τ14 = q_w τ13 a0 15 (.int (q_i (τ13.1 a1 15)))) (ew15 : τ15 = q_w τ14 a0 16 (.int (q_i (τ14.1 a1 16)))) (ew16 : τ16 = q_w τ15 a0 17 (.int (q_i (τ15.1 a1 17)))) :
    p_23 (a0) (a1) σ τ16 := by
  intro hd kb ko io
  have I0 : cpI σ σ a0 a1 (fun _ _ => False) := cpI.rf
  have J1 := I0.tr hd (cpI.cp1 (d := 1) (n := 24) hd rfl rfl (by omega) (fun _ _ => nKa (by decide)))
  have kb1 := J1.kb kb
  have ko1 := J1.ko hd ko
  have io1 := J1.io hd io
  simp only [z0, z24, kb.q hk_0, ko.q hk_0, kb1.q hk_1, ko1.q hk_1] at g1
  have J2 := J1.tr hd (g1 a0 a1 rfl rfl hd kb1 ko1 io1)
  have kb2 := J2.kb kb
  have ko2 := J2.ko hd ko
  have io2 := J2.io hd io
  rw [kb2.q hk_2, ko2.q hk_2] at g2
  have J3 := J2.tr hd (g2 a0 a1 rfl rfl hd kb2 ko2 io2)
  have kb3 := J3.kb kb
  have ko3 := J3.ko hd ko
  have io3 := J3.io hd io
  rw [kb3.q hk_3, ko3.q hk_3] at g3
  have I0 := J3.tr hd (g3 a0 a1 rfl rfl hd kb3 ko3 io3)
  have I0 := I0.cg (D' := fun d j => ((((False ∨ (d = 1 ∧ j < 24)) ∨ D8 d j) ∨ D101 d j) ∨ D56 d j) ∨ (d = 0 ∧ 5 ≤ j ∧ j < 5)) (fun d j => ⟨Or.inl, fun h => h.elim id (fun h => absurd h.2 (by omega))⟩)
  have io0 := I0.io hd io
  have I1 : cpI σ τ4 a0 a1 (fun d j => ((((False ∨ (d = 1 ∧ j < 24)) ∨ D8 d j) ∨ D101 d j) ∨ D56 d j) ∨ (d = 0 ∧ 5 ≤ j ∧ j < 6)) := by
    rw [ew4]
    exact I0.nx hd (by omega) (cpI.w1 (d := 0) (j := 5) (c' := 0) rfl (by omega) (fun _ => nKw (by decide)) rfl)
  have io1 := I1.io hd io
  have I2 : cpI σ τ5 a0 a1 (fun d j => ((((False ∨ (d = 1 ∧ j < 24)) ∨ D8 d j) ∨ D101 d j) ∨ D56 d j) ∨ (d = 0 ∧ 5 ≤ j ∧ j < 7)) := by
    rw [ew5]
    exact I1.nx hd (by omega) (cpI.wi (d := 0) (j := 6) rfl rfl (by omega) (fun _ => nKw (by decide)) io1 (Or.inl ⟨_, hp_2⟩))
  have io2 := I2.io hd io
  have I3 : cpI σ τ6 a0 a1 (fun d j => ((((False ∨ (d = 1 ∧ j < 24)) ∨ D8 d j) ∨ D101 d j) ∨ D56 d j) ∨ (d = 0 ∧ 5 ≤ j ∧ j < 8)) := by
    rw [ew6]
    exact I2.nx hd (by omega) (cpI.wi (d := 0) (j := 7) rfl rfl (by omega) (fun _ => nKw (by decide)) io2 (Or.inl ⟨_, hp_s (k := 4) (by omega) (by omega)⟩))
  have io3 := I3.io hd io
  have I4 : cpI σ τ7 a0 a1 (fun d j => ((((False ∨ (d = 1 ∧ j < 24)) ∨ D8 d j) ∨ D101 d j) ∨ D56 d j) ∨ (d = 0 ∧ 5 ≤ j ∧ j < 9)) := by
    rw [ew7]
    exact I3.nx hd (by omega) (cpI.wi (d := 0) (j := 8) rfl rfl (by omega) (fun _ => nKw (by decide)) io3 (Or.inl ⟨_, hp_s (k := 5) (by omega) (by omega)⟩))
  have io4 := I4.io hd io
  have I5 : cpI σ τ8 a0 a1 (fun d j => ((((False ∨ (d = 1 ∧ j < 24)) ∨ D8 d j) ∨ D101 d j) ∨ D56 d j) ∨ (d = 0 ∧ 5 ≤ j ∧ j < 10)) := by
    rw [ew8]
    exact I4.nx hd (by omega) (cpI.wi (d := 0) (j := 9) rfl rfl (by omega) (fun _ => nKw (by decide)) io4 (Or.inl ⟨_, hp_s (k := 6) (by omega) (by omega)⟩))
  have io5 := I5.io hd io
  have I6 : cpI σ τ9 a0 a1 (fun d j => ((((False ∨ (d = 1 ∧ j < 24)) ∨ D8 d j) ∨ D101 d j) ∨ D56 d j) ∨ (d = 0 ∧ 5 ≤ j ∧ j < 11)) := by
    rw [ew9]
    exact I5.nx hd (by omega) (cpI.wi (d := 0) (j := 10) rfl rfl (by omega) (fun _ => nKw (by decide)) io5 (Or.inl ⟨_, hp_s (k := 7) (by omega) (by omega)⟩))
  have io6 := I6.io hd io
  have I7 : cpI σ τ10 a0 a1 (fun d j => ((((False ∨ (d = 1 ∧ j < 24)) ∨ D8 d j) ∨ D101 d j) ∨ D56 d j) ∨ (d = 0 ∧ 5 ≤ j ∧ j < 12)) := by
    rw [ew10]
    exact I6.nx hd (by omega) (cpI.wi (d := 0) (j := 11) rfl rfl (by omega) (fun _ => nKw (by decide)) io6 (Or.inl ⟨_, hp_s (k := 8) (by omega) (by omega)⟩))
  have io7 := I7.io hd io
  have I8 : cpI σ τ11 a0 a1 (fun d j => ((((False ∨ (d = 1 ∧ j < 24)) ∨ D8 d j) ∨ D101 d j) ∨ D56 d j) ∨ (d = 0 ∧ 5 ≤ j ∧ j < 13)) := by
    rw [ew11]
    exact I7.nx hd (by omega) (cpI.wi (d := 0) (j := 12) rfl rfl (by omega) (fun _ => nKw (by decide)) io7 (Or.inl ⟨_, hp_s (k := 9) (by omega) (by omega)⟩))
  have io8 := I8.io hd io
  have I9 : cpI σ τ12 a0 a1 (fun d j => ((((False ∨ (d = 1 ∧ j < 24)) ∨ D8 d j) ∨ D101 d j) ∨ D56 d j) ∨ (d = 0 ∧ 5 ≤ j ∧ j < 14)) := by
    rw [ew12]
    exact I8.nx hd (by omega) (cpI.wi (d := 0) (j := 13) rfl rfl (by omega) (fun _ => nKw (by decide)) io8 (Or.inl ⟨_, hp_s (k := 10) (by omega) (by omega)⟩))
  have io9 := I9.io hd io
  have I10 : cpI σ τ13 a0 a1 (fun d j => ((((False ∨ (d = 1 ∧ j < 24)) ∨ D8 d j) ∨ D101 d j) ∨ D56 d j) ∨ (d = 0 ∧ 5 ≤ j ∧ j < 15)) := by
    rw [ew13]
    exact I9.nx hd (by omega) (cpI.wi (d := 0) (j := 14) rfl rfl (by omega) (fun _ => nKw (by decide)) io9 (Or.inl ⟨_, hp_s (k := 11) (by omega) (by omega)⟩))
  have io10 := I10.io hd io
  have I11 : cpI σ τ14 a0 a1 (fun d j => ((((False ∨ (d = 1 ∧ j < 24)) ∨ D8 d j) ∨ D101 d j) ∨ D56 d j) ∨ (d = 0 ∧ 5 ≤ j ∧ j < 16)) := by
    rw [ew14]
    exact I10.nx hd (by omega) (cpI.wi (d := 0) (j := 15) rfl rfl (by omega) (fun _ => nKw (by decide)) io10 (Or.inl ⟨_, hp_s (k := 12) (by omega) (by omega)⟩))
  have io11 := I11.io hd io
  have I12 : cpI σ τ15 a0 a1 (fun d j => ((((False ∨ (d = 1 ∧ j < 24)) ∨ D8 d j) ∨ D101 d j) ∨ D56 d j) ∨ (d = 0 ∧ 5 ≤ j ∧ j < 17)) := by
    rw [ew15]
    exact I11.nx hd (by omega) (cpI.wi (d := 0) (j := 16) rfl rfl (by omega) (fun _ => nKw (by decide)) io11 (Or.inl ⟨_, hp_s (k := 13) (by omega) (by omega)⟩))
  have io12 := I12.io hd io
  have I13 : cpI σ τ16 a0 a1 (fun d j => ((((False ∨ (d = 1 ∧ j < 24)) ∨ D8 d j) ∨ D101 d j) ∨ D56 d j) ∨ (d = 0 ∧ 5 ≤ j ∧ j < 18)) := by
    rw [ew16]
    exact I12.nx hd (by omega) (cpI.wi (d := 0) (j := 17) rfl rfl (by omega) (fun _ => nKw (by decide)) io12 (Or.inl ⟨_, hp_15⟩))
  exact I13
noncomputable def qP_23 : zPp := fun as σ o σ' => match as with
  | [a0, a1] => o = .inl none ∧ p_23 (q_r a0) (q_r a1) σ σ'
  | _ => True
set_option maxRecDepth 100000 in
theorem sp_23 {sx : zX} (S8 : zEe sx 8 2 qP_8) (S101 : zEe sx 101 2 qP_101) (S56 : zEe sx 56 2 qP_56) : zEe sx 23 2 qP_23 := by
  refine zfle zJ_23 (sps := [(8, 2, qP_8), (101, 2, qP_101), (56, 2, qP_56)]) (fun q hq => by
    simp only [List.mem_cons, List.not_mem_nil, or_false] at hq
    rcases hq with rfl | rfl | rfl
    · exact S8
    · exact S101
    · exact S56) (fun as σ hl => ?_)
  match as, hl with
  | [a0, a1], _ =>
  refine ⟨[], 400, ?_, ?_⟩
  · exact fun q hq => absurd hq List.not_mem_nil
  · refine fun o1 τ1 g1 => ?_
    obtain ⟨rfl, g1⟩ := g1
    refine fun o2 τ2 g2 => ?_
    obtain ⟨rfl, g2⟩ := g2
    refine fun o3 τ3 g3 => ?_
    obtain ⟨rfl, g3⟩ := g3
    exact ⟨rfl, sp_23_e (q_r a0) (q_r a1) σ τ1 τ2 τ3 _ _ _ _ _ _ _ _ _ _ _ _ _ g1 g2 g3 rfl rfl rfl rfl rfl rfl rfl rfl rfl rfl rfl rfl rfl⟩
theorem hH.ks {σ : zSg} {b : Nat} {A : Nat → Int32} (K : hH σ b A) : hKs σ b := K.1
theorem hH.ii {σ : zSg} {b : Nat} {A : Nat → Int32} (K : hH σ b A) : hIi σ b := by
  rintro c j (⟨k, h⟩ | ⟨rfl, rfl⟩ | ⟨rfl, rfl⟩)
  · exact ⟨_, K.2.1 k c j h⟩
  · obtain ⟨l, h, -⟩ := K.2.2.1
    exact ⟨l, h⟩
  · obtain ⟨nx, -, h, -⟩ := K.2.2.2.1
    exact ⟨_, h⟩
theorem DH_0 {j : Nat} (h1 : 5 ≤ j) (h2 : j < 18) : DH 0 j := Or.inr ⟨rfl, h1, h2⟩
theorem DH_p {b k d j : Nat} (h : hPr b k (b + d) j) : DH d j := by
  rcases h with ⟨-, h, h'⟩ | ⟨-, h, h'⟩ | ⟨-, h, h'⟩ | ⟨h1, h2, h, h'⟩ | ⟨-, h, h'⟩ | ⟨-, h, h'⟩ | ⟨h1, h2, h, h'⟩ | ⟨h1, h2, h3, h4⟩ | ⟨h1, h, -⟩ | ⟨h1, h, -⟩
  · exact Or.inl (Or.inl (Or.inl (Or.inr (Or.inr ⟨by omega, h'⟩))))
  · exact Or.inl (Or.inl (Or.inr (Or.inr ⟨by omega, h'⟩)))
  · exact Or.inr ⟨by omega, by omega, by omega⟩
  · exact Or.inr ⟨by omega, by omega, by omega⟩
  · exact Or.inl (Or.inr (Or.inr ⟨by omega, h'⟩))
  · exact Or.inr ⟨by omega, by omega, by omega⟩
  · exact Or.inl (Or.inl (Or.inl (Or.inl (Or.inr ⟨by omega, by omega⟩))))
  · have hd : d = 3 ∨ d = 4 ∨ d = 5 ∨ d = 6 := by omega
    refine Or.inl (Or.inl (Or.inl (Or.inr ?_)))
    rcases hd with q | q | q | q
    · exact Or.inl (Or.inl (Or.inl (Or.inl (Or.inr ⟨q, h1⟩))))
    · exact Or.inl (Or.inl (Or.inl (Or.inr ⟨q, h1⟩)))
    · exact Or.inl (Or.inl (Or.inr ⟨q, h1⟩))
    · exact Or.inl (Or.inr ⟨q, h1⟩)
  · exact Or.inl (Or.inl (Or.inr (Or.inl (Or.inl (Or.inl (Or.inr ⟨by omega, h1⟩))))))
  · exact Or.inl (Or.inl (Or.inr (Or.inl (Or.inl (Or.inr ⟨by omega, h1⟩)))))
theorem hPr_o {b o k d j : Nat} (h : hPr b k (b + d) j) : hPr o k (o + d) j := by
  rcases h with ⟨g, h, h'⟩ | ⟨g, h, h'⟩ | ⟨g, h, h'⟩ | ⟨h1, h2, h, h'⟩ | ⟨g, h, h'⟩ | ⟨g, h, h'⟩ | ⟨h1, h2, h, h'⟩ | ⟨h1, h2, h3, h4⟩ | ⟨h1, h, g⟩ | ⟨h1, h, g⟩
  · exact Or.inl ⟨g, by omega, h'⟩
  · exact Or.inr (Or.inl ⟨g, by omega, h'⟩)
  · exact Or.inr (Or.inr (Or.inl ⟨g, by omega, h'⟩))
  · exact Or.inr (Or.inr (Or.inr (Or.inl ⟨h1, h2, by omega, h'⟩)))
  · exact Or.inr (Or.inr (Or.inr (Or.inr (Or.inl ⟨g, by omega, h'⟩))))
  · exact Or.inr (Or.inr (Or.inr (Or.inr (Or.inr (Or.inl ⟨g, by omega, h'⟩)))))
  · exact Or.inr (Or.inr (Or.inr (Or.inr (Or.inr (Or.inr (Or.inl ⟨h1, h2, by omega, h'⟩))))))
  · exact Or.inr (Or.inr (Or.inr (Or.inr (Or.inr (Or.inr (Or.inr (Or.inl ⟨h1, by omega, by omega, by omega⟩)))))))
  · exact Or.inr (Or.inr (Or.inr (Or.inr (Or.inr (Or.inr (Or.inr (Or.inr (Or.inl ⟨h1, by omega, g⟩))))))))
  · exact Or.inr (Or.inr (Or.inr (Or.inr (Or.inr (Or.inr (Or.inr (Or.inr (Or.inr ⟨h1, by omega, g⟩))))))))
/-- a copied house holds what the other one holds -/
theorem cpI.hH {σ τ : zSg} {b o : Nat} {A B : Nat → Int32} (I : cpI σ τ b o DH) (K : hH σ o A) (L : hH σ b B) : hH τ b A ∧ τ.1 b 5 = σ.1 o 5 := by
  have e : ∀ d j, DH d j → τ.1 (b + d) j = σ.1 (o + d) j := fun d j h => (I.2.2 d j h).2.2
  have e5 : τ.1 b 5 = σ.1 o 5 := e 0 5 (DH_0 (by omega) (by omega))
  obtain ⟨h1, h2, ⟨l, h3, h3'⟩, ⟨nx, h4, h4', h4''⟩, h5, h6, h7⟩ := K
  refine ⟨⟨I.kb L.ks, fun k c j hp => ?_, ⟨l, ?_, h3'⟩, ⟨nx, h4, ?_, fun i j hi hj => ?_⟩, ?_, by rw [I.1]; exact L.2.2.2.2.2.1, by rw [I.1]; exact L.2.2.2.2.2.2⟩, e5⟩
  · have hn := hp.no
    obtain ⟨d, rfl⟩ : ∃ d, c = b + d := ⟨c - b, by omega⟩
    rw [e d j (DH_p hp)]
    exact h2 k (o + d) j (hPr_o hp)
  · rw [e 7 2 (Or.inl (Or.inl (Or.inr (Or.inl (Or.inr ⟨rfl, rfl⟩)))))]; exact h3
  · rw [e 10 1 (Or.inl (Or.inr (Or.inl (Or.inr ⟨rfl, rfl⟩))))]; exact h4'
  · rw [e 11 _ (Or.inl (Or.inr (Or.inl (Or.inl (Or.inr ⟨rfl, by omega⟩)))))]; exact h4'' i j hi hj
  · unfold hWe
    rw [e5]
    exact h5
