/-! A HOUSE OF THE CLASS at cell b holds a row of ints: which place tells which of them -/
def hKr (b c j d : Nat) : Prop := (c = b ∧ ((j = 0 ∧ d = b + 1) ∨ (j = 1 ∧ d = b + 2) ∨ (j = 2 ∧ d = b + 7) ∨ (j = 3 ∧ d = b + 10) ∨ (j = 4 ∧ d = b + 12))) ∨ (c = b + 2 ∧ j ≤ 3 ∧ d = b + 3 + j) ∨ (c = b + 7 ∧ j ≤ 1 ∧ d = b + 8 + j) ∨ (c = b + 10 ∧ j = 0 ∧ d = b + 11)
def hPr (b k c j : Nat) : Prop := (k = 0 ∧ c = b + 2 ∧ j = 4) ∨ (k = 1 ∧ c = b + 7 ∧ j = 3) ∨ (k = 2 ∧ c = b ∧ j = 6) ∨ (4 ≤ k ∧ k ≤ 13 ∧ c = b ∧ j = k + 3) ∨ (k = 14 ∧ c = b + 10 ∧ j = 2) ∨ (k = 15 ∧ c = b ∧ j = 17) ∨ (16 ≤ k ∧ k < 40 ∧ c = b + 1 ∧ j + 16 = k) ∨ (j < 6 ∧ b + 3 ≤ c ∧ c ≤ b + 6 ∧ k + b + 3 = 40 + 4 * j + c) ∨ (j < 8 ∧ c = b + 8 ∧ k = 64 + 3 * j) ∨ (j < 8 ∧ c = b + 9 ∧ k = 65 + 3 * j)
def hLe (σ : zSg) (b : Nat) (A : Nat → Int32) : Prop := ∃ l : Int32, σ.1 (b + 7) 2 = .int l ∧ ∀ t, t < 8 → A (66 + 3 * t) = if btb l (Int32.ofNat t) = true then Int32.ofInt 1 else Int32.ofInt 0
def hGe (σ : zSg) (b : Nat) (A : Nat → Int32) : Prop := ∃ nx, nx < 60 ∧ σ.1 (b + 10) 1 = .int (Int32.ofNat nx) ∧ ∀ i j, i < 60 → j < 5 → σ.1 (b + 11) (5 * ((nx + 59 - i) % 60) + j) = .int (A (88 + 5 * i + j))
def hWe (σ : zSg) (b : Nat) (A : Nat → Int32) : Prop := (σ.1 b 5 = .null ∧ A 3 = Int32.ofInt 0) ∨ (∃ r, σ.1 b 5 = .ref r ∧ A 3 = Int32.ofInt 1)
def hH (σ : zSg) (b : Nat) (A : Nat → Int32) : Prop := (∀ c j d, hKr b c j d → σ.1 c j = .ref d) ∧ (∀ k c j, hPr b k c j → σ.1 c j = .int (A k)) ∧ hLe σ b A ∧ hGe σ b A ∧ hWe σ b A ∧ σ.2.1 (b + 11) = 300 ∧ σ.2.1 (b + 12) = 8
/-- nothing else is changed -/
def hHF (b : Nat) (σ σ' : zSg) : Prop := σ'.2 = σ.2 ∧ ∀ c k, ¬ (b ≤ c ∧ c ≤ b + 12 ∧ ¬ (c = b ∧ k = 5)) → σ'.1 c k = σ.1 c k
section HHL
variable {σ τ υ : zSg} {b : Nat} {A B : Nat → Int32}
theorem hPr.inj {k k' c j : Nat} (h : hPr b k c j) (h' : hPr b k' c j) : k = k' := by
  unfold hPr at h h'
  omega
theorem hPr.fn {k c j c' j' : Nat} (h : hPr b k c j) (h' : hPr b k c' j') : c = c' ∧ j = j' := by
  unfold hPr at h h'
  omega
theorem hPr.sk {k c j d : Nat} (h : hPr b k c j) (h' : hKr b c j d) : False := by
  unfold hPr at h
  unfold hKr at h'
  omega
theorem hPr.no {k c j : Nat} (h : hPr b k c j) : k < 88 ∧ k ≠ 3 ∧ (∀ t, k ≠ 66 + 3 * t) ∧ ¬ (c = b + 7 ∧ j = 2) ∧ ¬ (c = b + 10 ∧ j = 1) ∧ c ≠ b + 11 ∧ ¬ (c = b ∧ j = 5) ∧ b ≤ c ∧ c ≤ b + 12 := by
  unfold hPr at h
  refine ⟨by omega, by omega, fun t => by omega, by omega, by omega, by omega, by omega, by omega, by omega⟩
theorem hH.k (H : hH σ b A) {c j d : Nat} (h : hKr b c j d) : q_r (σ.1 c j) = d := by rw [H.1 c j d h]; rfl
theorem hH.p (H : hH σ b A) {k c j : Nat} (h : hPr b k c j) : q_i (σ.1 c j) = A k := by rw [H.2.1 k c j h]; rfl
theorem hH.ww {k c j : Nat} {v : Int32} (H : hH σ b A) (h : hPr b k c j) : hH (q_w σ c j (.int v)) b (aU A k v) := by
  obtain ⟨h1, h2, ⟨l, h3, h3'⟩, ⟨nx, h4, h4', h4''⟩, h5, h6, h7⟩ := H
  obtain ⟨n1, n2, n3, n4, n5, n6, n7, -, -⟩ := h.no
  refine ⟨fun c' j' d hk => ?_, fun k' c' j' hp => ?_, ⟨l, ?_, fun t ht => ?_⟩, ⟨nx, h4, ?_, fun i i' hi hj => ?_⟩, ?_, h6, h7⟩
  · rw [q_w_ne (fun e1 e2 => by subst e1; subst e2; exact h.sk hk)]; exact h1 c' j' d hk
  · by_cases he : k' = k
    · subst he
      obtain ⟨rfl, rfl⟩ := h.fn hp
      rw [aU_at, q_w_at]
    · rw [aU_ne he, q_w_ne (fun e1 e2 => by subst e1; subst e2; exact he (hp.inj h))]
      exact h2 k' c' j' hp
  · rw [q_w_ne (fun e1 e2 => n4 ⟨e1.symm, e2.symm⟩)]; exact h3
  · rw [aU_ne (fun e => n3 t e.symm)]; exact h3' t ht
  · rw [q_w_ne (fun e1 e2 => n5 ⟨e1.symm, e2.symm⟩)]; exact h4'
  · rw [q_w_ne (fun e1 e2 => n6 e1.symm), aU_ne (by omega)]; exact h4'' i i' hi hj
  · rcases h5 with ⟨g1, g2⟩ | ⟨r, g1, g2⟩
    · exact Or.inl ⟨by rw [q_w_ne (fun e1 e2 => n7 ⟨e1.symm, e2.symm⟩)]; exact g1, by rw [aU_ne (fun e => n2 e.symm)]; exact g2⟩
    · exact Or.inr ⟨r, by rw [q_w_ne (fun e1 e2 => n7 ⟨e1.symm, e2.symm⟩)]; exact g1, by rw [aU_ne (fun e => n2 e.symm)]; exact g2⟩
/-- what is left in the house -/
theorem hH.wl {l' v : Int32} {t0 : Nat} (H : hH σ b A) (h0 : t0 < 8) (hv : v = if btb l' (Int32.ofNat t0) = true then Int32.ofInt 1 else Int32.ofInt 0) (hl : ∀ t, t < 8 → t ≠ t0 → btb l' (Int32.ofNat t) = btb (q_i (σ.1 (b + 7) 2)) (Int32.ofNat t)) : hH (q_w σ (b + 7) 2 (.int l')) b (aU A (66 + 3 * t0) v) := by
  obtain ⟨h1, h2, ⟨l, h3, h3'⟩, ⟨nx, h4, h4', h4''⟩, h5, h6, h7⟩ := H
  refine ⟨fun c' j' d hk => ?_, fun k' c' j' hp => ?_, ⟨l', q_w_at _ _ _ _, fun t ht => ?_⟩, ⟨nx, h4, ?_, fun i i' hi hj => ?_⟩, ?_, h6, h7⟩
  · rw [q_w_ne (fun e1 e2 => by unfold hKr at hk; omega)]; exact h1 c' j' d hk
  · have hn := hp.no
    rw [q_w_ne (fun e1 e2 => hn.2.2.2.1 ⟨e1, e2⟩), aU_ne (hn.2.2.1 t0)]
    exact h2 k' c' j' hp
  · by_cases he : t = t0
    · rw [he, aU_at]; exact hv
    · rw [aU_ne (by omega), h3' t ht, hl t ht he, h3]
      rfl
  · rw [q_w_ne (fun e1 e2 => by omega)]; exact h4'
  · rw [q_w_ne (fun e1 e2 => by omega), aU_ne (by omega)]; exact h4'' i i' hi hj
  · rcases h5 with ⟨g1, g2⟩ | ⟨r, g1, g2⟩
    · exact Or.inl ⟨by rw [q_w_ne (fun e1 e2 => by omega)]; exact g1, by rw [aU_ne (by omega)]; exact g2⟩
    · exact Or.inr ⟨r, by rw [q_w_ne (fun e1 e2 => by omega)]; exact g1, by rw [aU_ne (by omega)]; exact g2⟩
theorem hH.cg (H : hH σ b A) (h : ∀ k, k < 388 → A k = B k) : hH σ b B := by
  obtain ⟨h1, h2, ⟨l, h3, h3'⟩, ⟨nx, h4, h4', h4''⟩, h5, h6⟩ := H
  refine ⟨h1, fun k c j hp => ?_, ⟨l, h3, fun t ht => ?_⟩, ⟨nx, h4, h4', fun i j hi hj => ?_⟩, ?_, h6⟩
  · rw [← h k (by have := hp.no; omega)]; exact h2 k c j hp
  · rw [← h _ (by omega)]; exact h3' t ht
  · rw [← h _ (by omega)]; exact h4'' i j hi hj
  · unfold hWe
    rw [← h 3 (by omega)]
    exact h5
/-- cells elsewhere may change -/
theorem hH.fr (H : hH σ b A) (h2' : τ.2 = σ.2) (h : ∀ c j, b ≤ c → c ≤ b + 12 → τ.1 c j = σ.1 c j) : hH τ b A := by
  obtain ⟨h1, h2, ⟨l, h3, h3'⟩, ⟨nx, h4, h4', h4''⟩, h5, h6, h7⟩ := H
  refine ⟨fun c j d hk => ?_, fun k c j hp => ?_, ⟨l, ?_, h3'⟩, ⟨nx, h4, ?_, fun i j hi hj => ?_⟩, ?_, by rw [h2']; exact h6, by rw [h2']; exact h7⟩
  · rw [h c j (by unfold hKr at hk; omega) (by unfold hKr at hk; omega)]; exact h1 c j d hk
  · have hn := hp.no
    rw [h c j hn.2.2.2.2.2.2.2.1 hn.2.2.2.2.2.2.2.2]; exact h2 k c j hp
  · rw [h _ _ (by omega) (by omega)]; exact h3
  · rw [h _ _ (by omega) (by omega)]; exact h4'
  · rw [h _ _ (by omega) (by omega)]; exact h4'' i j hi hj
  · unfold hWe
    rw [h b 5 (by omega) (by omega)]
    exact h5
theorem hHF.rf : hHF b σ σ := ⟨rfl, fun _ _ _ => rfl⟩
theorem hHF.tr (h1 : hHF b σ τ) (h2 : hHF b τ υ) : hHF b σ υ := ⟨h2.1.trans h1.1, fun c k q => (h2.2 c k q).trans (h1.2 c k q)⟩
theorem hHF.w {k c j : Nat} {v : Value} (h : hPr b k c j) : hHF b σ (q_w σ c j v) := ⟨rfl, fun c' k' q => q_w_ne (fun e1 e2 => by have hn := h.no; exact q ⟨by omega, by omega, by omega⟩)⟩
theorem hHF.wl {v : Value} : hHF b σ (q_w σ (b + 7) 2 v) := ⟨rfl, fun c' k' q => q_w_ne (fun e1 e2 => q ⟨by omega, by omega, by omega⟩)⟩
end HHL
/-! bits -/
theorem btb_put_all : (List.range 8).all (fun t => (List.range 8).all (fun u => decide (t = u) || decide (Int32.ofInt 1 <<< (Int32.ofNat t &&& 31) >>> (Int32.ofNat u &&& 31) &&& Int32.ofInt 1 = 0))) = true := by decide +kernel
