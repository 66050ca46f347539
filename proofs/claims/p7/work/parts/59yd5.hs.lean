/-! A HOUSE OF THE CLASS at cell b holds a row of ints: which place tells which of them -/
noncomputable def hKr (b c j d : Nat) : Prop := (c = b ∧ ((j = 0 ∧ d = b + 1) ∨ (j = 1 ∧ d = b + 2) ∨ (j = 2 ∧ d = b + 7) ∨ (j = 3 ∧ d = b + 10) ∨ (j = 4 ∧ d = b + 12))) ∨ (c = b + 2 ∧ j ≤ 3 ∧ d = b + 3 + j) ∨ (c = b + 7 ∧ j ≤ 1 ∧ d = b + 8 + j) ∨ (c = b + 10 ∧ j = 0 ∧ d = b + 11)
noncomputable def hPr (b k c j : Nat) : Prop := (k = 0 ∧ c = b + 2 ∧ j = 4) ∨ (k = 1 ∧ c = b + 7 ∧ j = 3) ∨ (k = 2 ∧ c = b ∧ j = 6) ∨ (4 ≤ k ∧ k ≤ 13 ∧ c = b ∧ j = k + 3) ∨ (k = 14 ∧ c = b + 10 ∧ j = 2) ∨ (k = 15 ∧ c = b ∧ j = 17) ∨ (16 ≤ k ∧ k < 40 ∧ c = b + 1 ∧ j + 16 = k) ∨ (j < 6 ∧ b + 3 ≤ c ∧ c ≤ b + 6 ∧ k + b + 3 = 40 + 4 * j + c) ∨ (j < 8 ∧ c = b + 8 ∧ k = 64 + 3 * j) ∨ (j < 8 ∧ c = b + 9 ∧ k = 65 + 3 * j)
noncomputable def hLe (σ : zSg) (b : Nat) (A : Nat → Int32) : Prop := ∃ l : Int32, σ.1 (b + 7) 2 = .int l ∧ ∀ t, t < 8 → A (66 + 3 * t) = if btb l (Int32.ofNat t) = true then Int32.ofInt 1 else Int32.ofInt 0
noncomputable def hGe (σ : zSg) (b : Nat) (A : Nat → Int32) : Prop := ∃ nx, nx < 60 ∧ σ.1 (b + 10) 1 = .int (Int32.ofNat nx) ∧ ∀ i j, i < 60 → j < 5 → σ.1 (b + 11) (5 * ((nx + 59 - i) % 60) + j) = .int (A (88 + 5 * i + j))
noncomputable def hWe (σ : zSg) (b : Nat) (A : Nat → Int32) : Prop := (σ.1 b 5 = .null ∧ A 3 = Int32.ofInt 0) ∨ (∃ r, σ.1 b 5 = .ref r ∧ A 3 = Int32.ofInt 1)
noncomputable def hH (σ : zSg) (b : Nat) (A : Nat → Int32) : Prop := (∀ c j d, hKr b c j d → σ.1 c j = .ref d) ∧ (∀ k c j, hPr b k c j → σ.1 c j = .int (A k)) ∧ hLe σ b A ∧ hGe σ b A ∧ hWe σ b A ∧ σ.2.1 (b + 11) = 300 ∧ σ.2.1 (b + 12) = 8
/-- nothing else is changed -/
noncomputable def hHF (b : Nat) (σ σ' : zSg) : Prop := σ'.2 = σ.2 ∧ ∀ c k, ¬ (b ≤ c ∧ c ≤ b + 12 ∧ ¬ (c = b ∧ k = 5)) → σ'.1 c k = σ.1 c k
section HHL
variable {σ τ υ : zSg} {b : Nat} {A B : Nat → Int32}
theorem hPr.inj {k k' c j : Nat} (h : hPr b k c j) (h' : hPr b k' c j) : k = k' := by
  unfold hPr at h h'
  omega
theorem hPr.fn {k c j c' j' : Nat} (h : hPr b k c j) (h' : hPr b k c' j') : c = c' ∧ j = j' := by
  unfold hPr at h h'
  omega
theorem hPr.sk {k c j d : Nat} (h : hPr b k c j) (h' : hKr b c j d) : False := by
  unfold hPr at h
  unfold hKr at h'
  omega
theorem hPr.no {k c j : Nat} (h : hPr b k c j) : k < 88 ∧ k ≠ 3 ∧ (∀ t, k ≠ 66 + 3 * t) ∧ ¬ (c = b + 7 ∧ j = 2) ∧ ¬ (c = b + 10 ∧ j = 1) ∧ c ≠ b + 11 ∧ ¬ (c = b ∧ j = 5) ∧ b ≤ c ∧ c ≤ b + 12 := by
  unfold hPr at h
  refine ⟨by omega, by omega, fun t => by omega, by omega, by omega, by omega, by omega, by omega, by omega⟩
theorem hH.k (H : hH σ b A) {c j d : Nat} (h : hKr b c j d) : q_r (σ.1 c j) = d := by rw [H.1 c j d h]; rfl
theorem hH.p (H : hH σ b A) {k c j : Nat} (h : hPr b k c j) : q_i (σ.1 c j) = A k := by rw [H.2.1 k c j h]; rfl
theorem hH.ww {k c j : Nat} {v : Int32} (H : hH σ b A) (h : hPr b k c j) : hH (q_w σ c j (.int v)) b (aU A k v) := by
  obtain ⟨h1, h2, ⟨l, h3, h3'⟩, ⟨nx, h4, h4', h4''⟩, h5, h6, h7⟩ := H
  obtain ⟨n1, n2, n3, n4, n5, n6, n7, -, -⟩ := h.no
  refine ⟨fun c' j' d hk => ?_, fun k' c' j' hp => ?_, ⟨l, ?_, fun t ht => ?_⟩, ⟨nx, h4, ?_, fun i i' hi hj => ?_⟩, ?_, h6, h7⟩
  · rw [q_w_ne (fun e1 e2 => by subst e1; subst e2; exact h.sk hk)]; exact h1 c' j' d hk
  · by_cases he : k' = k
    · subst he
      obtain ⟨rfl, rfl⟩ := h.fn hp
      rw [aU_at, q_w_at]
    · rw [aU_ne he, q_w_ne (fun e1 e2 => by subst e1; subst e2; exact he (hp.inj h))]
      exact h2 k' c' j' hp
  · rw [q_w_ne (fun e1 e2 => n4 ⟨e1.symm, e2.symm⟩)]; exact h3
  · rw [aU_ne (fun e => n3 t e.symm)]; exact h3' t ht
  · rw [q_w_ne (fun e1 e2 => n5 ⟨e1.symm, e2.symm⟩)]; exact h4'
  · rw [q_w_ne (fun e1 e2 => n6 e1.symm), aU_ne (by omega)]; exact h4'' i i' hi hj
  · rcases h5 with ⟨g1, g2⟩ | ⟨r, g1, g2⟩
    · exact Or.inl ⟨by rw [q_w_ne (fun e1 e2 => n7 ⟨e1.symm, e2.symm⟩)]; exact g1, by rw [aU_ne (fun e => n2 e.symm)]; exact g2⟩
    · exact Or.inr ⟨r, by rw [q_w_ne (fun e1 e2 => n7 ⟨e1.symm, e2.symm⟩)]; exact g1, by rw [aU_ne (fun e => n2 e.symm)]; exact g2⟩
/-- what is left in the house -/
theorem hH.wl {l' v : Int32} {t0 : Nat} (H : hH σ b A) (h0 : t0 < 8) (hv : v = if btb l' (Int32.ofNat t0) = true then Int32.ofInt 1 else Int32.ofInt 0) (hl : ∀ t, t < 8 → t ≠ t0 → btb l' (Int32.ofNat t) = btb (q_i (σ.1 (b + 7) 2)) (Int32.ofNat t)) : hH (q_w σ (b + 7) 2 (.int l')) b (aU A (66 + 3 * t0) v) := by
  obtain ⟨h1, h2, ⟨l, h3, h3'⟩, ⟨nx, h4, h4', h4''⟩, h5, h6, h7⟩ := H
  refine ⟨fun c' j' d hk => ?_, fun k' c' j' hp => ?_, ⟨l', q_w_at _ _ _ _, fun t ht => ?_⟩, ⟨nx, h4, ?_, fun i i' hi hj => ?_⟩, ?_, h6, h7⟩
  · rw [q_w_ne (fun e1 e2 => by unfold hKr at hk; omega)]; exact h1 c' j' d hk
  · have hn := hp.no
    rw [q_w_ne (fun e1 e2 => hn.2.2.2.1 ⟨e1, e2⟩), aU_ne (hn.2.2.1 t0)]
    exact h2 k' c' j' hp
  · by_cases he : t = t0
    · rw [he, aU_at]; exact hv
    · rw [aU_ne (by omega), h3' t ht, hl t ht he, h3]
      rfl
  · rw [q_w_ne (fun e1 e2 => by omega)]; exact h4'
  · rw [q_w_ne (fun e1 e2 => by omega), aU_ne (by omega)]; exact h4'' i i' hi hj
  · rcases h5 with ⟨g1, g2⟩ | ⟨r, g1, g2⟩
    · exact Or.inl ⟨by rw [q_w_ne (fun e1 e2 => by omega)]; exact g1, by rw [aU_ne (by omega)]; exact g2⟩
    · exact Or.inr ⟨r, by rw [q_w_ne (fun e1 e2 => by omega)]; exact g1, by rw [aU_ne (by omega)]; exact g2⟩
theorem hH.cg (H : hH σ b A) (h : ∀ k, k < 388 → A k = B k) : hH σ b B := by
  obtain ⟨h1, h2, ⟨l, h3, h3'⟩, ⟨nx, h4, h4', h4''⟩, h5, h6⟩ := H
  refine ⟨h1, fun k c j hp => ?_, ⟨l, h3, fun t ht => ?_⟩, ⟨nx, h4, h4', fun i j hi hj => ?_⟩, ?_, h6⟩
  · rw [← h k (by have := hp.no; omega)]; exact h2 k c j hp
  · rw [← h _ (by omega)]; exact h3' t ht
  · rw [← h _ (by omega)]; exact h4'' i j hi hj
  · unfold hWe
    rw [← h 3 (by omega)]
    exact h5
/-- cells elsewhere may change -/
theorem hH.fr (H : hH σ b A) (h2' : τ.2 = σ.2) (h : ∀ c j, b ≤ c → c ≤ b + 12 → τ.1 c j = σ.1 c j) : hH τ b A := by
  obtain ⟨h1, h2, ⟨l, h3, h3'⟩, ⟨nx, h4, h4', h4''⟩, h5, h6, h7⟩ := H
  refine ⟨fun c j d hk => ?_, fun k c j hp => ?_, ⟨l, ?_, h3'⟩, ⟨nx, h4, ?_, fun i j hi hj => ?_⟩, ?_, by rw [h2']; exact h6, by rw [h2']; exact h7⟩
  · rw [h c j (by unfold hKr at hk; omega) (by unfold hKr at hk; omega)]; exact h1 c j d hk
  · have hn := hp.no
    rw [h c j hn.2.2.2.2.2.2.2.1 hn.2.2.2.2.2.2.2.2]; exact h2 k c j hp
  · rw [h _ _ (by omega) (by omega)]; exact h3
  · rw [h _ _ (by omega) (by omega)]; exact h4'
  · rw [h _ _ (by omega) (by omega)]; exact h4'' i j hi hj
  · unfold hWe
    rw [h b 5 (by omega) (by omega)]
    exact h5
theorem hHF.rf : hHF b σ σ := ⟨rfl, fun _ _ _ => rfl⟩
theorem hHF.tr (h1 : hHF b σ τ) (h2 : hHF b τ υ) : hHF b σ υ := ⟨h2.1.trans h1.1, fun c k q => (h2.2 c k q).trans (h1.2 c k q)⟩
theorem hHF.w {k c j : Nat} {v : Value} (h : hPr b k c j) : hHF b σ (q_w σ c j v) := ⟨rfl, fun c' k' q => q_w_ne (fun e1 e2 => by have hn := h.no; exact q ⟨by omega, by omega, by omega⟩)⟩
theorem hHF.wl {v : Value} : hHF b σ (q_w σ (b + 7) 2 v) := ⟨rfl, fun c' k' q => q_w_ne (fun e1 e2 => q ⟨by omega, by omega, by omega⟩)⟩
end HHL
/-! the places, by name -/
theorem hp_0 {b : Nat}  : hPr b 0 (b + 2) 4 := Or.inl ⟨rfl, rfl, rfl⟩
theorem hp_1 {b : Nat}  : hPr b 1 (b + 7) 3 := Or.inr (Or.inl ⟨rfl, rfl, rfl⟩)
theorem hp_2 {b : Nat}  : hPr b 2 (b) 6 := Or.inr (Or.inr (Or.inl ⟨rfl, rfl, rfl⟩))
theorem hp_s {b : Nat} {k : Nat} (h1 : 4 ≤ k) (h2 : k ≤ 13) : hPr b k (b) (k + 3) := Or.inr (Or.inr (Or.inr (Or.inl ⟨h1, h2, rfl, rfl⟩)))
theorem hp_14 {b : Nat}  : hPr b 14 (b + 10) 2 := Or.inr (Or.inr (Or.inr (Or.inr (Or.inl ⟨rfl, rfl, rfl⟩))))
theorem hp_15 {b : Nat}  : hPr b 15 (b) 17 := Or.inr (Or.inr (Or.inr (Or.inr (Or.inr (Or.inl ⟨rfl, rfl, rfl⟩)))))
theorem hp_h {b : Nat} {h : Nat} (hh : h < 24) : hPr b (16 + h) (b + 1) h := Or.inr (Or.inr (Or.inr (Or.inr (Or.inr (Or.inr (Or.inl ⟨by omega, by omega, rfl, by omega⟩))))))
theorem hp_f0 {b : Nat} {f : Nat} (hf : f < 6) : hPr b (40 + 4 * f) (b + 3) f := Or.inr (Or.inr (Or.inr (Or.inr (Or.inr (Or.inr (Or.inr (Or.inl ⟨hf, by omega, by omega, by omega⟩)))))))
theorem hp_f1 {b : Nat} {f : Nat} (hf : f < 6) : hPr b (41 + 4 * f) (b + 4) f := Or.inr (Or.inr (Or.inr (Or.inr (Or.inr (Or.inr (Or.inr (Or.inl ⟨hf, by omega, by omega, by omega⟩)))))))
theorem hp_f2 {b : Nat} {f : Nat} (hf : f < 6) : hPr b (42 + 4 * f) (b + 5) f := Or.inr (Or.inr (Or.inr (Or.inr (Or.inr (Or.inr (Or.inr (Or.inl ⟨hf, by omega, by omega, by omega⟩)))))))
theorem hp_f3 {b : Nat} {f : Nat} (hf : f < 6) : hPr b (43 + 4 * f) (b + 6) f := Or.inr (Or.inr (Or.inr (Or.inr (Or.inr (Or.inr (Or.inr (Or.inl ⟨hf, by omega, by omega, by omega⟩)))))))
theorem hp_o {b : Nat} {t : Nat} (ht : t < 8) : hPr b (64 + 3 * t) (b + 8) t := Or.inr (Or.inr (Or.inr (Or.inr (Or.inr (Or.inr (Or.inr (Or.inr (Or.inl ⟨ht, rfl, rfl⟩))))))))
theorem hp_b {b : Nat} {t : Nat} (ht : t < 8) : hPr b (65 + 3 * t) (b + 9) t := Or.inr (Or.inr (Or.inr (Or.inr (Or.inr (Or.inr (Or.inr (Or.inr (Or.inr (⟨ht, rfl, rfl⟩)))))))))
theorem hk_0 {b : Nat} : hKr b b 0 (b + 1) := Or.inl ⟨rfl, Or.inl ⟨rfl, rfl⟩⟩
theorem hk_1 {b : Nat} : hKr b b 1 (b + 2) := Or.inl ⟨rfl, Or.inr (Or.inl ⟨rfl, rfl⟩)⟩
theorem hk_2 {b : Nat} : hKr b b 2 (b + 7) := Or.inl ⟨rfl, Or.inr (Or.inr (Or.inl ⟨rfl, rfl⟩))⟩
theorem hk_3 {b : Nat} : hKr b b 3 (b + 10) := Or.inl ⟨rfl, Or.inr (Or.inr (Or.inr (Or.inl ⟨rfl, rfl⟩)))⟩
theorem hk_4 {b : Nat} : hKr b b 4 (b + 12) := Or.inl ⟨rfl, Or.inr (Or.inr (Or.inr (Or.inr (⟨rfl, rfl⟩))))⟩
theorem hk_f0 {b : Nat} : hKr b (b + 2) 0 (b + 3) := Or.inr (Or.inl ⟨rfl, by omega, rfl⟩)
theorem hk_f1 {b : Nat} : hKr b (b + 2) 1 (b + 4) := Or.inr (Or.inl ⟨rfl, by omega, rfl⟩)
theorem hk_f2 {b : Nat} : hKr b (b + 2) 2 (b + 5) := Or.inr (Or.inl ⟨rfl, by omega, rfl⟩)
theorem hk_f3 {b : Nat} : hKr b (b + 2) 3 (b + 6) := Or.inr (Or.inl ⟨rfl, by omega, rfl⟩)
theorem hk_t0 {b : Nat} : hKr b (b + 7) 0 (b + 8) := Or.inr (Or.inr (Or.inl ⟨rfl, by omega, rfl⟩))
theorem hk_t1 {b : Nat} : hKr b (b + 7) 1 (b + 9) := Or.inr (Or.inr (Or.inl ⟨rfl, by omega, rfl⟩))
theorem hk_l {b : Nat} : hKr b (b + 10) 0 (b + 11) := Or.inr (Or.inr (Or.inr ⟨rfl, rfl, rfl⟩))
/-! bits -/
theorem btb_g (x k : Int32) : btb x k = (x >>> (k &&& 31)).toBitVec.getLsbD 0 := by
  have h : ∀ y : Int32, decide ((y &&& Int32.ofInt 1).toInt = 1) = y.toBitVec.getLsbD 0 := by
    intro y
    have e : (y &&& Int32.ofInt 1).toBitVec = (BitVec.ofBool (y.toBitVec.getLsbD 0)).setWidth 32 := by
      rw [Int32.toBitVec_and]
      exact BitVec.and_one_eq_setWidth_ofBool_getLsbD
    have e2 : (y &&& Int32.ofInt 1) = Int32.ofBitVec ((BitVec.ofBool (y.toBitVec.getLsbD 0)).setWidth 32) := Int32.toBitVec_inj.1 e
    rw [e2]
    cases y.toBitVec.getLsbD 0 <;> decide
  exact h _
theorem btb_or (x y k : Int32) : btb (x ||| y) k = (btb x k || btb y k) := by
  rw [btb_g, btb_g, btb_g, Int32.shiftRight_or, Int32.toBitVec_or, BitVec.getLsbD_or]
theorem btb_and (x y k : Int32) : btb (x &&& y) k = (btb x k && btb y k) := by
  rw [btb_g, btb_g, btb_g, Int32.shiftRight_and, Int32.toBitVec_and, BitVec.getLsbD_and]
theorem btb_1_all : (List.range 32).all (fun t => (List.range 32).all (fun u => decide (btb (Int32.ofInt 1 <<< (Int32.ofNat t &&& 31)) (Int32.ofNat u) = decide (t = u)))) = true := by decide +kernel
theorem btb_1 {t u : Nat} (ht : t < 32) (hu : u < 32) : btb (Int32.ofInt 1 <<< (Int32.ofNat t &&& 31)) (Int32.ofNat u) = decide (t = u) := of_decide_eq_true (List.all_eq_true.mp (List.all_eq_true.mp btb_1_all t (List.mem_range.mpr ht)) u (List.mem_range.mpr hu))
theorem btb_n_all : (List.range 32).all (fun t => (List.range 32).all (fun u => decide (btb ((Int32.ofInt 1 <<< (Int32.ofNat t &&& 31)) ^^^ Int32.ofInt (-1)) (Int32.ofNat u) = !decide (t = u)))) = true := by decide +kernel
theorem btb_n {t u : Nat} (ht : t < 32) (hu : u < 32) : btb ((Int32.ofInt 1 <<< (Int32.ofNat t &&& 31)) ^^^ Int32.ofInt (-1)) (Int32.ofNat u) = !decide (t = u) := of_decide_eq_true (List.all_eq_true.mp (List.all_eq_true.mp btb_n_all t (List.mem_range.mpr ht)) u (List.mem_range.mpr hu))
/-- a thing is put down -/
theorem hH.pd {σ : zSg} {b t : Nat} {A : Nat → Int32} (H : hH σ b A) (ht : t < 8) : hH (q_w σ (b + 7) 2 (.int (q_i (σ.1 (b + 7) 2) ||| (Int32.ofInt 1 <<< (Int32.ofNat t &&& 31))))) b (aU A (66 + 3 * t) (Int32.ofInt 1)) := by
  refine H.wl ht ?_ (fun u hu hne => ?_)
  · rw [btb_or, btb_1 (by omega) (by omega), decide_eq_true rfl, Bool.or_true, if_pos rfl]
  · rw [btb_or, btb_1 (by omega) (by omega), decide_eq_false (fun e => hne e.symm), Bool.or_false]
/-- a thing is taken along -/
theorem hH.ta {σ : zSg} {b t : Nat} {A : Nat → Int32} (H : hH σ b A) (ht : t < 8) : hH (q_w σ (b + 7) 2 (.int (q_i (σ.1 (b + 7) 2) &&& ((Int32.ofInt 1 <<< (Int32.ofNat t &&& 31)) ^^^ Int32.ofInt (-1))))) b (aU A (66 + 3 * t) (Int32.ofInt 0)) := by
  refine H.wl ht ?_ (fun u hu hne => ?_)
  · rw [btb_and, btb_n (by omega) (by omega), decide_eq_true rfl, Bool.not_true, Bool.and_false, if_neg (by decide)]
  · rw [btb_and, btb_n (by omega) (by omega), decide_eq_false (fun e => hne e.symm), Bool.not_false, Bool.and_true]
/-! the class's reader of a deed: tape 1, its bytes 2, the draft 21 -/
noncomputable def dZ (nt : Nat) (A : Nat → Int32) : Prop := ∀ t, nt ≤ t → t < 8 → A (66 + 3 * t) = Int32.ofInt 0
noncomputable def dC (nf nt : Nat) (A : Nat → Int32) : Prop := A 0 = Int32.ofNat nf ∧ nf ≤ 6 ∧ A 1 = Int32.ofNat nt ∧ nt ≤ 8 ∧ dZ nt A
noncomputable def cR (σ : zSg) (b : Nat → Int) (A E nf nt : Nat) (H : Nat → Int32) : Prop := cS σ 1 A E ∧ cb σ 1 = b ∧ (q_i (σ.1 1 3)).toInt = -1 ∧ σ.1 1 0 = .ref 2 ∧ hH σ 21 H ∧ dC nf nt H
noncomputable def cQ (σ : zSg) (b : Nat → Int) (E F : Nat) : Prop := (∃ A, cS σ 1 A E) ∧ cb σ 1 = b ∧ σ.1 1 3 = .int (Int32.ofNat F) ∧ F ≤ 400 ∧ σ.1 1 0 = .ref 2 ∧ ∃ H nf nt, hH σ 21 H ∧ dC nf nt H
noncomputable def cDF (σ σ' : zSg) : Prop := σ'.2 = σ.2 ∧ ∀ c k, ¬ (c = 1 ∧ (k = 2 ∨ k = 3)) → ¬ (21 ≤ c ∧ c ≤ 33 ∧ ¬ (c = 21 ∧ k = 5)) → σ'.1 c k = σ.1 c k
section CRL
variable {σ τ υ : zSg} {A E F nf nt : Nat} {b : Nat → Int} {H H' : Nat → Int32}
theorem cDF.rf : cDF σ σ := ⟨rfl, fun _ _ _ _ => rfl⟩
theorem cDF.tr (h1 : cDF σ τ) (h2 : cDF τ υ) : cDF σ υ := ⟨h2.1.trans h1.1, fun c k q1 q2 => (h2.2 c k q1 q2).trans (h1.2 c k q1 q2)⟩
theorem cDF.tp {k : Nat} {v : Value} (h : k = 2 ∨ k = 3) : cDF σ (q_w σ 1 k v) := ⟨rfl, fun c i q1 _ => q_w_ne (fun e1 e2 => q1 ⟨e1, by omega⟩)⟩
theorem cDF.of (h : hHF 21 σ τ) : cDF σ τ := ⟨h.1, fun c k _ q2 => h.2 c k q2⟩
theorem cR.le (K : cR σ b A E nf nt H) : A ≤ E ∧ E ≤ 400 := ⟨K.1.2.2.2.1, K.1.2.2.2.2.1⟩
theorem hH.tp {k : Nat} {v : Value} (K : hH σ 21 H) : hH (q_w σ 1 k v) 21 H := K.fr rfl (fun c j h1 h2 => q_w_ne (fun e _ => by omega))
theorem cR.at {A1 : Nat} (K : cR σ b A E nf nt H) (h : A1 ≤ E) : cR (q_w σ 1 2 (.int (Int32.ofNat A1))) b A1 E nf nt H := by
  obtain ⟨h1, h2, h3, h4, h5, h6⟩ := K
  refine ⟨h1.at h, (cb_w h1.1 (by omega)).trans h2, ?_, ?_, h5.tp, h6⟩
  · rw [q_w_ne (fun _ q => by omega)]; exact h3
  · rw [q_w_ne (fun _ q => by omega)]; exact h4
theorem cR.wr (K : cR σ b A E nf nt H) : cQ (q_w σ 1 3 (.int (Int32.ofNat A))) b E A := by
  have hl := K.le
  obtain ⟨h1, h2, h3, h4, h5, h6⟩ := K
  exact ⟨⟨A, h1.wr⟩, (cb_w h1.1 (by omega)).trans h2, q_w_at _ _ _ _, by omega, by rw [q_w_ne (fun _ q => by omega)]; exact h4, H, nf, nt, h5.tp, h6⟩
theorem cQ.no (K : cQ σ b E F) : (q_i (σ.1 1 3)).toInt ≠ -1 := by
  obtain ⟨h1, h2, h3, h4, h5⟩ := K
  rw [h3]
  show (Int32.ofNat F).toInt ≠ -1
  rw [o32 (by omega)]
  omega
theorem cQ.at {A1 : Nat} (K : cQ σ b E F) (h : A1 ≤ E) : cQ (q_w σ 1 2 (.int (Int32.ofNat A1))) b E F := by
  obtain ⟨⟨A, h1⟩, h2, h3, h4, h5, H, nf, nt, h6, h7⟩ := K
  exact ⟨⟨A1, h1.at h⟩, (cb_w h1.1 (by omega)).trans h2, by rw [q_w_ne (fun _ q => by omega)]; exact h3, h4, by rw [q_w_ne (fun _ q => by omega)]; exact h5, H, nf, nt, h6.tp, h7⟩
/-- the draft alone was changed -/
theorem cS.hs (K : cS σ 1 A E) (h4 : σ.1 1 0 = .ref 2) (f : hHF 21 σ τ) : cS τ 1 A E ∧ cb τ 1 = cb σ 1 ∧ τ.1 1 0 = .ref 2 ∧ τ.1 1 3 = σ.1 1 3 := by
  have g : ∀ i, τ.1 1 i = σ.1 1 i := fun i => f.2 1 i (by omega)
  have gb : cu τ 1 = cu σ 1 := by
    funext i
    unfold cu
    rw [g 0, h4]
    show (q_i (τ.1 2 i)).toInt = (q_i (σ.1 2 i)).toInt
    rw [f.2 2 i (by omega)]
  obtain ⟨a1, a2, a3, a4, a5, a6⟩ := K
  refine ⟨⟨?_, ?_, ?_, a4, a5, ?_⟩, ?_, ?_, g 3⟩
  · rw [g]; exact a1
  · rw [g]; exact a2
  · rw [g]; exact a3
  · rw [gb]; exact a6
  · funext i
    unfold cb
    rw [gb]
  · rw [g]; exact h4
theorem cR.hs {nf' nt' : Nat} (K : cR σ b A E nf nt H) (f : hHF 21 σ τ) (h : hH τ 21 H') (hc : dC nf' nt' H') : cR τ b A E nf' nt' H' := by
  obtain ⟨h1, h2, h3, h4, h5, h6⟩ := K
  obtain ⟨g1, g2, g3, g4⟩ := h1.hs h4 f
  exact ⟨g1, g2.trans h2, by rw [g4]; exact h3, g3, h, hc⟩
theorem cQ.hs (K : cQ σ b E F) (f : hHF 21 σ τ) (h : ∀ H nf nt, hH σ 21 H → dC nf nt H → ∃ H' nf' nt', hH τ 21 H' ∧ dC nf' nt' H') : cQ τ b E F := by
  obtain ⟨⟨A, h1⟩, h2, h3, h4, h5, H, nf, nt, h6, h7⟩ := K
  obtain ⟨g1, g2, g3, g4⟩ := h1.hs h5 f
  exact ⟨⟨A, g1⟩, g2.trans h2, by rw [g4]; exact h3, h4, g3, h H nf nt h6 h7⟩
theorem cR.tk {w : Nat} {x : Int32} {z : List Int} (K : cR σ b A E nf nt H) (G : p_91 1 w σ x τ) (hw : zwk w) (hz : q_si w = z) : cDF σ τ ∧ (x.toInt ≠ 0 → ∃ A1, tw b E z A = some A1 ∧ cR τ b A1 E nf nt H) ∧ (x.toInt = 0 → tw b E z A = none ∧ τ = σ) := by
  have hb := K.2.1
  have hl : (q_s w).length = z.length := by rw [← hz, q_si_len]
  have hA := K.le
  have := G A E K.1 hw
  rw [hb, hz, hl] at this
  rcases this with ⟨g1, g2, g3, rfl⟩ | ⟨g1, g2, rfl⟩
  · have g4 : A + z.length ≤ E := by
      have h8 : zRn b E 97 122 A = A + z.length := g3.1
      rw [← h8]
      exact zRn_le hA.1
    exact ⟨cDF.tp (Or.inl rfl), fun _ => ⟨_, tw_pos g3, K.at (zBl_le g4)⟩, fun q => absurd q g1⟩
  · exact ⟨cDF.rf, fun q => absurd g1 q, fun _ => ⟨tw_neg (g2 K.2.2.1), rfl⟩⟩
theorem cQ.tk {w : Nat} {x : Int32} (K : cQ σ b E F) (G : p_91 1 w σ x τ) (hw : zwk w) : x.toInt = 0 ∧ τ = σ := by
  have hn := K.no
  obtain ⟨⟨A, g1⟩, -⟩ := K
  rcases G A E g1 hw with ⟨-, g2, -⟩ | ⟨g1, -, g3⟩
  · exact absurd g2 hn
  · exact ⟨g1, g3⟩
theorem cR.nw {w : Nat} {z : List Int} (K : cR σ b A E nf nt H) (G : p_92 1 w σ τ) (hw : zwk w) (hz : q_si w = z) : cDF σ τ ∧ (∀ A1, tw b E z A = some A1 → cR τ b A1 E nf nt H) ∧ (tw b E z A = none → cQ τ b E A) := by
  have hb := K.2.1
  have hl : (q_s w).length = z.length := by rw [← hz, q_si_len]
  have hA := K.le
  have := (G A E K.1 hw).1 K.2.2.1
  rw [hb, hz, hl] at this
  by_cases hc : zWa b E z A
  · obtain rfl := this.1 hc
    have g4 : A + z.length ≤ E := by
      have h8 : zRn b E 97 122 A = A + z.length := hc.1
      rw [← h8]
      exact zRn_le hA.1
    refine ⟨cDF.tp (Or.inl rfl), fun A1 q => ?_, fun q => ?_⟩
    · rw [tw_pos hc] at q
      cases q
      exact K.at (zBl_le g4)
    · rw [tw_pos hc] at q
      cases q
  · obtain rfl := this.2 hc
    refine ⟨cDF.tp (Or.inr rfl), fun A1 q => ?_, fun _ => K.wr⟩
    rw [tw_neg hc] at q
    cases q
theorem cQ.nw {w : Nat} (K : cQ σ b E F) (G : p_92 1 w σ τ) (hw : zwk w) : τ = σ := by
  have hn := K.no
  obtain ⟨⟨A, g1⟩, -⟩ := K
  exact (G A E g1 hw).2 hn
theorem cR.nb {lo hi x : Int32} (K : cR σ b A E nf nt H) (G : p_96 1 lo hi σ x τ) (h0 : 0 ≤ lo.toInt) : cDF σ τ ∧ (∀ A1 v, tn b E lo.toInt hi.toInt A = some (A1, v) → x = Int32.ofNat v ∧ cR τ b A1 E nf nt H) ∧ (tn b E lo.toInt hi.toInt A = none → cQ τ b E A) := by
  have hb := K.2.1
  have hA := K.le
  have := (G A E K.1 h0).1 K.2.2.1
  rw [hb] at this
  rcases this with ⟨g1, g2, rfl⟩ | ⟨g1, g2, rfl⟩
  · have hv := zNm_ge (b := b) (E := E) (lo := lo.toInt) (hi := hi.toInt) (A := A) (by omega)
    refine ⟨cDF.tp (Or.inl rfl), fun A1 v q => ?_, fun q => ?_⟩
    · unfold tn at q
      rw [if_pos g1] at q
      cases q
      refine ⟨Int32.toInt_inj.mp ?_, K.at (zBl_le (zRn_le hA.1))⟩
      rw [g2, zofNat2 (by omega)]
      omega
    · unfold tn at q
      rw [if_pos g1] at q
      cases q
  · refine ⟨cDF.tp (Or.inr rfl), fun A1 v q => ?_, fun _ => K.wr⟩
    unfold tn at q
    rw [if_neg (by omega)] at q
    cases q
theorem cQ.nb {lo hi x : Int32} (K : cQ σ b E F) (G : p_96 1 lo hi σ x τ) (h0 : 0 ≤ lo.toInt) : cDF σ τ ∧ cQ τ b E F := by
  have hn := K.no
  obtain ⟨A, g1⟩ := K.1
  obtain ⟨-, A', h1, rfl⟩ := (G A E g1 h0).2 hn
  exact ⟨cDF.tp (Or.inl rfl), K.at h1⟩
theorem cR.ns {c : Int32} (K : cR σ b A E nf nt H) (G : p_94 1 c σ τ) (h0 : 0 ≤ c.toInt) (h1 : c.toInt ≤ 127) : cDF σ τ ∧ (∀ A1, ts b E c.toInt A = some A1 → cR τ b A1 E nf nt H) ∧ (ts b E c.toInt A = none → cQ τ b E A) := by
  have hb := K.2.1
  have hA := K.le
  have := (G A E K.1 h0 h1).1 K.2.2.1
  rw [hb] at this
  by_cases hc : A < E ∧ b A = c.toInt
  · obtain rfl := this.1 hc
    refine ⟨cDF.tp (Or.inl rfl), fun A1 q => ?_, fun q => ?_⟩
    · unfold ts at q
      rw [if_pos hc] at q
      cases q
      exact K.at (zBl_le (by omega))
    · unfold ts at q
      rw [if_pos hc] at q
      cases q
  · obtain rfl := this.2 hc
    refine ⟨cDF.tp (Or.inr rfl), fun A1 q => ?_, fun _ => K.wr⟩
    unfold ts at q
    rw [if_neg hc] at q
    cases q
theorem cQ.ns {c : Int32} (K : cQ σ b E F) (G : p_94 1 c σ τ) (h0 : 0 ≤ c.toInt) (h1 : c.toInt ≤ 127) : τ = σ := by
  have hn := K.no
  obtain ⟨⟨A, g1⟩, -⟩ := K
  exact (G A E g1 h0 h1).2 hn
theorem cR.rf (K : cR σ b A E nf nt H) (G : p_90 1 σ τ) : cDF σ τ ∧ cQ τ b E A := by
  have := G.2 K.2.2.1
  rw [K.1.2.2.1] at this
  have e : τ = q_w σ 1 3 (.int (Int32.ofNat A)) := this
  subst e
  exact ⟨cDF.tp (Or.inr rfl), K.wr⟩
theorem cQ.rf (K : cQ σ b E F) (G : p_90 1 σ τ) : τ = σ := G.1 K.no
abbrev cOA (σ' : zSg) (b : Nat → Int) (E nf nt : Nat) (H : Nat → Int32) (x : Int32) (R : (Nat × Nat) ⊕ Nat) : Prop := match R with
  | .inl (A1, v) => x = Int32.ofNat v ∧ cR σ' b A1 E nf nt H
  | .inr F => cQ σ' b E F
theorem cR.af {w : Nat} {z : List Int} {lo hi x : Int32} (K : cR σ b A E nf nt H) (G1 : p_92 1 w σ τ) (G2 : p_96 1 lo hi τ x υ) (hw : zwk w) (hz : q_si w = z) (h0 : 0 ≤ lo.toInt) : cDF σ υ ∧ cOA υ b E nf nt H x (dAf b E z lo.toInt hi.toInt A) := by
  obtain ⟨f1, u1, v1⟩ := K.nw G1 hw hz
  unfold dAf
  cases h1 : tw b E z A with
  | none =>
    obtain ⟨f2, K2⟩ := (v1 h1).nb G2 h0
    exact ⟨f1.tr f2, K2⟩
  | some A1 =>
    obtain ⟨f2, u2, v2⟩ := (u1 A1 h1).nb G2 h0
    dsimp only
    cases h2 : tn b E lo.toInt hi.toInt A1 with
    | none => exact ⟨f1.tr f2, v2 h2⟩
    | some q => exact ⟨f1.tr f2, u2 q.1 q.2 h2⟩
theorem cQ.af {w : Nat} {lo hi x : Int32} (K : cQ σ b E F) (G1 : p_92 1 w σ τ) (G2 : p_96 1 lo hi τ x υ) (hw : zwk w) (h0 : 0 ≤ lo.toInt) : cDF σ υ ∧ cQ υ b E F := by
  obtain rfl := K.nw G1 hw
  exact K.nb G2 h0
end CRL
