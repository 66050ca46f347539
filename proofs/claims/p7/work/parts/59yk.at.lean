/-! the law's two readers, from what holds at the loop's head -/
theorem zv_of {h : zH} {c k : Nat} {e : zE} {v : Value} (he : h[c]? = some e) (hv : z_rd e k = some v) : zv h c k = v := by rw [zv_at he, hv]; rfl
theorem zL5_of {ty : List Nat} {h : zH} {N : Int} (P : zTp ty h 0 N) (Q : zMp h 205 N) (h0 : 0 ≤ N) (S : zSkl h) : ∃ E : Nat, N = (E : Int) ∧ zv h 1 1 = .int (Int32.ofNat E) ∧ zv h 205 9 = .int (Int32.ofNat E) := by
  obtain ⟨e1, e2, t, x, a1, a2, a3, a4, a5, a6⟩ := P
  obtain ⟨e3, y, b1, b2, b3⟩ := Q
  have ht : t = 1 := by
    have := S.at (0, 0, 1) (by decide +kernel)
    rw [zv_of a1 a2] at this
    cases this
    rfl
  subst ht
  have hx : x = Int32.ofNat N.toNat := Int32.toInt_inj.mp (by rw [a6, Int32.toInt_ofNat_of_lt (by have := zb32 x; omega)]; omega)
  have hy : y = Int32.ofNat N.toNat := Int32.toInt_inj.mp (by rw [b3, Int32.toInt_ofNat_of_lt (by have := zb32 y; omega)]; omega)
  exact ⟨N.toNat, by omega, by rw [zv_of a4 a5, hx], by rw [zv_of b1 b2, hy]⟩
theorem zvl_of {ty : List Nat} {h : zH} {c t n : Nat} (T : zTY z_tt ty h) (ht : ty[c]? = some t) (hk : (z_tt t).1 = 1) (hn : (z_tt t).2.2.1 = n) : zvl h c = n := by
  obtain ⟨f, he⟩ := zcell1 T ht hk hn
  exact zvl_at he
theorem rA_of {ty : List Nat} {h : zH} {E : Nat} (T : zTY z_tt ty h) (X : zExt zty1 ty) (S : zSkl h) (hE : E ≤ 400) (h9 : zv h 205 9 = .int (Int32.ofNat E)) : rA (za h) 205 206 (rb (za h) 205) E := by
  have s1 : zv h 205 1 = .ref 206 := S.at (205, 1, 206) (by decide +kernel)
  have s8 : zv h 205 8 = .ref 211 := S.at (205, 8, 211) (by decide +kernel)
  have q8 : q_r ((za h).1 205 8) = 211 := by show q_r (zv h 205 8) = 211; rw [s8]; rfl
  have t205 : ty[205]? = some 20 := X 205 20 (by decide +kernel)
  obtain ⟨fs, he, hl⟩ := zcell0 (c := 9) (n := 23) T t205 rfl rfl rfl
  obtain ⟨x, hx, x1, x2⟩ := zfd0 (b := 13) (lo := 0) (hi := 6) T t205 he (by omega) (by decide +kernel)
  refine ⟨by rw [q8]; decide, rfl, s1, by decide, by rw [q8]; decide, zvl_of T (X 206 21 (by decide +kernel)) rfl rfl, h9, hE, x.toInt.toNat, by omega, ?_⟩
  show zv h 205 13 = _
  rw [zv_of he hx]
  exact congrArg Value.int (Int32.toInt_inj.mp (by rw [o32 (by omega)]; omega))
theorem cLw_of {ty : List Nat} {h : zH} {E : Nat} (T : zTY z_tt ty h) (X : zExt zty1 ty) (S : zSkl h) (hE : E ≤ 400) (h1 : zv h 1 1 = .int (Int32.ofNat E)) (Y : zByq h) : cLw (za h) 0 1 3 8 47 7 4 5 6 2 (rb (za h) 205) E := by
  have hN : 219 ≤ (za h).2.2 := by
    show 219 ≤ h.length
    rw [← T.1]
    exact (List.getElem?_eq_some_iff.mp (X 218 33 (by decide +kernel))).1
  have p10 : zv h 1 0 = .ref 2 := S.at (1, 0, 2) (by decide +kernel)
  have p30 : zv h 3 0 = .ref 4 := S.at (3, 0, 4) (by decide +kernel)
  have p31 : zv h 3 1 = .ref 5 := S.at (3, 1, 5) (by decide +kernel)
  have p32 : zv h 3 2 = .ref 6 := S.at (3, 2, 6) (by decide +kernel)
  have p33 : zv h 3 3 = .ref 7 := S.at (3, 3, 7) (by decide +kernel)
  have q10 : q_r ((za h).1 1 0) = 2 := by show q_r (zv h 1 0) = 2; rw [p10]; rfl
  have q30 : q_r ((za h).1 3 0) = 4 := by show q_r (zv h 3 0) = 4; rw [p30]; rfl
  have q31 : q_r ((za h).1 3 1) = 5 := by show q_r (zv h 3 1) = 5; rw [p31]; rfl
  have q32 : q_r ((za h).1 3 2) = 6 := by show q_r (zv h 3 2) = 6; rw [p32]; rfl
  have q33 : q_r ((za h).1 3 3) = 7 := by show q_r (zv h 3 3) = 7; rw [p33]; rfl
  refine ⟨S.at (0, 0, 1) (by decide +kernel), S.at (0, 1, 3) (by decide +kernel), S.at (0, 2, 8) (by decide +kernel), S.at (0, 5, 47) (by decide +kernel), p10, ⟨⟨by rw [q10]; decide, h1, hE, fun k => ⟨(Y k).1, (Y k).2.1⟩⟩, ?_, ⟨by decide, q33, by decide, by decide, by rw [q10]; decide, by rw [q10]; decide, zvl_of T (X 7 7 (by decide +kernel)) rfl rfl⟩, q30, q31, q32, ⟨by decide, by decide, by decide, by rw [q10]; decide⟩, ⟨by decide, by decide, by decide, by rw [q10]; decide⟩, ⟨by decide, by decide, by decide, by rw [q10]; decide⟩, by decide, by decide, by decide⟩, ⟨zvl_of T (X 4 5 (by decide +kernel)) rfl rfl, zvl_of T (X 5 5 (by decide +kernel)) rfl rfl, zvl_of T (X 6 6 (by decide +kernel)) rfl rfl⟩, ⟨by omega, by omega, by omega, by omega, by omega, by omega, by omega, by omega, by omega⟩, ⟨by decide, by decide, by decide, by decide, by decide, by decide, by decide, by decide⟩, ⟨by decide, by decide, by decide, by decide, by decide, by decide, by decide⟩, ⟨by decide, by decide, by decide, by decide, by decide, by decide⟩⟩
  funext k
  exact (Y k).2.2.symm
