/-! the loop's start: the skeleton and the bytes; printed with wip/gen/gen_init.py -/
theorem zty0_1 : zty0 = zty1 := by decide +kernel
theorem zSkl_0 : zSkl zih := by
  intro q hq
  have h := List.all_eq_true.mp zih_s_ok q hq
  split at h
  · next r e => rw [e, of_decide_eq_true h]
  · cases h
theorem zByq_at {z : zH} {f g : Nat → Int32} (S : zSkl z) (h2 : z[2]? = some (.inl (0, (400, .inl f)))) (h211 : z[211]? = some (.inl (1, (400, .inl g)))) (hk : ∀ k, k < 400 → (f k).toInt = 0 ∧ (g k).toInt = 0) : zByq z := by
  intro k
  have c0 : cu (za z) 1 k = 0 := by
    show (q_i (zv z (q_r (zv z 1 0)) k)).toInt = 0
    rw [S.at (1, 0, 2) (by decide +kernel)]
    show (q_i (zv z 2 k)).toInt = 0
    rw [zv_at h2, z_rd0]
    by_cases hq : k < 400
    · rw [if_pos hq]; exact (hk k hq).1
    · rw [if_neg hq]; rfl
  have r0 : rb (za z) 205 k = 0 := by
    show (q_i (zv z (q_r (zv z 205 8)) k)).toInt = 0
    rw [S.at (205, 8, 211) (by decide +kernel)]
    show (q_i (zv z 211 k)).toInt = 0
    rw [zv_at h211, z_rd1]
    by_cases hq : k < 400
    · rw [if_pos hq]; exact (hk k hq).2
    · rw [if_neg hq]; rfl
  unfold cb
  rw [c0, r0]
  exact ⟨by decide, by decide, by decide⟩
theorem zBb_ok {z : zH} (S : zSkl z) (h : zBb z = true) : zByq z := by
  unfold zBb at h
  split at h
  case h_2 => cases h
  next n f m g h2 h211 =>
  rw [Bool.and_eq_true, Bool.and_eq_true, decide_eq_true_eq, decide_eq_true_eq] at h
  obtain ⟨rfl, rfl, h⟩ := h
  exact zByq_at S h2 h211 (fun k hk => by
    have := List.all_eq_true.mp h k (List.mem_range.mpr hk)
    rw [Bool.and_eq_true, decide_eq_true_eq, decide_eq_true_eq] at this
    exact this)
theorem zLxt_0 (T : zTY z_tt zty0 zih) : zLxt zty0 zih 0 205 218 :=
  ⟨⟨rfl, rfl, rfl⟩, by rw [zty0_1]; exact zExt.rf, zSkl_0, zBb_ok zSkl_0 zih_b_ok⟩
