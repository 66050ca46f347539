/-! the start of the loop; printed with wip/gen/gen_once.py -/
theorem zTY_0 {z : zH} (h : zHb zty0 zty0 z = true) : zTY z_tt zty0 z := by
  obtain ⟨k1, k2⟩ := zHb_ok h
  refine ⟨k1, ?_, fun a t e ht he => zCb_ok (k2 a t e ht he)⟩
  rw [← k1, show zty0.length = 219 from by decide +kernel]
  show 219 ≤ 1048576
  omega
theorem zE1_0 {z : zH} (h : zLb zty0 z = true) : zE1 zty0 z := by
  have U := List.all_eq_true.mp zty0_u
  have hu : ∀ a t : Nat, 20 ≤ t → t ≤ 32 → zty0[a]? = some t → a = t + 185 := fun a t h1 h2 ha => by
    have := U a (List.mem_range.mpr (List.getElem?_eq_some_iff.mp ha).1)
    rw [ha] at this
    dsimp only at this
    rw [Bool.or_eq_true, Bool.or_eq_true, decide_eq_true_eq, decide_eq_true_eq, decide_eq_true_eq] at this
    omega
  refine ⟨fun a b t h1 h2 ha hb => by rw [hu a t h1 h2 ha, hu b t h1 h2 hb], fun a t n f ht hz he => ?_⟩
  have L := List.all_eq_true.mp h a (List.mem_range.mpr (List.getElem?_eq_some_iff.mp ht).1)
  rw [ht, he] at L
  have L : (decide (t ≠ 21 ∧ t ≠ 22 ∧ t ≠ 23) || decide ((f 388).toInt = 0)) = true := L
  rw [Bool.or_eq_true, decide_eq_true_eq, decide_eq_true_eq] at L
  have h0 : (f 388).toInt = 0 := by
    rcases L with L | L
    · rcases hz with rfl | rfl | rfl <;> omega
    · exact L
  exact ⟨by omega, fun l hl => absurd hl (by omega)⟩
theorem zTp_0 {z : zH} (h : zih_t z = true) : zTp zty0 z 0 0 := by
  unfold zih_t at h
  split at h
  case h_2 => cases h
  next e1 h1 =>
  split at h
  case h_2 => cases h
  next t h2 =>
  split at h
  case h_2 => cases h
  next e2 h3 h4 =>
  split at h
  case h_2 => cases h
  next x h5 =>
  exact ⟨e1, e2, t, x, h1, h2, h3, h4, h5, of_decide_eq_true h⟩
theorem zMp_0 {z : zH} (h : zih_m z = true) : zMp z 205 0 := by
  unfold zih_m at h
  split at h
  case h_2 => cases h
  next e1 h1 =>
  split at h
  case h_2 => cases h
  next x h2 =>
  exact ⟨e1, x, h1, h2, of_decide_eq_true h⟩
theorem zIw_0 : zIw zty0 zih 0 205 218 0 :=
  ⟨zTY_0 zih_ty, zE1_0 zih_l, by decide +kernel, by decide +kernel, by decide +kernel, zTp_0 zih_t_ok, zMp_0 zih_m_ok, by decide, by decide, zLxt_0 (zTY_0 zih_ty), zLwt_0, zHld_0 (zTY_0 zih_ty)⟩
