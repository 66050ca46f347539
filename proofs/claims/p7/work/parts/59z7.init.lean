/-! the two constructors, by the kernel: what it says; printed with wip/gen/gen_init.py -/
theorem zty0_u : zUb zty0 = true := by decide +kernel
theorem zend_ok {r : Option zRes} {n : Nat} (h : zend r n = true) : ∃ h' x y, r = some (.inl none, h', x, y) ∧ h'.length = n ∧ x ≤ 1000 ∧ y ≤ 100000 := by
  unfold zend at h
  split at h
  · next h' x y =>
    rw [Bool.and_eq_true, Bool.and_eq_true, decide_eq_true_eq, decide_eq_true_eq, decide_eq_true_eq] at h
    exact ⟨h', x, y, rfl, h⟩
  · cases h