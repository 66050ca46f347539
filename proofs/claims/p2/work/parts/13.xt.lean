theorem z_xt0 : (∀ w ∈ (vx_atS RX11 72 "java/lang/IllegalArgumentException" z_xn).filter goodWord, w ∈ lw_tbl) := by decide +kernel
theorem z_xt1 : (∀ w ∈ (vx_atS RX11 82 "java/lang/UnsupportedOperationException" z_xn).filter goodWord, w ∈ lw_tbl) := by decide +kernel
theorem z_xt2 : (∀ w ∈ (vx_atS RX11 355 "java/lang/IndexOutOfBoundsException" z_xn).filter goodWord, w ∈ lw_tbl) := by decide +kernel
theorem z_xt3 : (∀ w ∈ (vx_atS RX11 368 "java/util/NoSuchElementException" z_xn).filter goodWord, w ∈ lw_tbl) := sorry
theorem z_xt4 : (∀ w ∈ (vx_atS RX11 377 "java/lang/IllegalStateException" z_xn).filter goodWord, w ∈ lw_tbl) := by decide +kernel
theorem z_xf : ∀ (a : Nat) (cls : String) (ic : Nat), z_excs[a]? = some cls → z_ics[a]? = some ic → (∀ w ∈ (vx_atS RX11 ic cls z_xn).filter goodWord, w ∈ z_T) ∧ (∀ w ∈ (vx_atS RX11 ic cls z_xn).filter (fun w => !goodWord w), w ∈ z_xw) ∧ (∀ w ∈ vx_atS RX11 ic cls z_xn, vx_ot w = true) ∧ Bundle.fit cls = true
  | 0, _, _, h1, h2 => by cases h1; cases h2; exact ⟨fun w hw => List.mem_filter.mpr ⟨z_xt0 w hw, (List.mem_filter.mp hw).2⟩, by decide +kernel, by decide +kernel, by decide +kernel⟩
  | 1, _, _, h1, h2 => by cases h1; cases h2; exact ⟨fun w hw => List.mem_filter.mpr ⟨z_xt1 w hw, (List.mem_filter.mp hw).2⟩, by decide +kernel, by decide +kernel, by decide +kernel⟩
  | 2, _, _, h1, h2 => by cases h1; cases h2; exact ⟨fun w hw => List.mem_filter.mpr ⟨z_xt2 w hw, (List.mem_filter.mp hw).2⟩, by decide +kernel, by decide +kernel, by decide +kernel⟩
  | 3, _, _, h1, h2 => by cases h1; cases h2; exact ⟨fun w hw => List.mem_filter.mpr ⟨z_xt3 w hw, (List.mem_filter.mp hw).2⟩, by decide +kernel, by decide +kernel, by decide +kernel⟩
  | 4, _, _, h1, h2 => by cases h1; cases h2; exact ⟨fun w hw => List.mem_filter.mpr ⟨z_xt4 w hw, (List.mem_filter.mp hw).2⟩, by decide +kernel, by decide +kernel, by decide +kernel⟩
  | n + 5, _, _, h1, _ => by simp [z_excs] at h1
