theorem z_xt0k : ((z_atX RX11 72 "java/lang/IllegalArgumentException" 7 Bundle.six z_xn).filter goodWord).all (fun w => z_mk w lw_tbl) = true := by decide +kernel
theorem z_xt0 : (∀ w ∈ (z_atX RX11 72 "java/lang/IllegalArgumentException" 7 Bundle.six z_xn).filter goodWord, w ∈ lw_tbl) := fun w hw => z_mk_ok (List.all_eq_true.mp z_xt0k w hw)
theorem z_xt1k : ((z_atX RX11 82 "java/lang/UnsupportedOperationException" 7 Bundle.six z_xn).filter goodWord).all (fun w => z_mk w lw_tbl) = true := by decide +kernel
theorem z_xt1 : (∀ w ∈ (z_atX RX11 82 "java/lang/UnsupportedOperationException" 7 Bundle.six z_xn).filter goodWord, w ∈ lw_tbl) := fun w hw => z_mk_ok (List.all_eq_true.mp z_xt1k w hw)
theorem z_xt2k : ((z_atX RX11 355 "java/lang/IndexOutOfBoundsException" 7 Bundle.six z_xn).filter goodWord).all (fun w => z_mk w lw_tbl) = true := by decide +kernel
theorem z_xt2 : (∀ w ∈ (z_atX RX11 355 "java/lang/IndexOutOfBoundsException" 7 Bundle.six z_xn).filter goodWord, w ∈ lw_tbl) := fun w hw => z_mk_ok (List.all_eq_true.mp z_xt2k w hw)
theorem z_xt3k : ((z_atX RX11 368 "java/util/NoSuchElementException" 13 z_six13 z_xn).filter goodWord).all (fun w => z_mk w lw_tbl) = true := by decide +kernel
theorem z_xt3 : (∀ w ∈ (z_atX RX11 368 "java/util/NoSuchElementException" 13 z_six13 z_xn).filter goodWord, w ∈ lw_tbl) := fun w hw => z_mk_ok (List.all_eq_true.mp z_xt3k w hw)
theorem z_xt4k : ((z_atX RX11 377 "java/lang/IllegalStateException" 7 Bundle.six z_xn).filter goodWord).all (fun w => z_mk w lw_tbl) = true := by decide +kernel
theorem z_xt4 : (∀ w ∈ (z_atX RX11 377 "java/lang/IllegalStateException" 7 Bundle.six z_xn).filter goodWord, w ∈ lw_tbl) := fun w hw => z_mk_ok (List.all_eq_true.mp z_xt4k w hw)
theorem z_xf : ∀ (a : Nat) (cls : String) (ic : Nat), z_excs[a]? = some cls → z_ics[a]? = some ic → ∃ ix rx, z_rxOk (ix, rx) ∧ (∀ w ∈ (z_atX RX11 ic cls ix rx z_xn).filter goodWord, w ∈ z_T) ∧ (∀ w ∈ (z_atX RX11 ic cls ix rx z_xn).filter (fun w => !goodWord w), w ∈ z_xw) ∧ (∀ w ∈ z_atX RX11 ic cls ix rx z_xn, vx_ot w = true) ∧ Bundle.fit cls = true
  | 0, _, _, h1, h2 => by cases h1; cases h2; exact ⟨7, Bundle.six, z_rx7, fun w hw => List.mem_filter.mpr ⟨z_xt0 w hw, (List.mem_filter.mp hw).2⟩, by decide +kernel, by decide +kernel, by decide +kernel⟩
  | 1, _, _, h1, h2 => by cases h1; cases h2; exact ⟨7, Bundle.six, z_rx7, fun w hw => List.mem_filter.mpr ⟨z_xt1 w hw, (List.mem_filter.mp hw).2⟩, by decide +kernel, by decide +kernel, by decide +kernel⟩
  | 2, _, _, h1, h2 => by cases h1; cases h2; exact ⟨7, Bundle.six, z_rx7, fun w hw => List.mem_filter.mpr ⟨z_xt2 w hw, (List.mem_filter.mp hw).2⟩, by decide +kernel, by decide +kernel, by decide +kernel⟩
  | 3, _, _, h1, h2 => by cases h1; cases h2; exact ⟨13, z_six13, z_rx13, fun w hw => List.mem_filter.mpr ⟨z_xt3 w hw, (List.mem_filter.mp hw).2⟩, by decide +kernel, by decide +kernel, by decide +kernel⟩
  | 4, _, _, h1, h2 => by cases h1; cases h2; exact ⟨7, Bundle.six, z_rx7, fun w hw => List.mem_filter.mpr ⟨z_xt4 w hw, (List.mem_filter.mp hw).2⟩, by decide +kernel, by decide +kernel, by decide +kernel⟩
  | n + 5, _, _, h1, _ => by simp [z_excs] at h1
