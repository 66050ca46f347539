/-! WHAT THE START GIVES: the words of the Statement's premises, the classes, the texts, the script -/
noncomputable def zPr : List Cond := flatC (Jvm.Cond.and given_1 narrow_1)
theorem zPr_nc : ∀ a ∈ z_excs, ∀ b ∈ z_excs, a ≠ b → Cond.not (.castable a b) ∈ zPr := by decide +kernel
theorem zPr_cs : Cond.eq (.static "java/lang/String" "COMPACT_STRINGS" "Z") (.int 1) ∈ zPr := List.mem_of_getElem? (i := 4) (by decide +kernel)
theorem zPr_si : Cond.isRef (.static "jdk/internal/util/Preconditions" "SIOOBE_FORMATTER" "Ljava/util/function/BiFunction;") ∈ zPr := List.mem_of_getElem? (i := 5) (by decide +kernel)
theorem zPr_us : Cond.isRef (.static Bundle.tN "UNASSIGNED_STACK" Bundle.steD) ∈ zPr := List.mem_of_getElem? (i := 9) (by decide +kernel)
theorem zPr_ss : Cond.isRef (.static Bundle.tN "SUPPRESSED_SENTINEL" Bundle.listD) ∈ zPr := List.mem_of_getElem? (i := 10) (by decide +kernel)
noncomputable def zSt_ (q : String × Nat × String × List Int32) : Term := .field (.string q.1 q.2.1) "java/lang/String" "value" "[B"
noncomputable def zSw (q : String × Nat × String × List Int32) : List Cond := .exactly (.string q.1 q.2.1) "java/lang/String" :: .eq (.field (.string q.1 q.2.1) "java/lang/String" "coder" "B") (.int 0) :: .arrayOf (zSt_ q) .byte :: .eq (.length (zSt_ q)) (.int (Int32.ofNat q.2.2.2.length)) :: (List.range q.2.2.2.length).map (fun j => .eq (.elem (zSt_ q) (.int (Int32.ofNat j))) (.int (q.2.2.2.getD j 0)))
noncomputable def zStP : List Nat := [218, 251, 408, 606, 440, 465, 526, 492, 584, 552, 568, 81, 142, 117, 167, 132, 175, 183, 191, 200, 210, 91, 100, 108, 151, 159, 126, 307, 281, 289, 298, 395, 402, 313, 320, 329, 339, 350, 359, 367, 375, 386, 692, 652, 662, 672, 682, 699, 729, 738, 640, 710, 719, 748, 757, 767, 777, 788, 843, 852, 861, 822, 832, 814, 873, 881, 798, 807]
noncomputable def zSwk : List (String × Nat × String × List Int32) → List Nat → Bool
  | [], [] => true
  | q :: qs, i :: is => decide ((zPr.drop i).take (4 + q.2.2.2.length) = zSw q) && zSwk qs is
  | _, _ => false
theorem zSwk_at : ∀ {qs : List (String × Nat × String × List Int32)} {is : List Nat}, zSwk qs is = true → ∀ q ∈ qs, ∀ w ∈ zSw q, w ∈ zPr
  | [], [], _, q, hq, _, _ => by cases hq
  | q0 :: qs, i :: is, h, q, hq, w, hw => by
    rw [zSwk, Bool.and_eq_true, decide_eq_true_eq] at h
    rcases List.mem_cons.mp hq with rfl | hq
    · rw [← h.1] at hw
      exact List.mem_of_mem_drop (List.mem_of_mem_take hw)
    · exact zSwk_at h.2 q hq w hw
theorem zSwk_1 : zSwk (z_strs.take 17) (zStP.take 17) = true := by decide +kernel
theorem zSwk_2 : zSwk ((z_strs.drop 17).take 17) ((zStP.drop 17).take 17) = true := by decide +kernel
theorem zSwk_3 : zSwk ((z_strs.drop 34).take 17) ((zStP.drop 34).take 17) = true := by decide +kernel
theorem zSwk_4 : zSwk (z_strs.drop 51) (zStP.drop 51) = true := by decide +kernel
theorem zSw_in {q : String × Nat × String × List Int32} (hq : q ∈ z_strs) : ∀ w ∈ zSw q, w ∈ zPr := by
  have e : z_strs = z_strs.take 17 ++ ((z_strs.drop 17).take 17 ++ ((z_strs.drop 34).take 17 ++ z_strs.drop 51)) := by
    rw [show z_strs.drop 51 = (z_strs.drop 34).drop 17 by rw [List.drop_drop], List.take_append_drop, show z_strs.drop 34 = (z_strs.drop 17).drop 17 by rw [List.drop_drop], List.take_append_drop, List.take_append_drop]
  rw [e] at hq
  rcases List.mem_append.mp hq with h | h
  · exact zSwk_at zSwk_1 q h
  rcases List.mem_append.mp h with h | h
  · exact zSwk_at zSwk_2 q h
  rcases List.mem_append.mp h with h | h
  · exact zSwk_at zSwk_3 q h
  · exact zSwk_at zSwk_4 q h
theorem zSr_k : z_strs.all (fun q => z_mk (Cond.stringRef q.1 q.2.1 q.2.2.1) lw_tbl) = true := by decide +kernel
theorem zSr_in : ∀ q ∈ z_strs, Cond.stringRef q.1 q.2.1 q.2.2.1 ∈ lw_tbl := fun q hq => z_mk_ok (List.all_eq_true.mp zSr_k q hq)
theorem zKn_k : vwCl.all (fun w => (u_ws w.1 w.2.1 w.2.2).all (fun x => z_mk x lw_tbl) && z_mk (Cond.instantiable w.1 w.2.2) lw_tbl) = true := by decide +kernel
theorem zKn_in : ∀ w ∈ vwCl, (∀ x ∈ u_ws w.1 w.2.1 w.2.2, x ∈ lw_tbl) ∧ Cond.instantiable w.1 w.2.2 ∈ lw_tbl := fun w hw => by
  have h := List.all_eq_true.mp zKn_k w hw
  rw [Bool.and_eq_true] at h
  exact ⟨fun x hx => z_mk_ok (List.all_eq_true.mp h.1 x hx), z_mk_ok h.2⟩
theorem zNs_ink : z_nest.all (fun w => z_mk w lw_tbl && w.onTables) = true := by decide +kernel
theorem zNs_in : ∀ w ∈ z_nest, w ∈ lw_tbl ∧ w.onTables = true := fun w hw => by
  have h := List.all_eq_true.mp zNs_ink w hw
  rw [Bool.and_eq_true] at h
  exact ⟨z_mk_ok h.1, h.2⟩
theorem zXw_ink : z_xw.all (fun w => z_mk w lw_tbl && w.onTables) = true := by decide +kernel
theorem zXw_in : ∀ w ∈ z_xw, w ∈ lw_tbl ∧ w.onTables = true := fun w hw => by
  have h := List.all_eq_true.mp zXw_ink w hw
  rw [Bool.and_eq_true] at h
  exact ⟨z_mk_ok h.1, h.2⟩
theorem zTb_k : ([Cond.laysStatic "java/lang/String" "COMPACT_STRINGS" "Z", .initialized "java/lang/String", .laysStatic "jdk/internal/util/Preconditions" "SIOOBE_FORMATTER" "Ljava/util/function/BiFunction;", .initialized "jdk/internal/util/Preconditions", .laysStatic Bundle.tN "UNASSIGNED_STACK" Bundle.steD, .initialized Bundle.tN, .laysStatic Bundle.tN "SUPPRESSED_SENTINEL" Bundle.listD, .castable "[I" "java/lang/Cloneable", .arrayOver (.object RX2), .arrayClass .int, .arrayClass .byte, .arrayClass .long] : List Cond).all (fun w => z_mk w lw_tbl) = true := by decide +kernel
theorem zTb_in : ∀ w ∈ ([Cond.laysStatic "java/lang/String" "COMPACT_STRINGS" "Z", .initialized "java/lang/String", .laysStatic "jdk/internal/util/Preconditions" "SIOOBE_FORMATTER" "Ljava/util/function/BiFunction;", .initialized "jdk/internal/util/Preconditions", .laysStatic Bundle.tN "UNASSIGNED_STACK" Bundle.steD, .initialized Bundle.tN, .laysStatic Bundle.tN "SUPPRESSED_SENTINEL" Bundle.listD, .castable "[I" "java/lang/Cloneable", .arrayOver (.object RX2), .arrayClass .int, .arrayClass .byte, .arrayClass .long] : List Cond), w ∈ lw_tbl := fun w hw => z_mk_ok (List.all_eq_true.mp zTb_k w hw)
theorem zStr_one {args : Array Value} {s : State} {q : String × Nat × String × List Int32} (hts : ∀ w ∈ lw_tbl, w.before args s = true) (hpr : ∀ w ∈ zPr, w.before args s = true) (hq : q ∈ z_strs) (hlen : q.2.2.2.length < 2 ^ 31) : ∃ a v : Nat, vk_R q.1 q.2.1 q.2.2.1 a s ∧ vk_S 1 [q.2.2.2.length] [q.2.2.2] (fun _ => a) (fun _ => v) (fun q => s.heap.size ≤ q) s s.heap := by
  have hw := fun w h => hpr w (zSw_in hq w h)
  obtain ⟨adK, adV, h1, h2⟩ := vk_Sof (args := args) (s := s) (N := 1) (tm := fun _ => .string q.1 q.2.1) (len := [q.2.2.2.length]) (byt := [q.2.2.2]) (A := fun q => s.heap.size ≤ q)
    (fun i hi => by have : i = 0 := by omega
                    subst this; exact hlen)
    (fun i hi => hw _ (by unfold zSw; exact List.mem_cons_self))
    (fun i hi => hw _ (by unfold zSw; exact List.mem_cons_of_mem _ List.mem_cons_self))
    (fun i hi => hw _ (by unfold zSw; exact List.mem_cons_of_mem _ (List.mem_cons_of_mem _ List.mem_cons_self)))
    (fun i hi => by have : i = 0 := by omega
                    subst this; exact hw _ (by unfold zSw; exact List.mem_cons_of_mem _ (List.mem_cons_of_mem _ (List.mem_cons_of_mem _ List.mem_cons_self))))
    (fun i hi j hj => by have : i = 0 := by omega
                         subst this; exact hw _ (by unfold zSw; exact List.mem_cons_of_mem _ (List.mem_cons_of_mem _ (List.mem_cons_of_mem _ (List.mem_cons_of_mem _ (List.mem_map.mpr ⟨j, List.mem_range.mpr hj, rfl⟩))))))
    (fun i j hi hj hij => by omega) (fun a ha => by show ¬ s.heap.size ≤ a; omega)
  refine ⟨adK 0, adV 0, vk_R.of (hts _ (zSr_in q hq)) (h2 0 (by decide)), fun i hi => ?_, fun i j hi hj _ => by omega⟩
  have : i = 0 := by omega
  subst this
  exact h1.1 0 (by decide)
theorem zArr_one {args : Array Value} {s : State} {ty : FieldType} (h : (Cond.arrayClass ty).before args s = true) : ∃ c, ArrOfT s c ty ∧ s.vm.findClass ("[" ++ ty.toString) = some c := by
  obtain ⟨c, k, comp, h1, h2, h3⟩ := Cond.arrayClass_spec h
  exact ⟨c, fun n z => ⟨fun k h => (by cases h), k, h2, comp, h3⟩, h1⟩
theorem zStr_len : ∀ q ∈ z_strs, q.2.2.2.length < 2 ^ 31 := by decide +kernel
/-- what the machine's start gives for the abstract one's -/
theorem zK_start {args : Array Value} {s : State} {l : Launch} {b L : Nat} {xs : Nat → Int32} (hts : ∀ w ∈ lw_tbl, w.before args s = true) (hpr : ∀ w ∈ zPr, w.before args s = true) (hX : va_X b L xs s s.heap) (hbl : b < s.heap.size) (hst : l.stackTraces = false) : ∃ (D : va_G) (tc : Nat → ClassId) (adK adV : Nat → Nat), z_K l s.heap.size D tc adK adV b (L, xs) s := by
  have hA : ∀ a : Nat, a < s.heap.size → ¬ s.heap.size ≤ a := fun a h => by omega
  have hcl : ∀ c : Nat, ∃ q : ClassId × (Nat → Nat), ∀ w, vwCl[c]? = some w → u_Kn s w.1 w.2.1 w.2.2 q.1 q.2 := by
    intro c
    cases hv : vwCl[c]? with
    | none => exact ⟨(0, fun _ => 0), fun w h => by cases h⟩
    | some w =>
      obtain ⟨k1, k2⟩ := zKn_in w (List.mem_of_getElem? hv)
      obtain ⟨cC, iS, hk⟩ := u_known (N := w.2.2) (n := w.2.2) hts k1 (hts _ k2)
      exact ⟨(cC, iS), fun w9 h9 => by cases h9; exact hk⟩
  obtain ⟨Dq, hD⟩ := Classical.axiomOfChoice hcl
  have hstr : ∀ k : Nat, ∃ q : Nat × Nat, ∀ w, z_strs[k]? = some w → vk_R w.1 w.2.1 w.2.2.1 q.1 s ∧ vk_S 1 [w.2.2.2.length] [w.2.2.2] (fun _ => q.1) (fun _ => q.2) (fun q => s.heap.size ≤ q) s s.heap := by
    intro k
    cases hv : z_strs[k]? with
    | none => exact ⟨(0, 0), fun w h => by cases h⟩
    | some w =>
      have hm := List.mem_of_getElem? hv
      obtain ⟨a, v, h1, h2⟩ := zStr_one hts hpr hm (zStr_len w hm)
      exact ⟨(a, v), fun w9 h9 => by cases h9; exact ⟨h1, h2⟩⟩
  obtain ⟨ad, had⟩ := Classical.axiomOfChoice hstr
  have tb := fun w hw => hts w (zTb_in w hw)
  obtain ⟨c0, p0, q0⟩ := zArr_one (tb (.arrayClass .int) (by simp))
  obtain ⟨c1, p1, q1⟩ := zArr_one (tb (.arrayClass .byte) (by simp))
  obtain ⟨c2, p2, q2⟩ := zArr_one (tb (.arrayClass .long) (by simp))
  obtain ⟨comp, c3, k3, g1, -, g3, g4, g5⟩ := Cond.arrayOver_spec (tb (.arrayOver (.object RX2)) (by simp))
  refine ⟨(fun c => (Dq c).1, fun c => (Dq c).2), fun k => if k = 0 then c0 else if k = 1 then c1 else if k = 2 then c2 else c3, fun k => (ad k).1, fun k => (ad k).2, Nat.le_refl _, ⟨fun c w hw => hD c w hw, fun k w hw => ?_⟩, fun k w hw => had k w hw, ?_, ?_, ?_, va_AO.of (tb (.arrayOver (.object RX2)) (by simp)), hX, hbl, hst, ?_, ?_, ?_, ?_, ?_⟩
  · match k, hw with
    | 0, hw => cases hw; exact ⟨p0, q0⟩
    | 1, hw => cases hw; exact ⟨p1, q1⟩
    | 2, hw => cases hw; exact ⟨p2, q2⟩
    | 3, hw => cases hw; exact ⟨fun n z => ⟨fun k h => (by cases h), k3, g3, comp, g4⟩, k3, comp, g3, g4, g1, g5⟩
    | k + 4, hw => simp [z_tys] at hw
  · exact vx_Zqof (tb _ (by simp)) (tb (.initialized Bundle.tN) (by simp)) (hpr _ zPr_us) hA
  · exact vx_Zqof (tb _ (by simp)) (tb (.initialized Bundle.tN) (by simp)) (hpr _ zPr_ss) hA
  · exact fun w hw => va_Nw.of (zNs_in w hw).2 (hts w (zNs_in w hw).1)
  · exact va_Zof (tb _ (by simp)) (tb (.initialized "java/lang/String") (by simp)) (va_eqt (hpr _ zPr_cs)) hA
  · exact va_Zqof (tb _ (by simp)) (tb (.initialized "jdk/internal/util/Preconditions") (by simp)) (hpr _ zPr_si) hA
  · exact va_Nw.of rfl (tb (.castable "[I" "java/lang/Cloneable") (by simp))
  · exact fun a ha b hb hab => va_Nc.of (hpr _ (zPr_nc a ha b hb hab))
  · exact fun w hw => va_Nw.of (zXw_in w hw).2 (hts w (zXw_in w hw).1)
