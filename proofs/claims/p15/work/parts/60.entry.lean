section
/-! WHAT THE START GIVES: the words of the Statement's premises, the classes, the texts, the script -/
noncomputable def zPr : List Cond := flatC (Jvm.Cond.and given_1 narrow_1)
theorem zPr_nc : ∀ a ∈ z_excs, ∀ b ∈ z_excs, a ≠ b → Cond.not (.castable a b) ∈ zPr := by decide +kernel
theorem zPr_cs : Cond.eq (.static "java/lang/String" "COMPACT_STRINGS" "Z") (.int 1) ∈ zPr := List.mem_of_getElem? (i := 4) (by decide +kernel)
theorem zPr_si : Cond.isRef (.static "jdk/internal/util/Preconditions" "SIOOBE_FORMATTER" "Ljava/util/function/BiFunction;") ∈ zPr := List.mem_of_getElem? (i := 5) (by decide +kernel)
theorem zPr_us : Cond.isRef (.static Bundle.tN "UNASSIGNED_STACK" Bundle.steD) ∈ zPr := List.mem_of_getElem? (i := 9) (by decide +kernel)
theorem zPr_ss : Cond.isRef (.static Bundle.tN "SUPPRESSED_SENTINEL" Bundle.listD) ∈ zPr := List.mem_of_getElem? (i := 10) (by decide +kernel)
noncomputable def zSt_ (q : String × Nat × String × List Int32) : Term := .field (.string q.1 q.2.1) "java/lang/String" "value" "[B"
noncomputable def zSw (q : String × Nat × String × List Int32) : List Cond := .exactly (.string q.1 q.2.1) "java/lang/String" :: .eq (.field (.string q.1 q.2.1) "java/lang/String" "coder" "B") (.int 0) :: .arrayOf (zSt_ q) .byte :: .eq (.length (zSt_ q)) (.int (Int32.ofNat q.2.2.2.length)) :: (List.range q.2.2.2.length).map (fun j => .eq (.elem (zSt_ q) (.int (Int32.ofNat j))) (.int (q.2.2.2.getD j 0)))
noncomputable def zStP : List Nat := [218, 251, 408, 606, 440, 465, 526, 492, 584, 552, 568, 81, 142, 117, 167, 132, 175, 183, 191, 200, 210, 91, 100, 108, 151, 159, 126, 307, 281, 289, 298, 395, 402, 313, 320, 329, 339, 350, 359, 367, 375, 386, 692, 652, 662, 672, 682, 699, 729, 738, 640, 710, 719, 748, 757, 767, 777, 788, 843, 852, 861, 822, 832, 814, 873, 881, 798, 807]
noncomputable def zSwk : List (String × Nat × String × List Int32) → List Nat → Bool
  | [], [] => true
  | q :: qs, i :: is => decide ((zPr.drop i).take (4 + q.2.2.2.length) = zSw q) && zSwk qs is
  | _, _ => false
theorem zSwk_at : ∀ {qs : List (String × Nat × String × List Int32)} {is : List Nat}, zSwk qs is = true → ∀ q ∈ qs, ∀ w ∈ zSw q, w ∈ zPr
  | [], [], _, q, hq, _, _ => by cases hq
  | q0 :: qs, i :: is, h, q, hq, w, hw => by
    rw [zSwk, Bool.and_eq_true, decide_eq_true_eq] at h
    rcases List.mem_cons.mp hq with rfl | hq
    · rw [← h.1] at hw
      exact List.mem_of_mem_drop (List.mem_of_mem_take hw)
    · exact zSwk_at h.2 q hq w hw
theorem zSwk_1 : zSwk (z_strs.take 17) (zStP.take 17) = true := by decide +kernel
theorem zSwk_2 : zSwk ((z_strs.drop 17).take 17) ((zStP.drop 17).take 17) = true := by decide +kernel
theorem zSwk_3 : zSwk ((z_strs.drop 34).take 17) ((zStP.drop 34).take 17) = true := by decide +kernel
theorem zSwk_4 : zSwk (z_strs.drop 51) (zStP.drop 51) = true := by decide +kernel
theorem zSw_in {q : String × Nat × String × List Int32} (hq : q ∈ z_strs) : ∀ w ∈ zSw q, w ∈ zPr := by
  have e : z_strs = z_strs.take 17 ++ ((z_strs.drop 17).take 17 ++ ((z_strs.drop 34).take 17 ++ z_strs.drop 51)) := by
    rw [show z_strs.drop 51 = (z_strs.drop 34).drop 17 by rw [List.drop_drop], List.take_append_drop, show z_strs.drop 34 = (z_strs.drop 17).drop 17 by rw [List.drop_drop], List.take_append_drop, List.take_append_drop]
  rw [e] at hq
  rcases List.mem_append.mp hq with h | h
  · exact zSwk_at zSwk_1 q h
  rcases List.mem_append.mp h with h | h
  · exact zSwk_at zSwk_2 q h
  rcases List.mem_append.mp h with h | h
  · exact zSwk_at zSwk_3 q h
  · exact zSwk_at zSwk_4 q h
theorem zSr_k : z_strs.all (fun q => z_mk (Cond.stringRef q.1 q.2.1 q.2.2.1) lw_tbl) = true := by decide +kernel
theorem zSr_in : ∀ q ∈ z_strs, Cond.stringRef q.1 q.2.1 q.2.2.1 ∈ lw_tbl := fun q hq => z_mk_ok (List.all_eq_true.mp zSr_k q hq)
theorem zKn_k : vwCl.all (fun w => (u_ws w.1 w.2.1 w.2.2).all (fun x => z_mk x lw_tbl) && z_mk (Cond.instantiable w.1 w.2.2) lw_tbl) = true := by decide +kernel
theorem zKn_in : ∀ w ∈ vwCl, (∀ x ∈ u_ws w.1 w.2.1 w.2.2, x ∈ lw_tbl) ∧ Cond.instantiable w.1 w.2.2 ∈ lw_tbl := fun w hw => by
  have h := List.all_eq_true.mp zKn_k w hw
  rw [Bool.and_eq_true] at h
  exact ⟨fun x hx => z_mk_ok (List.all_eq_true.mp h.1 x hx), z_mk_ok h.2⟩
theorem zNs_ink : z_nest.all (fun w => z_mk w lw_tbl && w.onTables) = true := by decide +kernel
theorem zNs_in : ∀ w ∈ z_nest, w ∈ lw_tbl ∧ w.onTables = true := fun w hw => by
  have h := List.all_eq_true.mp zNs_ink w hw
  rw [Bool.and_eq_true] at h
  exact ⟨z_mk_ok h.1, h.2⟩
theorem zXw_ink : z_xw.all (fun w => z_mk w lw_tbl && w.onTables) = true := by decide +kernel
theorem zXw_in : ∀ w ∈ z_xw, w ∈ lw_tbl ∧ w.onTables = true := fun w hw => by
  have h := List.all_eq_true.mp zXw_ink w hw
  rw [Bool.and_eq_true] at h
  exact ⟨z_mk_ok h.1, h.2⟩
theorem zTb_k : ([Cond.laysStatic "java/lang/String" "COMPACT_STRINGS" "Z", .initialized "java/lang/String", .laysStatic "jdk/internal/util/Preconditions" "SIOOBE_FORMATTER" "Ljava/util/function/BiFunction;", .initialized "jdk/internal/util/Preconditions", .laysStatic Bundle.tN "UNASSIGNED_STACK" Bundle.steD, .initialized Bundle.tN, .laysStatic Bundle.tN "SUPPRESSED_SENTINEL" Bundle.listD, .castable "[I" "java/lang/Cloneable", .arrayOver (.object RX2), .arrayClass .int, .arrayClass .byte, .arrayClass .long] : List Cond).all (fun w => z_mk w lw_tbl) = true := by decide +kernel
theorem zTb_in : ∀ w ∈ ([Cond.laysStatic "java/lang/String" "COMPACT_STRINGS" "Z", .initialized "java/lang/String", .laysStatic "jdk/internal/util/Preconditions" "SIOOBE_FORMATTER" "Ljava/util/function/BiFunction;", .initialized "jdk/internal/util/Preconditions", .laysStatic Bundle.tN "UNASSIGNED_STACK" Bundle.steD, .initialized Bundle.tN, .laysStatic Bundle.tN "SUPPRESSED_SENTINEL" Bundle.listD, .castable "[I" "java/lang/Cloneable", .arrayOver (.object RX2), .arrayClass .int, .arrayClass .byte, .arrayClass .long] : List Cond), w ∈ lw_tbl := fun w hw => z_mk_ok (List.all_eq_true.mp zTb_k w hw)
theorem zStr_one {args : Array Value} {s : State} {q : String × Nat × String × List Int32} (hts : ∀ w ∈ lw_tbl, w.before args s = true) (hpr : ∀ w ∈ zPr, w.before args s = true) (hq : q ∈ z_strs) (hlen : q.2.2.2.length < 2 ^ 31) : ∃ a v : Nat, vk_R q.1 q.2.1 q.2.2.1 a s ∧ vk_S 1 [q.2.2.2.length] [q.2.2.2] (fun _ => a) (fun _ => v) (fun q => s.heap.size ≤ q) s s.heap := by
  have hw := fun w h => hpr w (zSw_in hq w h)
  obtain ⟨adK, adV, h1, h2⟩ := vk_Sof (args := args) (s := s) (N := 1) (tm := fun _ => .string q.1 q.2.1) (len := [q.2.2.2.length]) (byt := [q.2.2.2]) (A := fun q => s.heap.size ≤ q)
    (fun i hi => by have : i = 0 := by omega
                    subst this; exact hlen)
    (fun i hi => hw _ (by unfold zSw; exact List.mem_cons_self))
    (fun i hi => hw _ (by unfold zSw; exact List.mem_cons_of_mem _ List.mem_cons_self))
    (fun i hi => hw _ (by unfold zSw; exact List.mem_cons_of_mem _ (List.mem_cons_of_mem _ List.mem_cons_self)))
    (fun i hi => by have : i = 0 := by omega
                    subst this; exact hw _ (by unfold zSw; exact List.mem_cons_of_mem _ (List.mem_cons_of_mem _ (List.mem_cons_of_mem _ List.mem_cons_self))))
    (fun i hi j hj => by have : i = 0 := by omega
                         subst this; exact hw _ (by unfold zSw; exact List.mem_cons_of_mem _ (List.mem_cons_of_mem _ (List.mem_cons_of_mem _ (List.mem_cons_of_mem _ (List.mem_map.mpr ⟨j, List.mem_range.mpr hj, rfl⟩))))))
    (fun i j hi hj hij => by omega) (fun a ha => by show ¬ s.heap.size ≤ a; omega)
  refine ⟨adK 0, adV 0, vk_R.of (hts _ (zSr_in q hq)) (h2 0 (by decide)), fun i hi => ?_, fun i j hi hj _ => by omega⟩
  have : i = 0 := by omega
  subst this
  exact h1.1 0 (by decide)
theorem zArr_one {args : Array Value} {s : State} {ty : FieldType} (h : (Cond.arrayClass ty).before args s = true) : ∃ c, ArrOfT s c ty ∧ s.vm.findClass ("[" ++ ty.toString) = some c := by
  obtain ⟨c, k, comp, h1, h2, h3⟩ := Cond.arrayClass_spec h
  exact ⟨c, fun n z => ⟨fun k h => (by cases h), k, h2, comp, h3⟩, h1⟩
theorem zStr_len : ∀ q ∈ z_strs, q.2.2.2.length < 2 ^ 31 := by decide +kernel
/-- what the machine's start gives for the abstract one's -/
theorem zK_start {args : Array Value} {s : State} {l : Launch} {b L : Nat} {xs : Nat → Int32} (hts : ∀ w ∈ lw_tbl, w.before args s = true) (hpr : ∀ w ∈ zPr, w.before args s = true) (hX : va_X b L xs s s.heap) (hbl : b < s.heap.size) (hst : l.stackTraces = false) : ∃ (D : va_G) (tc : Nat → ClassId) (adK adV : Nat → Nat), z_K l s.heap.size D tc adK adV b (L, xs) s := by
  have hA : ∀ a : Nat, a < s.heap.size → ¬ s.heap.size ≤ a := fun a h => by omega
  have hcl : ∀ c : Nat, ∃ q : ClassId × (Nat → Nat), ∀ w, vwCl[c]? = some w → u_Kn s w.1 w.2.1 w.2.2 q.1 q.2 := by
    intro c
    cases hv : vwCl[c]? with
    | none => exact ⟨(0, fun _ => 0), fun w h => by cases h⟩
    | some w =>
      obtain ⟨k1, k2⟩ := zKn_in w (List.mem_of_getElem? hv)
      obtain ⟨cC, iS, hk⟩ := u_known (N := w.2.2) (n := w.2.2) hts k1 (hts _ k2)
      exact ⟨(cC, iS), fun w9 h9 => by cases h9; exact hk⟩
  obtain ⟨Dq, hD⟩ := Classical.axiomOfChoice hcl
  have hstr : ∀ k : Nat, ∃ q : Nat × Nat, ∀ w, z_strs[k]? = some w → vk_R w.1 w.2.1 w.2.2.1 q.1 s ∧ vk_S 1 [w.2.2.2.length] [w.2.2.2] (fun _ => q.1) (fun _ => q.2) (fun q => s.heap.size ≤ q) s s.heap := by
    intro k
    cases hv : z_strs[k]? with
    | none => exact ⟨(0, 0), fun w h => by cases h⟩
    | some w =>
      have hm := List.mem_of_getElem? hv
      obtain ⟨a, v, h1, h2⟩ := zStr_one hts hpr hm (zStr_len w hm)
      exact ⟨(a, v), fun w9 h9 => by cases h9; exact ⟨h1, h2⟩⟩
  obtain ⟨ad, had⟩ := Classical.axiomOfChoice hstr
  have tb := fun w hw => hts w (zTb_in w hw)
  obtain ⟨c0, p0, q0⟩ := zArr_one (tb (.arrayClass .int) (by simp))
  obtain ⟨c1, p1, q1⟩ := zArr_one (tb (.arrayClass .byte) (by simp))
  obtain ⟨c2, p2, q2⟩ := zArr_one (tb (.arrayClass .long) (by simp))
  obtain ⟨comp, c3, k3, g1, -, g3, g4, g5⟩ := Cond.arrayOver_spec (tb (.arrayOver (.object RX2)) (by simp))
  refine ⟨(fun c => (Dq c).1, fun c => (Dq c).2), fun k => if k = 0 then c0 else if k = 1 then c1 else if k = 2 then c2 else c3, fun k => (ad k).1, fun k => (ad k).2, Nat.le_refl _, ⟨fun c w hw => hD c w hw, fun k w hw => ?_⟩, fun k w hw => had k w hw, ?_, ?_, ?_, va_AO.of (tb (.arrayOver (.object RX2)) (by simp)), hX, hbl, hst, ?_, ?_, ?_, ?_, ?_⟩
  · match k, hw with
    | 0, hw => cases hw; exact ⟨p0, q0⟩
    | 1, hw => cases hw; exact ⟨p1, q1⟩
    | 2, hw => cases hw; exact ⟨p2, q2⟩
    | 3, hw => cases hw; exact ⟨fun n z => ⟨fun k h => (by cases h), k3, g3, comp, g4⟩, k3, comp, g3, g4, g1, g5⟩
    | k + 4, hw => simp [z_tys] at hw
  · exact vx_Zqof (tb _ (by simp)) (tb (.initialized Bundle.tN) (by simp)) (hpr _ zPr_us) hA
  · exact vx_Zqof (tb _ (by simp)) (tb (.initialized Bundle.tN) (by simp)) (hpr _ zPr_ss) hA
  · exact fun w hw => va_Nw.of (zNs_in w hw).2 (hts w (zNs_in w hw).1)
  · exact va_Zof (tb _ (by simp)) (tb (.initialized "java/lang/String") (by simp)) (va_eqt (hpr _ zPr_cs)) hA
  · exact va_Zqof (tb _ (by simp)) (tb (.initialized "jdk/internal/util/Preconditions") (by simp)) (hpr _ zPr_si) hA
  · exact va_Nw.of rfl (tb (.castable "[I" "java/lang/Cloneable") (by simp))
  · exact fun a ha b hb hab => va_Nc.of (hpr _ (zPr_nc a ha b hb hab))
  · exact fun w hw => va_Nw.of (zXw_in w hw).2 (hts w (zXw_in w hw).1)
end
section
/-! THE LAW's METHOD out of its run -/
noncomputable def R_law : String := "ClockSharesLaw"
noncomputable def lw_P (b : Addr) (xs : List Int32) (args : Array Value) (s : State) : Prop := args = #[.ref b] ∧ s.IntsAt b xs ∧ xs.length ≤ 3072 ∧ (Jvm.Cond.and given_1 narrow_1).before args s = true
noncomputable def lw_Q (_ : Array Value) (s : State) (o : Outcome) (t : State) : Prop := o = .returned (some (.int 1)) ∧ Framed s o t [] 601024 7293034
noncomputable def lw_Z (below : List Frame) (a : Array Value) (s : State) : State → Prop := fun t => ∃ o, t.status = .running ∧ Ended t below o ∧ lw_Q a s o t
/-- the law's own end, with 1 on the stack, nothing written that was there before, its room as the claim has it -/
theorem lw_ret {p : Program} {l : Launch} {e : Env} {s : State} {m : MethodId} {below : List Frame} {meth : Method} {c : Code} {b : Nat} (hx : p.tables.exec = Jvm.exec) (hb : c.code = code) (hr : meth.sig.returnType = ret) (hlocks : meth.locks = false) {pc : Nat} {H : Heap} {ls : Array Slot} (hdg : decode code pc = .ok (.ireturn, 1)) : W p l e room_1 s m #[Value.ref b] below meth c H [] 601024 7293034 (lw_Z below #[Value.ref b] s) (F0 m pc ls [.int 1]) := by
  intro T hT X
  obtain ⟨fs, hret, hrun, hended, hW, hframe⟩ := X.leave (v := some (.int 1)) (hlocks := hlocks) (fun h => by rw [hr] at h; cases h)
  have hmeth' : T.vm.method? m = some meth := X.method'
  refine ⟨T.setFrames fs, ?_, .returned (some (.int 1)), hrun, hended, rfl, ⟨_, rfl⟩, hW, hframe⟩
  jvm_step X.here [X.here.top, hx, hb, hdg, hmeth', hr, ret, narrow_b1]
  (try refine ⟨rfl, ?_⟩); (try refine ⟨rfl, ?_⟩)
  first | (intro acts; rw [hret _ acts rfl rfl rfl]) | rw [hret _ _ rfl rfl rfl]
  exact Steps.refl _
/-- what holds at the law's entry: the machine, the code, the tables' words (any of lw_tbl by 'hts w (by decide +kernel)'), the script of L ints xs at the cell b, what the Statement gives of the start (any of its parts by flat_of_before) -/
noncomputable def lw_At (p : Program) (s : State) (m : MethodId) (meth : Method) (c : Code) (b L : Nat) (xs : Nat → Int32) : Prop :=
  p.tables.exec = Jvm.exec ∧ c.code = code ∧ meth.sig.returnType = ret ∧ c.maxLocals = 7 ∧ s.vm.findClass R_law = some m.cls ∧ (∀ w ∈ lw_tbl, w.before #[Value.ref b] s = true) ∧ va_X b L xs s s.heap ∧ b < s.heap.size ∧ meth.locks = false ∧ (Jvm.Cond.and given_1 narrow_1).before #[Value.ref b] s = true
theorem z_fin_one {M : zMi} {i : zI} {d x y : Nat} {st : List Value} (h : z_fin M i d st = some (.inl (some (.int 1)), x, y)) : i.1 = 50 ∧ st = [.int 1] ∧ x = 0 ∧ y = 0 := by
  unfold z_fin at h
  split at h
  · next r hi1 =>
    split at h
    · split at h
      · simp only [Option.some.injEq, Prod.mk.injEq, Sum.inl.injEq, Value.int.injEq] at h
        obtain ⟨rfl, rfl, rfl⟩ := h
        exact ⟨hi1, rfl, rfl, rfl⟩
      · cases h
    · cases h
  · simp at h
  · simp at h
  · simp at h
  · split at h
    · simp at h
    · cases h
  · cases h
theorem zA0_of (adK : Nat → Nat) (b : Nat) : z_A0 adK b (fun i => if i = zS then b else adK (i - zB)) := by
  refine ⟨fun k hk => ?_, if_pos rfl⟩
  have hl : z_strs.length = 68 := by decide +kernel
  have e1 : zB = 1048576 := rfl
  have e2 : zS = 2097152 := rfl
  have hne : ¬ zB + k = zS := by omega
  show (if zB + k = zS then b else adK (zB + k - zB)) = adK k
  rw [if_neg hne, (zadd_sub zB k).2]
set_option maxHeartbeats 4000000 in
theorem z_law {p : Program} {l : Launch} {e : Env} {s : State} {m : MethodId} {below : List Frame} {meth : Method} {c : Code} (hOK : z_OK) (hLEN : z_LEN) (hst : l.stackTraces = false) {b L : Nat} {xs : Nat → Int32} (C0 : lw_At p s m meth c b L xs) (htab : c.exceptionTable.toList = []) (hnm : meth.name = "law") {n d : Nat} {hF : zH} {x y : Nat} (hrun : z_run (L, xs) n d 343 0 [(0, .ref zS)] [] [] = some (.inl (some (.int 1)), hF, x, y)) (hd : d ≤ 1400) (hxx : x ≤ 601024) (hyy : y ≤ 7293034) : W p l e room_1 s m #[Value.ref b] below meth c s.heap [] 0 0 (lw_Z below #[Value.ref b] s) (entryFrame m ([Value.ref b] : List Value).toArray 7) := by
  obtain ⟨hx, hb, hr, hml, hown, hts, hX, hbl, hlocks, hgv⟩ := C0
  have hpr := flat_of_before _ hgv
  obtain ⟨D, tc, adK, adV, hK⟩ := zK_start (l := l) hts hpr hX hbl hst
  have hB := z_sound hOK hLEN (L, xs) n d 343 0 _ _ _ _ _ x y hrun
  have hA := zA0_of adK b
  generalize (fun i => if i = zS then b else adK (i - zB)) = ad0 at hA
  have hFr : z_Fr p s m #[Value.ref b] meth c z_m343 := ⟨hx, hb, hml, hr, hown, fun w hw => hts w (List.mem_filter.mp hw).1, hlocks, by rw [htab]; rfl, hnm⟩
  have hRm : z_Rm room_1 d x y := ⟨by show d ≤ 2048; omega, by show 60 * d ≤ 84000; omega, hxx, hyy⟩
  have hR : z_R s.heap.size D tc ad0 [] s.heap := ⟨fun k q h => by simp [z_ws] at h, ⟨fun i j p q h => by simp [z_ws] at h, fun k q h => by simp [z_ws] at h⟩, fun e h => by simp at h, Nat.zero_le _⟩
  have hl := lv_entry ([Value.ref b]) (n := 7) (Nat.le_of_ble_eq_true rfl)
  rw [lg_entry_eq]
  generalize (lg_sl ([Value.ref b]) ++ List.replicate (7 - (lg_sl ([Value.ref b])).length) Slot.unset).toArray = ls at hl ⊢
  have hl2 : lv_has ls z_m343.2.2.2.1 (z_tl ad0 [(0, .ref zS)]) := by
    have : z_tl ad0 [(0, Value.ref zS)] = [(0, .ref b)] := by
      show [(0, Value.ref (ad0 zS))] = _
      rw [hA.2]
    rw [this]
    exact hl
  have HR : z_HR p l e room_1 s m #[Value.ref b] below meth c s.heap.size D tc z_m343 z_c343 z_i343 z_h343 ad0 0 x y (lw_Z below #[Value.ref b] s) d (.inl (some (.int 1))) hF := by
    intro k i q lo st x1 y1 hi hq hck hfin
    obtain ⟨h50, rfl, rfl, rfl⟩ := z_fin_one hfin
    intro ad H locs ls cells slots q1 q2 q3 q4 q5 q6 q7 q8 q9
    have hnx : z_nxOf z_i343 k = q.1 := by unfold z_nxOf; rw [hq]; rfl
    unfold z_ckA at hck
    rw [Bool.or_eq_true, Bool.and_eq_true] at hck
    rcases hck with h99 | ⟨hd9, hck⟩
    · rw [decide_eq_true_eq, h50] at h99; cases h99
    have hd9 := of_decide_eq_true hd9
    rw [z_ckB50 h50] at hck
    split at hck
    case h_2 => cases hck
    next hins =>
    rw [hins, of_decide_eq_true hck] at hd9
    rw [hnx]
    refine va_forget (fun z hz => q4.2.2 z hz) (W.widen (k := 601024) (n := 7293034) (by omega) (by omega) ?_)
    exact lw_ret hx hb hr hlocks hd9
  have HX : z_HX p l e room_1 s m #[Value.ref b] below meth c s.heap.size D tc z_i343 z_h343 ad0 0 x y (lw_Z below #[Value.ref b] s) (.inl (some (.int 1))) hF := by
    intro x9 E9 ho
    cases ho
  have kk := hB p l e room_1 s m #[Value.ref b] below meth c s.heap.size D tc adK adV b z_m343 z_c343 z_i343 z_h343 ad0 0 x y (lw_Z below #[Value.ref b] s) rfl rfl rfl rfl hFr hK hA hRm HR HX ad0 s.heap [] ls 0 0 hR z_ag.rf (Nat.le_refl _) va_S.rf hl2 (fun q hq => by
    rw [List.mem_singleton.mp hq]
    intro i hi
    cases hi
    exact Or.inr (by show zB ≤ zS; decide)) (fun v hv => by cases hv) (Nat.zero_add _) (Nat.zero_add _)
  have z_i343_0 : z_nxOf z_i343 0 = 0 := by decide +kernel
  rw [z_i343_0] at kk
  exact kk
end
section
/-! THE CHECKER, quicker: numbers and rows of a state brought to their plain forms between two steps -/
theorem zst_c {β : Type} (n : Nat) (a b c d e f : β) : cond (Nat.ble n 29) f (if n = 54 ∨ n = 55 ∨ n = 72 then a else if 30 ≤ n ∧ n ≤ 33 then b else if n = 35 ∨ n = 36 then c else if 50 ≤ n ∧ n ≤ 53 then d else if n = 62 then e else f) = (if n = 54 ∨ n = 55 ∨ n = 72 then a else if 30 ≤ n ∧ n ≤ 33 then b else if n = 35 ∨ n = 36 then c else if 50 ≤ n ∧ n ≤ 53 then d else if n = 62 then e else f) := by
  cases h : Nat.ble n 29 with
  | false => rfl
  | true =>
    have q := Nat.le_of_ble_eq_true h
    show f = _
    rw [if_neg (by omega), if_neg (by omega), if_neg (by omega), if_neg (by omega), if_neg (by omega)]
noncomputable def zstepF (tt : Nat → zTy) (cts : List zCt) (cand : List (List Nat)) (own : Nat) (ct : zCt) (env : List zEn) (me : List zMe) (j k : Nat) (loc : zLs) (stk : List Nat) (fs : List zAf) (X Y : Nat) : Option (List zSt) := match zlku z_ms j, zlku z_cs j, zlku z_hs j with
    | some M, some cs, some _ => (match zlku cs k with
      | none => none
      | some i => cond (Nat.ble i.1 29) (zt_op tt ct i env me j k loc stk fs X Y) (if i.1 = 54 ∨ i.1 = 55 ∨ i.1 = 72 then zt_call tt cts cand own ct i env me j k loc stk fs X Y
        else if 30 ≤ i.1 ∧ i.1 ≤ 33 then zt_if i env me j k loc stk fs X Y
        else if i.1 = 35 ∨ i.1 = 36 then zt_sw i env me j loc stk fs X Y
        else if 50 ≤ i.1 ∧ i.1 ≤ 53 then zt_ret ct M i env me stk fs X Y
        else if i.1 = 62 then zt_thr ct i env me stk fs X Y
        else zt_op tt ct i env me j k loc stk fs X Y))
    | _, _, _ => none
theorem zstepF_eq {tt : Nat → zTy} {cts : List zCt} {cand : List (List Nat)} {own : Nat} {ct : zCt} {env : List zEn} {me : List zMe} {j k : Nat} {loc : zLs} {stk : List Nat} {fs : List zAf} {X Y : Nat} : zstep tt cts cand own ct (env, me, (j, k, loc, stk) :: fs, X, Y) = zstepF tt cts cand own ct env me j k loc stk fs X Y := by
  have e : zstep tt cts cand own ct (env, me, (j, k, loc, stk) :: fs, X, Y) = (match z_ms[j]?, z_cs[j]?, z_hs[j]? with
    | some M, some cs, some _ => (match cs[k]? with
      | none => none
      | some i => if i.1 = 54 ∨ i.1 = 55 ∨ i.1 = 72 then zt_call tt cts cand own ct i env me j k loc stk fs X Y
        else if 30 ≤ i.1 ∧ i.1 ≤ 33 then zt_if i env me j k loc stk fs X Y
        else if i.1 = 35 ∨ i.1 = 36 then zt_sw i env me j loc stk fs X Y
        else if 50 ≤ i.1 ∧ i.1 ≤ 53 then zt_ret ct M i env me stk fs X Y
        else if i.1 = 62 then zt_thr ct i env me stk fs X Y
        else zt_op tt ct i env me j k loc stk fs X Y)
    | _, _, _ => none) := rfl
  rw [e]
  unfold zstepF
  rw [zlku_eq, zlku_eq, zlku_eq]
  cases z_ms[j]? with
  | none => rfl
  | some M =>
    cases z_cs[j]? with
    | none => rfl
    | some cs =>
      cases z_hs[j]? with
      | none => rfl
      | some hs =>
        dsimp only
        rw [zlku_eq]
        cases cs[k]? with
        | none => rfl
        | some i => exact (zst_c _ _ _ _ _ _ _).symm
noncomputable def zanyb (k : Nat) (l : List zCut) : Bool := List.rec (motive := fun _ => Bool) false (fun c _ ih => cond (Nat.beq c.1 k) true ih) l
theorem zanyb_eq {k : Nat} : ∀ {l : List zCut}, zanyb k l = l.any (fun c => c.1 == k)
  | [] => rfl
  | c :: t => by
    show cond (Nat.beq c.1 k) true (zanyb k t) = ((c.1 == k) || t.any (fun c => c.1 == k))
    rw [znb, zanyb_eq (l := t)]
    cases Nat.beq c.1 k <;> rfl
noncomputable def zatF (ct : zCt) (s : zSt) : Bool := match s.2.2.1 with
  | [f] => zanyb f.2.1 (zcC ct)
  | _ => false
theorem zatF_eq {ct : zCt} : ∀ {s : zSt}, zatF ct s = zat ct s
  | (_, _, [], _, _) => rfl
  | (_, _, [_], _, _) => zanyb_eq
  | (_, _, _ :: _ :: _, _, _) => rfl
noncomputable def zxf (tt : Nat → zTy) (cts : List zCt) (cand : List (List Nat)) (own : Nat) (ct : zCt) (src : Option zCut) : Nat → zSt → Bool
  | 0, _ => false
  | n + 1, s => match s.2.2.1 with
    | [] => false
    | f :: fs => zspn s.1 fun env => zspn s.2.1 fun me => zlit f.1 fun j => zlit f.2.1 fun k => zspn f.2.2.1 fun loc => zspn f.2.2.2 fun stk => zlit s.2.2.2.1 fun X => zlit s.2.2.2.2 fun Y => match zstepF tt cts cand own ct env me j k loc stk fs X Y with
      | none => false
      | some l => l.all (fun s' => if zatF ct s' = true then zhit tt ct src s' else zxf tt cts cand own ct src n s')
theorem zxf_eq {tt : Nat → zTy} {cts : List zCt} {cand : List (List Nat)} {own : Nat} {ct : zCt} {src : Option zCut} : ∀ (n : Nat) (s : zSt), zxf tt cts cand own ct src n s = zx tt cts cand own ct src n s
  | 0, _ => rfl
  | n + 1, (env, me, [], X, Y) => rfl
  | n + 1, (env, me, (j, k, loc, stk) :: fs, X, Y) => by
    have ih : zxf tt cts cand own ct src n = zx tt cts cand own ct src n := funext fun s => zxf_eq n s
    rw [zx, zstepF_eq, zxf]
    simp only [zspn_eq, zlit_eq, ih, zatF_eq]
    cases zstepF tt cts cand own ct env me j k loc stk fs X Y <;> rfl
noncomputable def zckF (tt : Nat → zTy) (cts : List zCt) (cand : List (List Nat)) (own : Nat) (ct : zCt) (N fuel : Nat) : Bool :=
  (zcC ct).all (fun c => decide (c.2.2.2.length = N)) && ((if zat ct (zc_st ct (zc_0 ct)) = true then zhit tt ct none (zc_st ct (zc_0 ct)) else zxf tt cts cand own ct none fuel (zc_st ct (zc_0 ct))) && (zcC ct).all (fun c => zxf tt cts cand own ct (some c) fuel (zc_st ct c)))
theorem zckF_ok {tt : Nat → zTy} {cts : List zCt} {cand : List (List Nat)} {own : Nat} {ct : zCt} {N fuel : Nat} (h : zckF tt cts cand own ct N fuel = true) : zck tt cts cand own ct N fuel = true := by
  unfold zckF at h
  unfold zck
  simp only [zxf_eq] at h
  exact h
end
