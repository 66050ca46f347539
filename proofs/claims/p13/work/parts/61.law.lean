/-! THE LAW's METHOD out of its run -/
noncomputable def R_law : String := "ClockSharesLaw"
noncomputable def lw_P (b : Addr) (xs : List Int32) (args : Array Value) (s : State) : Prop := args = #[.ref b] ∧ s.IntsAt b xs ∧ xs.length ≤ 3072 ∧ (Jvm.Cond.and given_1 narrow_1).before args s = true
noncomputable def lw_Q (_ : Array Value) (s : State) (o : Outcome) (t : State) : Prop := o = .returned (some (.int 1)) ∧ Framed s o t [] 601024 7293034
noncomputable def lw_Z (below : List Frame) (a : Array Value) (s : State) : State → Prop := fun t => ∃ o, t.status = .running ∧ Ended t below o ∧ lw_Q a s o t
/-- the law's own end, with 1 on the stack, nothing written that was there before, its room as the claim has it -/
theorem lw_ret {p : Program} {l : Launch} {e : Env} {s : State} {m : MethodId} {below : List Frame} {meth : Method} {c : Code} {b : Nat} (hx : p.tables.exec = Jvm.exec) (hb : c.code = code) (hr : meth.sig.returnType = ret) (hlocks : meth.locks = false) {pc : Nat} {H : Heap} {ls : Array Slot} (hdg : decode code pc = .ok (.ireturn, 1)) : W p l e room_1 s m #[Value.ref b] below meth c H [] 601024 7293034 (lw_Z below #[Value.ref b] s) (F0 m pc ls [.int 1]) := by
  intro T hT X
  obtain ⟨fs, hret, hrun, hended, hW, hframe⟩ := X.leave (v := some (.int 1)) (hlocks := hlocks) (fun h => by rw [hr] at h; cases h)
  have hmeth' : T.vm.method? m = some meth := X.method'
  refine ⟨T.setFrames fs, ?_, .returned (some (.int 1)), hrun, hended, rfl, ⟨_, rfl⟩, hW, hframe⟩
  jvm_step X.here [X.here.top, hx, hb, hdg, hmeth', hr, ret, narrow_b1]
  (try refine ⟨rfl, ?_⟩); (try refine ⟨rfl, ?_⟩)
  first | (intro acts; rw [hret _ acts rfl rfl rfl]) | rw [hret _ _ rfl rfl rfl]
  exact Steps.refl _
/-- what holds at the law's entry: the machine, the code, the tables' words (any of lw_tbl by 'hts w (by decide +kernel)'), the script of L ints xs at the cell b, what the Statement gives of the start (any of its parts by flat_of_before) -/
noncomputable def lw_At (p : Program) (s : State) (m : MethodId) (meth : Method) (c : Code) (b L : Nat) (xs : Nat → Int32) : Prop :=
  p.tables.exec = Jvm.exec ∧ c.code = code ∧ meth.sig.returnType = ret ∧ c.maxLocals = 7 ∧ s.vm.findClass R_law = some m.cls ∧ (∀ w ∈ lw_tbl, w.before #[Value.ref b] s = true) ∧ va_X b L xs s s.heap ∧ b < s.heap.size ∧ meth.locks = false ∧ (Jvm.Cond.and given_1 narrow_1).before #[Value.ref b] s = true
theorem z_fin_one {M : zMi} {i : zI} {d x y : Nat} {st : List Value} (h : z_fin M i d st = some (.inl (some (.int 1)), x, y)) : i.1 = 50 ∧ st = [.int 1] ∧ x = 0 ∧ y = 0 := by
  unfold z_fin at h
  split at h
  · next r hi1 =>
    split at h
    · split at h
      · simp only [Option.some.injEq, Prod.mk.injEq, Sum.inl.injEq, Value.int.injEq] at h
        obtain ⟨rfl, rfl, rfl⟩ := h
        exact ⟨hi1, rfl, rfl, rfl⟩
      · cases h
    · cases h
  · simp at h
  · simp at h
  · simp at h
  · split at h
    · simp at h
    · cases h
  · cases h
theorem zA0_of (adK : Nat → Nat) (b : Nat) : z_A0 adK b (fun i => if i = zS then b else adK (i - zB)) := by
  refine ⟨fun k hk => ?_, if_pos rfl⟩
  have hl : z_strs.length = 68 := by decide +kernel
  have e1 : zB = 1048576 := rfl
  have e2 : zS = 2097152 := rfl
  have hne : ¬ zB + k = zS := by omega
  show (if zB + k = zS then b else adK (zB + k - zB)) = adK k
  rw [if_neg hne, (zadd_sub zB k).2]
set_option maxHeartbeats 4000000 in
theorem z_law {p : Program} {l : Launch} {e : Env} {s : State} {m : MethodId} {below : List Frame} {meth : Method} {c : Code} (hOK : z_OK) (hLEN : z_LEN) (hst : l.stackTraces = false) {b L : Nat} {xs : Nat → Int32} (C0 : lw_At p s m meth c b L xs) (htab : c.exceptionTable.toList = []) (hnm : meth.name = "law") {n d : Nat} {hF : zH} {x y : Nat} (hrun : z_run (L, xs) n d 343 0 [(0, .ref zS)] [] [] = some (.inl (some (.int 1)), hF, x, y)) (hd : d ≤ 1400) (hxx : x ≤ 601024) (hyy : y ≤ 7293034) : W p l e room_1 s m #[Value.ref b] below meth c s.heap [] 0 0 (lw_Z below #[Value.ref b] s) (entryFrame m ([Value.ref b] : List Value).toArray 7) := by
  obtain ⟨hx, hb, hr, hml, hown, hts, hX, hbl, hlocks, hgv⟩ := C0
  have hpr := flat_of_before _ hgv
  obtain ⟨D, tc, adK, adV, hK⟩ := zK_start (l := l) hts hpr hX hbl hst
  have hB := z_sound hOK hLEN (L, xs) n d 343 0 _ _ _ _ _ x y hrun
  have hA := zA0_of adK b
  generalize (fun i => if i = zS then b else adK (i - zB)) = ad0 at hA
  have hFr : z_Fr p s m #[Value.ref b] meth c z_m343 := ⟨hx, hb, hml, hr, hown, fun w hw => hts w (List.mem_filter.mp hw).1, hlocks, by rw [htab]; rfl, hnm⟩
  have hRm : z_Rm room_1 d x y := ⟨by show d ≤ 2048; omega, by show 60 * d ≤ 84000; omega, hxx, hyy⟩
  have hR : z_R s.heap.size D tc ad0 [] s.heap := ⟨fun k q h => by simp [z_ws] at h, ⟨fun i j p q h => by simp [z_ws] at h, fun k q h => by simp [z_ws] at h⟩, fun e h => by simp at h, Nat.zero_le _⟩
  have hl := lv_entry ([Value.ref b]) (n := 7) (Nat.le_of_ble_eq_true rfl)
  rw [lg_entry_eq]
  generalize (lg_sl ([Value.ref b]) ++ List.replicate (7 - (lg_sl ([Value.ref b])).length) Slot.unset).toArray = ls at hl ⊢
  have hl2 : lv_has ls z_m343.2.2.2.1 (z_tl ad0 [(0, .ref zS)]) := by
    have : z_tl ad0 [(0, Value.ref zS)] = [(0, .ref b)] := by
      show [(0, Value.ref (ad0 zS))] = _
      rw [hA.2]
    rw [this]
    exact hl
  have HR : z_HR p l e room_1 s m #[Value.ref b] below meth c s.heap.size D tc z_m343 z_c343 z_i343 z_h343 ad0 0 x y (lw_Z below #[Value.ref b] s) d (.inl (some (.int 1))) hF := by
    intro k i q lo st x1 y1 hi hq hck hfin
    obtain ⟨h50, rfl, rfl, rfl⟩ := z_fin_one hfin
    intro ad H locs ls cells slots q1 q2 q3 q4 q5 q6 q7 q8 q9
    have hnx : z_nxOf z_i343 k = q.1 := by unfold z_nxOf; rw [hq]; rfl
    unfold z_ckA at hck
    rw [Bool.or_eq_true, Bool.and_eq_true] at hck
    rcases hck with h99 | ⟨hd9, hck⟩
    · rw [decide_eq_true_eq, h50] at h99; cases h99
    have hd9 := of_decide_eq_true hd9
    rw [z_ckB50 h50] at hck
    split at hck
    case h_2 => cases hck
    next hins =>
    rw [hins, of_decide_eq_true hck] at hd9
    rw [hnx]
    refine va_forget (fun z hz => q4.2.2 z hz) (W.widen (k := 601024) (n := 7293034) (by omega) (by omega) ?_)
    exact lw_ret hx hb hr hlocks hd9
  have HX : z_HX p l e room_1 s m #[Value.ref b] below meth c s.heap.size D tc z_i343 z_h343 ad0 0 x y (lw_Z below #[Value.ref b] s) (.inl (some (.int 1))) hF := by
    intro x9 E9 ho
    cases ho
  have kk := hB p l e room_1 s m #[Value.ref b] below meth c s.heap.size D tc adK adV b z_m343 z_c343 z_i343 z_h343 ad0 0 x y (lw_Z below #[Value.ref b] s) rfl rfl rfl rfl hFr hK hA hRm HR HX ad0 s.heap [] ls 0 0 hR z_ag.rf (Nat.le_refl _) va_S.rf hl2 (fun q hq => by
    rw [List.mem_singleton.mp hq]
    intro i hi
    cases hi
    exact Or.inr (by show zB ≤ zS; decide)) (fun v hv => by cases hv) (Nat.zero_add _) (Nat.zero_add _)
  have z_i343_0 : z_nxOf z_i343 0 = 0 := by decide +kernel
  rw [z_i343_0] at kk
  exact kk
