/-! the calls of the abstract machine are the machine's -/
theorem z_A0.ag {adK ad0 ad : Nat → Nat} {sb n0 : Nat} (hA : z_A0 adK sb ad0) (h : z_ag n0 ad0 ad) : z_A0 adK sb ad :=
  ⟨fun k hk => by rw [h _ (Or.inr (Nat.le_add_right _ _))]; exact hA.1 k hk, by rw [h zS (Or.inr (by decide))]; exact hA.2⟩
theorem z_cal_in {i : zI} {d : Nat} {st : List Value} {h : zH} {j : Nat} {as rest : List Value} (hc : z_cal i d st h = some (j, as, rest)) : z_cal0 i d st h = some (j, as, rest) ∧ ∃ M', z_ms[j]? = some M' ∧ (lg_sl as).length ≤ M'.2.2.2.1 := by
  unfold z_cal at hc
  split at hc
  · next a as9 rest9 h0 =>
    split at hc
    · next M' hM' =>
      by_cases hl : (lg_sl as9).length ≤ M'.2.2.2.1
      · rw [if_pos hl] at hc
        simp only [Option.some.injEq, Prod.mk.injEq] at hc
        obtain ⟨rfl, rfl, rfl⟩ := hc
        exact ⟨h0, M', hM', hl⟩
      · rw [if_neg hl] at hc; cases hc
    · cases hc
  · cases hc
theorem z_st {st : List Value} {n : Nat} {v : Value} {rest : List Value} (h : st.drop n = v :: rest) : st = st.take n ++ v :: rest := by rw [← h]; exact (List.take_append_drop n st).symm
theorem z_cal54 {i : zI} {d : Nat} {st : List Value} {h : zH} {j : Nat} {as rest : List Value} (hi : i.1 = 54) (hc : z_cal0 i d st h = some (j, as, rest)) : j = i.2.1 ∧ 0 < d ∧ i.2.2.1 ≤ st.length ∧ z_cat rest ≤ 8 ∧ ∃ r ci fs, as = .ref r :: (st.take i.2.2.1).reverse ∧ st = st.take i.2.2.1 ++ .ref r :: rest ∧ h[r]? = some (.inr (ci, fs)) ∧ (ci : Int) = i.2.2.2 := by
  unfold z_cal0 at hc
  by_cases hd : d = 0 ∨ st.length < i.2.2.1
  · rw [if_pos hd] at hc; cases hc
  rw [if_neg hd] at hc
  have hc2 : (match st.drop i.2.2.1 with
    | .ref r :: rest => (match h[r]? with
      | some (.inr (c, _)) => if (c : Int) = i.2.2.2 ∧ z_cat rest ≤ 8 then some (i.2.1, .ref r :: (st.take i.2.2.1).reverse, rest) else none
      | _ => none)
    | _ => none) = some (j, as, rest) := by
    rw [hi] at hc; exact hc
  split at hc2
  case h_2 => cases hc2
  next r rest9 hdr =>
  split at hc2
  case h_2 => cases hc2
  next ci fs hr =>
  by_cases h9 : (ci : Int) = i.2.2.2 ∧ z_cat rest9 ≤ 8
  case neg => rw [if_neg h9] at hc2; cases hc2
  rw [if_pos h9] at hc2
  simp only [Option.some.injEq, Prod.mk.injEq] at hc2
  obtain ⟨rfl, rfl, rfl⟩ := hc2
  exact ⟨rfl, by omega, by omega, h9.2, r, ci, fs, rfl, z_st hdr, hr, h9.1⟩
theorem z_cal5x {i : zI} {d : Nat} {st : List Value} {h : zH} {j : Nat} {as rest : List Value} (hi : i.1 = 55 ∨ i.1 = 72) (hc : z_cal0 i d st h = some (j, as, rest)) : j = i.2.1 ∧ 0 < d ∧ i.2.2.1 ≤ st.length ∧ z_cat rest ≤ 8 ∧ as = (st.take i.2.2.1).reverse ∧ rest = st.drop i.2.2.1 := by
  unfold z_cal0 at hc
  by_cases hd : d = 0 ∨ st.length < i.2.2.1
  · rw [if_pos hd] at hc; cases hc
  rw [if_neg hd] at hc
  have hc2 : (if z_cat (st.drop i.2.2.1) ≤ 8 then some (i.2.1, (st.take i.2.2.1).reverse, st.drop i.2.2.1) else none) = some (j, as, rest) := by
    rcases hi with hi | hi <;> (rw [hi] at hc; exact hc)
  by_cases h9 : z_cat (st.drop i.2.2.1) ≤ 8
  case neg => rw [if_neg h9] at hc2; cases hc2
  rw [if_pos h9] at hc2
  simp only [Option.some.injEq, Prod.mk.injEq] at hc2
  obtain ⟨rfl, rfl, rfl⟩ := hc2
  exact ⟨rfl, by omega, by omega, h9, rfl, rfl⟩
theorem z_cal56 {i : zI} {d : Nat} {st : List Value} {h : zH} {j : Nat} {as rest : List Value} (hi : i.1 = 56 ∨ i.1 = 73) (hc : z_cal0 i d st h = some (j, as, rest)) : j = i.2.1 ∧ 0 < d ∧ i.2.2.1 ≤ st.length ∧ z_cat rest ≤ 8 ∧ ∃ r, as = .ref r :: (st.take i.2.2.1).reverse ∧ st = st.take i.2.2.1 ++ .ref r :: rest := by
  unfold z_cal0 at hc
  by_cases hd : d = 0 ∨ st.length < i.2.2.1
  · rw [if_pos hd] at hc; cases hc
  rw [if_neg hd] at hc
  have hc2 : (match st.drop i.2.2.1 with
    | .ref r :: rest => if z_cat rest ≤ 8 then some (i.2.1, .ref r :: (st.take i.2.2.1).reverse, rest) else none
    | _ => none) = some (j, as, rest) := by
    rcases hi with hi | hi <;> (rw [hi] at hc; exact hc)
  split at hc2
  case h_2 => cases hc2
  next r rest9 hdr =>
  by_cases h9 : z_cat rest9 ≤ 8
  case neg => rw [if_neg h9] at hc2; cases hc2
  rw [if_pos h9] at hc2
  simp only [Option.some.injEq, Prod.mk.injEq] at hc2
  obtain ⟨rfl, rfl, rfl⟩ := hc2
  exact ⟨rfl, by omega, by omega, h9, r, rfl, z_st hdr⟩
theorem z_yok_in {y : MethodName} {n : Nat} (h : z_yok y n = true) : y.cls ≠ "java/lang/invoke/MethodHandle" ∧ y.cls ≠ "java/lang/invoke/VarHandle" ∧ (parseMethodDescriptor y.desc).map (fun d => d.parameters.length) = some n := of_decide_eq_true h
theorem z_goodC {w : Cond} (h : w ∈ z_T) : GoodIn z_T (w :: z_T) := z_good (fun w' hw => by
    rcases List.mem_cons.mp hw with rfl | h9
    · exact h
    · exact h9)
theorem z_cwB {R : Room} {s : State} {args : Array Value} {own : String} {index maxL mc ms : Nat} {y : MethodName} {bytes : ByteArray} {ret : Option FieldType} {rm : Room} (n : Nat) (ht : ∀ w ∈ z_T, w.before args s = true) (h1 : Cond.methodLink own index y ∈ z_T) (h3 : Cond.initialized y.cls ∈ z_T) (h4 : Cond.code y bytes maxL ret ∈ z_T) (hrc : rm.cells = mc) (hrs : rm.slots = ms)
    (hd : z_yok y n = true) (hR : rm.frames + 1 ≤ R.frames ∧ 8 + (maxL + 11) + rm.locals ≤ R.locals) : CallB R s args own index y bytes maxL ret (.code y bytes maxL ret :: z_T) rm mc ms n :=
  callB_of n ht (z_goodC h4) rfl hrc hrs (ht _ h3) (ht _ h1) (z_yok_in hd) hR
theorem z_rmok {R : Room} {d C S kc ks maxL : Nat} (hR : z_Rm R d C S) (hd : 0 < d) (hm : maxL ≤ 41) : (z_rm (d - 1) kc ks).frames + 1 ≤ R.frames ∧ 8 + (maxL + 11) + (z_rm (d - 1) kc ks).locals ≤ R.locals := by
  obtain ⟨h1, h2, -, -⟩ := hR
  constructor
  · show d - 1 + 1 ≤ R.frames; omega
  · show 8 + (maxL + 11) + 60 * (d - 1) ≤ R.locals; omega
theorem z_asok {st : List Value} {n : Nat} {v : Value} {rest : List Value} {k : Nat} (hst : st = st.take n ++ v :: rest) (h : ∀ w ∈ st, z_okV k w) : (∀ w ∈ v :: (st.take n).reverse, z_okV k w) ∧ ∀ w ∈ rest, z_okV k w := by
  rw [hst] at h
  refine ⟨fun w hw => ?_, fun w hw => h w (List.mem_append_right _ (List.mem_cons_of_mem _ hw))⟩
  rcases List.mem_cons.mp hw with rfl | hw
  · exact h _ (List.mem_append_right _ List.mem_cons_self)
  · exact h w (List.mem_append_left _ (List.mem_reverse.mp hw))
theorem z_stk {st : List Value} {n : Nat} {v : Value} {rest : List Value} (ad : Nat → Nat) (hst : st = st.take n ++ v :: rest) : st.map (z_tr ad) = (((st.take n).reverse).map (z_tr ad)).reverse ++ z_tr ad v :: rest.map (z_tr ad) := by
  rw [List.map_reverse, List.reverse_reverse]
  conv => lhs; rw [hst]
  rw [List.map_append, List.map_cons]
theorem z_stk0 {st : List Value} {n : Nat} (ad : Nat → Nat) : st.map (z_tr ad) = (((st.take n).reverse).map (z_tr ad)).reverse ++ (st.drop n).map (z_tr ad) := by
  rw [List.map_reverse, List.reverse_reverse, ← List.map_append, List.take_append_drop]
theorem z_lens {st : List Value} {n : Nat} (ad : Nat → Nat) (h : n ≤ st.length) : (((st.take n).reverse).map (z_tr ad)).length = n := by
  rw [List.length_map, List.length_reverse, List.length_take]; omega
section ZCalls
variable {p : Program} {l : Launch} {e : Env} {R : Room} {s : State} {m : MethodId} {args : Array Value} {below : List Frame} {meth : Method} {c : Code} {Z : Nat} {D : va_G} {tc : Nat → ClassId} {adK adV : Nat → Nat} {sb : Nat} {sx : zX} {M : zMi} {is : List zJ} {hs : List zHd} {ad0 : Nat → Nat} {n0 C S d : Nat} {Q : State → Prop} {k : Nat} {lo : zL} {st : List Value} {h : zH} {i : zI} {q : zJ} {j' : Nat} {as rest : List Value} {oi : zO} {h1 : zH} {x1 y1 kc ks : Nat} {M' : zMi} {cs' : List zI} {is' : List zJ} {hs' : List zHd} {v : Option Value}
set_option maxHeartbeats 4000000 in
theorem z_cl54 (hFr : z_Fr p s m args meth c M) (hK : z_K l Z D tc adK adV sb sx s) (hA : z_A0 adK sb ad0) (hR : z_Rm R d C S) (hhs : M.2.2.2.2.2 = hs.map (fun x => (x.1, x.2.1, x.2.2.1, x.2.2.2.1))) (hckH : hs.all (z_ckH M is) = true) (hi1 : i.1 = 54) (hck : z_ckB M is hs i q k = true) (hd : decode M.2.2.1 q.1 = .ok (q.2.1, q.2.2.1)) (hnx : z_nxOf is k = q.1) (hcal : z_cal0 i d st h = some (j', as, rest)) (hM' : z_ms[j']? = some M') (hcs' : z_cs[j']? = some cs') (his' : z_is[j']? = some is') (hhs' : z_hs[j']? = some hs') (hck' : z_ckM M' cs' is' hs' = true) (hw : (lg_sl as).length ≤ M'.2.2.2.1)
    (hB : z_Bd sx (d - 1) j' 0 (lv_args 0 as) [] h oi h1 x1 y1)
    (hret : ∀ v, oi = .inl v → z_W p l e R s m args below meth c Z D tc M (z_nxOf is) ad0 n0 C S Q (k + 1) lo (v.toList ++ rest) h1 kc ks)
    (hthr : ∀ E, oi = .inr E → (∃ qh, hs.find? (fun q => q.2.2.2.2.1 == E) = some qh ∧ z_W p l e R s m args below meth c Z D tc M (z_nxOf is) ad0 n0 C S Q qh.2.2.2.2.2.1 (z_drop lo qh.2.2.2.2.2.2) [] h1 kc ks) ∨ (hs = [] ∧ kc = 0 ∧ ks = 0 ∧ z_HX p l e R s m args below meth c Z D tc is hs ad0 n0 C S Q (.inr E) h1)) :
    z_W p l e R s m args below meth c Z D tc M (z_nxOf is) ad0 n0 C S Q k lo st h (kc + x1) (ks + y1) := by
  obtain ⟨rfl, hd0, hn, hcat, r, ci, fs, rfl, hst, hr, hci⟩ := z_cal54 hi1 hcal
  rw [z_ckB54 hi1, hM'] at hck
  split at hck
  case h_2 => cases hck
  next idx M9 hins hM9 =>
  cases hM9
  simp only [Bool.and_eq_true, decide_eq_true_eq] at hck
  obtain ⟨⟨⟨⟨⟨⟨⟨⟨⟨⟨⟨⟨⟨c1, c2⟩, c3⟩, c4⟩, c5⟩, c6⟩, c7⟩, c8⟩, c9⟩, c10⟩, c11⟩, c12⟩, c13⟩, c14⟩ := hck
  rw [hins, c1, ← hnx] at hd
  rw [← hnx] at c2
  have hFr0 := hFr
  obtain ⟨hx, hb, hml, hr9, hown, hts, -⟩ := hFr
  intro ad H locs ls cells slots q1 q2 q3 q4 q5 q6 q7 q8 q9
  obtain ⟨ok1, ok2⟩ := z_asok hst q7
  have hMet := z_met hB hM' hcs' his' hhs' hck' hw c3 l Z D tc adK adV sb ad (hA.ag q2) ok1
  have hci2 : i.2.2.2.toNat = ci := by omega
  rw [hci2] at c5
  obtain ⟨qc, hqc, hqn⟩ : ∃ qc, vwCl[ci]? = some qc ∧ qc.1 = M'.1 := by
    cases hv : vwCl[ci]? with
    | none => rw [hv] at c5; cases c5
    | some qc => rw [hv] at c5; exact ⟨qc, rfl, Option.some.inj c5⟩
  have hrecv := va_recv (q := qc) (q0 := r) hK.2.1 q1.1 hqc (z_ws_get hr)
  rw [hqn] at hrecv
  have cw : CallW R s args M.1 M'.1 idx M'.2.1 M'.2.2.1 M'.2.2.2.1 M'.2.2.2.2.1 (.code M'.2.1 M'.2.2.1 M'.2.2.2.1 M'.2.2.2.2.1 :: z_T) (z_rm (d - 1) x1 y1) x1 y1 i.2.2.1 := ⟨z_cwB _ hts (z_w_in c7) (by rw [c4]; exact z_w_in c10) (z_w_in c11) rfl rfl c12 (z_rmok hR hd0 c13), hts _ (z_w_in c8), hts _ (z_w_in c9)⟩
  refine z_callx (vx_runV (As := ((st.take i.2.2.1).reverse).map (z_tr ad)) (rest := rest.map (z_tr ad)) (b := ad r) ⟨hx, hb, hml, hown, hts⟩ hMet cw ⟨z_Pm_blind, hrecv, fun U hU hW => ⟨rfl, hK.at q4 hU hW, by rw [hU]; exact q1⟩⟩ rfl (z_lens ad hn) q5.1 (z_stk ad hst) (lv_room (by rw [z_cat_tr]; exact hcat)) hd ⟨?_, ?_⟩) q4 (fun v hv ad' H1 locs1 g1 g2 g3 g4 g5 => z_cont (hret v hv) c2 q2 q3 q5 q6 ok2 q8 q9 g1 g2 g3 g4 g5) ?_
  · have := hR.2.2.1; omega
  · have := hR.2.2.2; omega
  intro x E hx9 hE ad' H1 locs1 q10 ce g1 g2 g3 g4 e1 e2 e3
  rcases hthr x hx9 with ⟨qh, hf, hW⟩ | ⟨hh0, rfl, rfl, hX⟩
  · exact z_caught (d := d) hFr0 hK hhs hckH (by rw [hnx]; exact c14) hf hE hW q2 q3 q5 q6 q8 q9 g1 g2 g3 g4 e1 e2 e3
  · exact hX x E rfl hE hh0 k ad' H1 locs1 ls (cells + x1) (slots + y1) (rest.map (z_tr ad)) q10 ce g2 (q2.trans g1 q3) (by omega) g4 e1 e2 e3 (by omega) (by omega)
set_option maxHeartbeats 4000000 in
theorem z_cl55 (hFr : z_Fr p s m args meth c M) (hK : z_K l Z D tc adK adV sb sx s) (hA : z_A0 adK sb ad0) (hR : z_Rm R d C S) (hi1 : i.1 = 55) (hck : z_ckB M is hs i q k = true) (hd : decode M.2.2.1 q.1 = .ok (q.2.1, q.2.2.1)) (hnx : z_nxOf is k = q.1) (hcal : z_cal0 i d st h = some (j', as, rest)) (hM' : z_ms[j']? = some M') (hcs' : z_cs[j']? = some cs') (his' : z_is[j']? = some is') (hhs' : z_hs[j']? = some hs') (hck' : z_ckM M' cs' is' hs' = true) (hw : (lg_sl as).length ≤ M'.2.2.2.1)
    (hB : z_Bd sx (d - 1) j' 0 (lv_args 0 as) [] h (.inl v) h1 x1 y1)
    (hret : z_W p l e R s m args below meth c Z D tc M (z_nxOf is) ad0 n0 C S Q (k + 1) lo (v.toList ++ rest) h1 kc ks) :
    z_W p l e R s m args below meth c Z D tc M (z_nxOf is) ad0 n0 C S Q k lo st h (kc + x1) (ks + y1) := by
  obtain ⟨rfl, hd0, hn, hcat, rfl, rfl⟩ := z_cal5x (Or.inl hi1) hcal
  rw [z_ckB55 hi1, hM'] at hck
  split at hck
  case h_2 => cases hck
  next idx M9 hins hM9 =>
  cases hM9
  simp only [Bool.and_eq_true, decide_eq_true_eq] at hck
  obtain ⟨⟨⟨⟨⟨⟨⟨⟨⟨c1, c2⟩, c3⟩, c4⟩, c5⟩, c6⟩, c7⟩, c8⟩, c9⟩, c10⟩ := hck
  rw [hins, c1, ← hnx] at hd
  rw [← hnx] at c2
  obtain ⟨hx, hb, hml, hr9, hown, hts, -⟩ := hFr
  intro ad H locs ls cells slots q1 q2 q3 q4 q5 q6 q7 q8 q9
  have ok1 : ∀ w ∈ (st.take i.2.2.1).reverse, z_okV h.length w := fun w hw => q7 w (List.mem_of_mem_take (List.mem_reverse.mp hw))
  have ok2 : ∀ w ∈ st.drop i.2.2.1, z_okV h.length w := fun w hw => q7 w (List.mem_of_mem_drop hw)
  have hMet := z_toMet (z_met hB hM' hcs' his' hhs' hck' hw c3 l Z D tc adK adV sb ad (hA.ag q2) ok1)
  have cw : CallB R s args M.1 idx M'.2.1 M'.2.2.1 M'.2.2.2.1 M'.2.2.2.2.1 (.code M'.2.1 M'.2.2.1 M'.2.2.2.1 M'.2.2.2.2.1 :: z_T) (z_rm (d - 1) x1 y1) x1 y1 i.2.2.1 := z_cwB _ hts (z_w_in c5) (by rw [c4]; exact z_w_in c7) (z_w_in c8) rfl rfl c9 (z_rmok hR hd0 c10)
  refine z_calln (va_runS (As := ((st.take i.2.2.1).reverse).map (z_tr ad)) (rest := (st.drop i.2.2.1).map (z_tr ad)) ⟨hx, hb, hml, hown, hts⟩ hMet ⟨cw, hts _ (z_w_in c6)⟩ ⟨z_Pm_blind, fun U hU hW => ⟨rfl, hK.at q4 hU hW, by rw [hU]; exact q1⟩⟩ rfl (z_lens ad hn) q5.1 (z_stk0 ad) (lv_room (by rw [z_cat_tr]; exact hcat)) hd ⟨?_, ?_⟩) q4 (fun v9 hv ad' H1 locs1 g1 g2 g3 g4 g5 => z_cont (v := v9) (by cases hv; exact hret) c2 q2 q3 q5 q6 ok2 q8 q9 g1 g2 g3 g4 g5)
  · have := hR.2.2.1; omega
  · have := hR.2.2.2; omega
set_option maxHeartbeats 4000000 in
theorem z_cl72 (hFr : z_Fr p s m args meth c M) (hK : z_K l Z D tc adK adV sb sx s) (hA : z_A0 adK sb ad0) (hR : z_Rm R d C S) (hi1 : i.1 = 72) (hck : z_ckB M is hs i q k = true) (hd : decode M.2.2.1 q.1 = .ok (q.2.1, q.2.2.1)) (hnx : z_nxOf is k = q.1) (hcal : z_cal0 i d st h = some (j', as, rest)) (hM' : z_ms[j']? = some M') (hcs' : z_cs[j']? = some cs') (his' : z_is[j']? = some is') (hhs' : z_hs[j']? = some hs') (hck' : z_ckM M' cs' is' hs' = true) (hw : (lg_sl as).length ≤ M'.2.2.2.1)
    (hB : z_Bd sx (d - 1) j' 0 (lv_args 0 as) [] h (.inl v) h1 x1 y1)
    (hret : z_W p l e R s m args below meth c Z D tc M (z_nxOf is) ad0 n0 C S Q (k + 1) lo (v.toList ++ rest) h1 kc ks) :
    z_W p l e R s m args below meth c Z D tc M (z_nxOf is) ad0 n0 C S Q k lo st h (kc + x1) (ks + y1) := by
  obtain ⟨rfl, hd0, hn, hcat, rfl, rfl⟩ := z_cal5x (Or.inr hi1) hcal
  rw [z_ckB72 hi1, hM'] at hck
  split at hck
  case h_2 => cases hck
  next idx M9 hins hM9 =>
  cases hM9
  simp only [Bool.and_eq_true, decide_eq_true_eq] at hck
  obtain ⟨⟨⟨⟨⟨⟨⟨⟨⟨c1, c2⟩, c3⟩, c4⟩, c5⟩, c6⟩, c7⟩, c8⟩, c9⟩, c10⟩ := hck
  rw [hins, c1, ← hnx] at hd
  rw [← hnx] at c2
  obtain ⟨hx, hb, hml, hr9, hown, hts, -⟩ := hFr
  intro ad H locs ls cells slots q1 q2 q3 q4 q5 q6 q7 q8 q9
  have ok1 : ∀ w ∈ (st.take i.2.2.1).reverse, z_okV h.length w := fun w hw => q7 w (List.mem_of_mem_take (List.mem_reverse.mp hw))
  have ok2 : ∀ w ∈ st.drop i.2.2.1, z_okV h.length w := fun w hw => q7 w (List.mem_of_mem_drop hw)
  have hMet := z_toMet (z_metH hB hM' hcs' his' hhs' hck' hw l Z D tc adK adV sb ad (hA.ag q2) ok1)
  have hR9 := z_rmok (kc := x1) (ks := y1) hR hd0 c10
  have hy := z_yok_in c9
  have cw : vx_CSW R s args M.1 idx M'.2.1 M'.2.2.1 M'.2.2.2.1 M'.2.2.2.2.1 M'.2.2.2.2.2 (.codeWith M'.2.1 M'.2.2.1 M'.2.2.2.1 M'.2.2.2.2.1 M'.2.2.2.2.2 :: z_T) (z_rm (d - 1) x1 y1) x1 y1 i.2.2.1 :=
    ⟨⟨rfl, rfl, hR9.1, hR9.2, pay_in hts (z_goodC (z_w_in c8)), List.mem_cons_self⟩, hts _ (z_w_in c8), hts _ (by rw [c4]; exact z_w_in c7), ⟨hy.1, hy.2.1⟩, fun sig h9 => by have h2 := hy.2.2; rw [h9] at h2; exact (Option.some.inj h2).symm, hts _ (z_w_in c5), hts _ (z_w_in c6)⟩
  refine z_calln (vx_runSW (As := ((st.take i.2.2.1).reverse).map (z_tr ad)) (rest := (st.drop i.2.2.1).map (z_tr ad)) ⟨hx, hb, hml, hown, hts⟩ hMet cw ⟨z_Pm_blind, fun U hU hW => ⟨rfl, hK.at q4 hU hW, by rw [hU]; exact q1⟩⟩ rfl (z_lens ad hn) q5.1 (z_stk0 ad) (lv_room (by rw [z_cat_tr]; exact hcat)) hd ⟨?_, ?_⟩) q4 (fun v9 hv ad' H1 locs1 g1 g2 g3 g4 g5 => z_cont (v := v9) (by cases hv; exact hret) c2 q2 q3 q5 q6 ok2 q8 q9 g1 g2 g3 g4 g5)
  · have := hR.2.2.1; omega
  · have := hR.2.2.2; omega
set_option maxHeartbeats 4000000 in
theorem z_cl56 (hFr : z_Fr p s m args meth c M) (hK : z_K l Z D tc adK adV sb sx s) (hA : z_A0 adK sb ad0) (hR : z_Rm R d C S) (hi1 : i.1 = 56) (hck : z_ckB M is hs i q k = true) (hd : decode M.2.2.1 q.1 = .ok (q.2.1, q.2.2.1)) (hnx : z_nxOf is k = q.1) (hcal : z_cal0 i d st h = some (j', as, rest)) (hM' : z_ms[j']? = some M') (hcs' : z_cs[j']? = some cs') (his' : z_is[j']? = some is') (hhs' : z_hs[j']? = some hs') (hck' : z_ckM M' cs' is' hs' = true) (hw : (lg_sl as).length ≤ M'.2.2.2.1)
    (hB : z_Bd sx (d - 1) j' 0 (lv_args 0 as) [] h (.inl v) h1 x1 y1)
    (hret : z_W p l e R s m args below meth c Z D tc M (z_nxOf is) ad0 n0 C S Q (k + 1) lo (v.toList ++ rest) h1 kc ks) :
    z_W p l e R s m args below meth c Z D tc M (z_nxOf is) ad0 n0 C S Q k lo st h (kc + x1) (ks + y1) := by
  obtain ⟨rfl, hd0, hn, hcat, r, rfl, hst⟩ := z_cal56 (Or.inl hi1) hcal
  rw [z_ckB56 hi1, hM'] at hck
  split at hck
  case h_2 => cases hck
  next idx M9 hins hM9 =>
  cases hM9
  simp only [Bool.and_eq_true, decide_eq_true_eq] at hck
  obtain ⟨⟨⟨⟨⟨⟨⟨⟨⟨⟨⟨c1, c2⟩, c3⟩, c4⟩, c5⟩, c6⟩, c7⟩, c8⟩, c9⟩, c10⟩, c11⟩, c12⟩ := hck
  rw [hins, c1, ← hnx] at hd
  rw [← hnx] at c2
  obtain ⟨hx, hb, hml, hr9, hown, hts, -⟩ := hFr
  intro ad H locs ls cells slots q1 q2 q3 q4 q5 q6 q7 q8 q9
  obtain ⟨ok1, ok2⟩ := z_asok hst q7
  have hMet := z_toMet (z_met hB hM' hcs' his' hhs' hck' hw c3 l Z D tc adK adV sb ad (hA.ag q2) ok1)
  rw [c6] at hMet
  have cw : CallB R s args M.1 idx M'.2.1 M'.2.2.1 M'.2.2.2.1 none (.code M'.2.1 M'.2.2.1 M'.2.2.2.1 none :: z_T) (z_rm (d - 1) x1 y1) x1 y1 i.2.2.1 := z_cwB _ hts (z_w_in c7) (by rw [c4]; exact z_w_in c9) (z_w_in c10) rfl rfl c11 (z_rmok hR hd0 c12)
  refine z_calln (va_runI (As := ((st.take i.2.2.1).reverse).map (z_tr ad)) (rest := rest.map (z_tr ad)) (b := ad r) ⟨hx, hb, hml, hown, hts⟩ hMet ⟨cw, c5, hts _ (z_w_in c8)⟩ ⟨z_Pm_blind, fun U hU hW => ⟨rfl, hK.at q4 hU hW, by rw [hU]; exact q1⟩⟩ rfl (z_lens ad hn) q5.1 (z_stk ad hst) (lv_room (by rw [z_cat_tr]; exact hcat)) hd ⟨?_, ?_⟩) q4 (fun v9 hv ad' H1 locs1 g1 g2 g3 g4 g5 => z_cont (v := v9) (by cases hv; exact hret) c2 q2 q3 q5 q6 ok2 q8 q9 g1 g2 g3 g4 g5)
  · have := hR.2.2.1; omega
  · have := hR.2.2.2; omega
set_option maxHeartbeats 4000000 in
theorem z_cl73 (hFr : z_Fr p s m args meth c M) (hK : z_K l Z D tc adK adV sb sx s) (hA : z_A0 adK sb ad0) (hR : z_Rm R d C S) (hi1 : i.1 = 73) (hck : z_ckB M is hs i q k = true) (hd : decode M.2.2.1 q.1 = .ok (q.2.1, q.2.2.1)) (hnx : z_nxOf is k = q.1) (hcal : z_cal0 i d st h = some (j', as, rest)) (hM' : z_ms[j']? = some M') (hcs' : z_cs[j']? = some cs') (his' : z_is[j']? = some is') (hhs' : z_hs[j']? = some hs') (hck' : z_ckM M' cs' is' hs' = true) (hw : (lg_sl as).length ≤ M'.2.2.2.1)
    (hB : z_Bd sx (d - 1) j' 0 (lv_args 0 as) [] h (.inl v) h1 x1 y1)
    (hret : z_W p l e R s m args below meth c Z D tc M (z_nxOf is) ad0 n0 C S Q (k + 1) lo (v.toList ++ rest) h1 kc ks) :
    z_W p l e R s m args below meth c Z D tc M (z_nxOf is) ad0 n0 C S Q k lo st h (kc + x1) (ks + y1) := by
  obtain ⟨rfl, hd0, hn, hcat, r, rfl, hst⟩ := z_cal56 (Or.inr hi1) hcal
  rw [z_ckB73 hi1, hM'] at hck
  split at hck
  case h_2 => cases hck
  next idx M9 hins hM9 =>
  cases hM9
  simp only [Bool.and_eq_true, decide_eq_true_eq] at hck
  obtain ⟨⟨⟨⟨⟨⟨⟨⟨⟨⟨⟨c1, c2⟩, c3⟩, c4⟩, c5⟩, c6⟩, c7⟩, c8⟩, c9⟩, c10⟩, c11⟩, c12⟩ := hck
  rw [hins, c1, ← hnx] at hd
  rw [← hnx] at c2
  obtain ⟨hx, hb, hml, hr9, hown, hts, -⟩ := hFr
  intro ad H locs ls cells slots q1 q2 q3 q4 q5 q6 q7 q8 q9
  obtain ⟨ok1, ok2⟩ := z_asok hst q7
  have hMet := z_toMet (z_met hB hM' hcs' his' hhs' hck' hw c3 l Z D tc adK adV sb ad (hA.ag q2) ok1)
  rw [c6] at hMet
  have cw : va_CN R s args M.1 idx M'.2.1 RX11 M'.2.2.1 M'.2.2.2.1 none (.code M'.2.1 M'.2.2.1 M'.2.2.2.1 none :: z_T) (z_rm (d - 1) x1 y1) x1 y1 i.2.2.1 := va_cnB _ hts (z_goodC (z_w_in c10)) rfl rfl rfl (hK.2.2.2.2.2.1 _ c7) (hts _ (by rw [c4]; exact z_w_in c9)) (z_yok_in c11) (z_rmok hR hd0 c12)
  refine z_calln (va_runIN (As := ((st.take i.2.2.1).reverse).map (z_tr ad)) (rest := rest.map (z_tr ad)) (b := ad r) ⟨hx, hb, hml, hown, hts⟩ hMet ⟨cw, c5, hts _ (z_w_in c8)⟩ ⟨z_Pm_blind, fun U hU hW => ⟨rfl, hK.at q4 hU hW, by rw [hU]; exact q1⟩⟩ rfl (z_lens ad hn) q5.1 (z_stk ad hst) (lv_room (by rw [z_cat_tr]; exact hcat)) hd ⟨?_, ?_⟩) q4 (fun v9 hv ad' H1 locs1 g1 g2 g3 g4 g5 => z_cont (v := v9) (by cases hv; exact hret) c2 q2 q3 q5 q6 ok2 q8 q9 g1 g2 g3 g4 g5)
  · have := hR.2.2.1; omega
  · have := hR.2.2.2; omega
end ZCalls
