section
noncomputable def z_HR (p : Program) (l : Launch) (e : Env) (R : Room) (s : State) (m : MethodId) (args : Array Value) (below : List Frame) (meth : Method) (c : Code) (Z : Nat) (D : va_G) (tc : Nat → ClassId) (M : zMi) (cs : List zI) (is : List zJ) (hs : List zHd) (ad0 : Nat → Nat) (n0 C S : Nat) (Q : State → Prop) (d : Nat) (o : zO) (hF : zH) : Prop :=
  ∀ (k : Nat) (i : zI) (q : zJ) (lo : zL) (st : List Value) (x y : Nat), cs[k]? = some i → is[k]? = some q → z_ckA M is hs i q k = true → z_fin M i d st = some (o, x, y) → z_W p l e R s m args below meth c Z D tc M (z_nxOf is) ad0 n0 C S Q k lo st hF x y
noncomputable def z_HX (p : Program) (l : Launch) (e : Env) (R : Room) (s : State) (m : MethodId) (args : Array Value) (below : List Frame) (meth : Method) (c : Code) (Z : Nat) (D : va_G) (tc : Nat → ClassId) (is : List zJ) (hs : List zHd) (ad0 : Nat → Nat) (n0 C S : Nat) (Q : State → Prop) (o : zO) (hF : zH) : Prop :=
  ∀ (x : Nat) (E : String), o = .inr x → z_excs[x]? = some E → hs = [] → ∀ (k : Nat) (ad : Nat → Nat) (H : Heap) (locs : List Loc) (ls : Array Slot) (cells slots : Nat) (rest : List Value) (q9 : Addr) (ce : Cell), z_R Z D tc ad hF H → z_ag n0 ad0 ad → n0 ≤ hF.length → va_S (fun q => Z ≤ q) s.heap H locs → H[q9]? = some ce → ce.vm = .none → s.vm.findClass E = some ce.cls → cells ≤ C → slots ≤ S → vx_W p l e R s m args below meth c H locs cells slots Q (F0 m (z_nxOf is k) ls rest) q9
/-- the run from here is the machine's, in every frame of this method -/
noncomputable def z_Bd (sx : zX) (d j k : Nat) (lo : zL) (st : List Value) (h : zH) (o : zO) (hF : zH) (kc ks : Nat) : Prop :=
  ∀ (p : Program) (l : Launch) (e : Env) (R : Room) (s : State) (m : MethodId) (args : Array Value) (below : List Frame) (meth : Method) (c : Code) (Z : Nat) (D : va_G) (tc : Nat → ClassId) (adK adV : Nat → Nat) (sb : Nat) (M : zMi) (cs : List zI) (is : List zJ) (hs : List zHd) (ad0 : Nat → Nat) (n0 C S : Nat) (Q : State → Prop),
    z_ms[j]? = some M → z_cs[j]? = some cs → z_is[j]? = some is → z_hs[j]? = some hs → z_Fr p s m args meth c M → z_K l Z D tc adK adV sb sx s → z_A0 adK sb ad0 → z_Rm R d C S → z_HR p l e R s m args below meth c Z D tc M cs is hs ad0 n0 C S Q d o hF → z_HX p l e R s m args below meth c Z D tc is hs ad0 n0 C S Q o hF →
    z_W p l e R s m args below meth c Z D tc M (z_nxOf is) ad0 n0 C S Q k lo st h kc ks
theorem z_lgl (ad : Nat → Nat) : ∀ vs : List Value, (lg_sl (vs.map (z_tr ad))).length = (lg_sl vs).length
  | [] => rfl
  | v :: vs => by
    have ih := z_lgl ad vs
    unfold lg_sl at ih ⊢
    rw [List.map_cons, List.flatMap_cons, List.flatMap_cons, List.length_append, List.length_append, ih, z_tr_cat]
    by_cases h : v.category = 2
    · rw [if_pos h, if_pos h]; rfl
    · rw [if_neg h, if_neg h]; rfl
theorem z_xn_fit : ∀ n ∈ z_xn, Bundle.fit n = true := by decide +kernel
theorem z_R.grown {Z : Nat} {D : va_G} {tc : Nat → ClassId} {ad : Nat → Nat} {h : zH} {H H1 : Heap} (hR : z_R Z D tc ad h H) (hk : ∀ q : Nat, q < H.size → H1[q]? = H[q]?) : z_R Z D tc ad h H1 := ⟨hR.1.kept (fun k x hx => hk x.1 ((hR.1 k x hx).lt)), hR.2⟩
set_option maxHeartbeats 4000000 in
/-- a method's own ends: returns and throws -/
theorem z_ends {p : Program} {l : Launch} {e : Env} {R : Room} {s : State} {m : MethodId} {args : Array Value} {below : List Frame} {meth : Method} {c : Code} {Z : Nat} {D : va_G} {tc : Nat → ClassId} {adK adV : Nat → Nat} {sb : Nat} {sx : zX} {M : zMi} {cs : List zI} {is : List zJ} {hs : List zHd} {ad0 : Nat → Nat} {n0 C S d : Nat} {o : zO} {hF : zH}
    (hFr : z_Fr p s m args meth c M) (hK : z_K l Z D tc adK adV sb sx s) (hA : z_A0 adK sb ad0) (hR : z_Rm R d C S) (hhs : M.2.2.2.2.2 = hs.map (fun x => (x.1, x.2.1, x.2.2.1, x.2.2.2.1))) : z_HR p l e R s m args below meth c Z D tc M cs is hs ad0 n0 C S (vx_MQ below (z_Qm Z D tc ad0 n0 hF o) (z_Xm Z D tc ad0 n0 hF o) args s C S (fun q => Z ≤ q)) d o hF := by
  intro k i q lo st x y hi hq hck hfin
  obtain ⟨hx, hb, hml, hr, hown, hts, hlocks, htab, hnm⟩ := hFr
  have hnx : z_nxOf is k = q.1 := by unfold z_nxOf; rw [hq]; rfl
  intro ad H locs ls cells slots q1 q2 q3 q4 q5 q6 q7 q8 q9
  rw [hnx]
  unfold z_ckA at hck
  rw [Bool.or_eq_true, Bool.and_eq_true] at hck
  unfold z_fin at hfin
  split at hfin
  · next r hi1 =>
    split at hfin
    case h_2 => cases hfin
    next ty hty =>
    by_cases hn : narrow ty (.int r) = .int r
    case neg => rw [if_neg hn] at hfin; cases hfin
    rw [if_pos hn] at hfin
    simp only [Option.some.injEq, Prod.mk.injEq] at hfin
    obtain ⟨rfl, rfl, rfl⟩ := hfin
    rcases hck with h99 | ⟨hd, hck⟩
    · rw [decide_eq_true_eq, hi1] at h99; cases h99
    have hd := of_decide_eq_true hd
    rw [z_ckB50 hi1] at hck
    split at hck
    case h_2 => cases hck
    next hins =>
    rw [hins, of_decide_eq_true hck] at hd
    subst q8; subst q9
    exact vx_ret (W.zret hx hb (hr.trans hty) hn (fun t ht _ => ⟨_, rfl, ad, q2, rfl, by rw [ht]; exact q1, q3, fun w hw => by cases hw; exact z_okV_int _ _, q4.F ht⟩) q4.2.2 hd)
  · next r hi1 =>
    simp only [Option.some.injEq, Prod.mk.injEq] at hfin
    obtain ⟨rfl, rfl, rfl⟩ := hfin
    rcases hck with h99 | ⟨hd, hck⟩
    · rw [decide_eq_true_eq, hi1] at h99; cases h99
    have hd := of_decide_eq_true hd
    rw [z_ckB51 hi1] at hck
    split at hck
    case h_2 => cases hck
    next hins =>
    rw [Bool.and_eq_true] at hck
    rw [hins, of_decide_eq_true hck.1] at hd
    subst q8; subst q9
    exact vx_ret (W.lret hx hb (hr.trans (of_decide_eq_true hck.2)) (fun t ht _ => ⟨_, rfl, ad, q2, rfl, by rw [ht]; exact q1, q3, fun w hw => by cases hw; exact z_okV_long _ _, q4.F ht⟩) q4.2.2 hd)
  · next r hi1 =>
    simp only [Option.some.injEq, Prod.mk.injEq] at hfin
    obtain ⟨rfl, rfl, rfl⟩ := hfin
    rcases hck with h99 | ⟨hd, hck⟩
    · rw [decide_eq_true_eq, hi1] at h99; cases h99
    have hd := of_decide_eq_true hd
    rw [z_ckB52 hi1] at hck
    split at hck
    case h_2 => cases hck
    next hins =>
    rw [Bool.and_eq_true] at hck
    rw [hins, of_decide_eq_true hck.1] at hd
    subst q8; subst q9
    have hck2 := hck.2
    split at hck2
    · next nmr hrt =>
      exact vx_ret (W.aret hx hb (hr.trans hrt) (Or.inl ⟨_, rfl⟩) (Or.inr ⟨_, rfl⟩) (fun t ht _ => ⟨_, rfl, ad, q2, rfl, by rw [ht]; exact q1, q3, fun w hw => by cases hw; exact z_ok1 q7, q4.F ht⟩) q4.2.2 hd)
    · next nmr hrt =>
      exact vx_ret (W.aret hx hb (hr.trans hrt) (Or.inr ⟨_, rfl⟩) (Or.inr ⟨_, rfl⟩) (fun t ht _ => ⟨_, rfl, ad, q2, rfl, by rw [ht]; exact q1, q3, fun w hw => by cases hw; exact z_ok1 q7, q4.F ht⟩) q4.2.2 hd)
    · cases hck2
  · next hi1 =>
    simp only [Option.some.injEq, Prod.mk.injEq] at hfin
    obtain ⟨rfl, rfl, rfl⟩ := hfin
    rcases hck with h99 | ⟨hd, hck⟩
    · rw [decide_eq_true_eq, hi1] at h99; cases h99
    have hd := of_decide_eq_true hd
    rw [z_ckB53 hi1] at hck
    split at hck
    case h_2 => cases hck
    next hins =>
    rw [Bool.and_eq_true] at hck
    rw [hins, of_decide_eq_true hck.1] at hd
    subst q8; subst q9
    exact vx_ret (W.vret hx hb (hr.trans (of_decide_eq_true hck.2)) (fun t ht _ => ⟨_, rfl, ad, q2, rfl, by rw [ht]; exact q1, q3, (fun w hw => by cases hw), q4.F ht⟩) q4.2.2 hd)
  · next st9 x8 st8 hi1 =>
    by_cases hc : 6 ≤ d ∧ z_cat st9 ≤ 8
    case neg => rw [if_neg hc] at hfin; cases hfin
    rw [if_pos hc] at hfin
    simp only [Option.some.injEq, Prod.mk.injEq] at hfin
    obtain ⟨rfl, rfl, rfl⟩ := hfin
    rcases hck with h99 | ⟨hd, hck⟩
    · rw [decide_eq_true_eq, hi1] at h99; cases h99
    have hd := of_decide_eq_true hd
    rw [z_ckB62 hi1] at hck
    split at hck
    case h_2 => cases hck
    next ik cls ic sq hins hcls hic hsq =>
    simp only [Bool.and_eq_true, Bool.or_eq_true, decide_eq_true_eq] at hck
    obtain ⟨⟨⟨⟨⟨⟨⟨c1, c2⟩, c3⟩, c4⟩, c5⟩, c6⟩, c7⟩, c8⟩ := hck
    rw [hins, c3] at hd
    obtain ⟨ix, rx, ⟨x0, x1, x2, x5⟩, f1, f2, f3, f4⟩ := z_xf i.2.1 cls ic hcls hic
    have htab0 : ∀ z ∈ c.exceptionTable.toList, covers z (q.1 + 9) = false := by
      rw [htab, hhs, c2]
      intro z hz
      cases hz
    have htab1 : ∀ z ∈ c.exceptionTable.toList, covers z (q.1 + 10) = false := by
      rw [htab, hhs, c2]
      intro z hz
      cases hz
    have hat : ∀ w ∈ z_atX M.1 ic cls ix rx z_xn, w.before args s = true := by
      rw [c1]
      refine vx_hat (fun w hw => hts w (f1 w hw)) f2 (fun w hw => ?_)
      refine va_Nw.use ?_ (hK.2.2.2.2.2.2.2.2.2.2.2.2.2.2 w hw)
      simp only [z_xw, List.mem_cons, List.not_mem_nil, or_false] at hw
      rcases hw with rfl | rfl | rfl | rfl | rfl | rfl | rfl | rfl <;> rfl
    have hgood : ∀ w ∈ Cond.classLink M.1 ik cls :: Cond.initialized cls :: z_atX M.1 ic cls ix rx z_xn, vx_ot w = true := by
      intro w hw
      rcases List.mem_cons.mp hw with rfl | hw
      · unfold vx_ot; rw [(List.mem_filter.mp (z_w_in c4)).2, Bool.or_true]
      rcases List.mem_cons.mp hw with rfl | hw
      · unfold vx_ot; rw [(List.mem_filter.mp (z_w_in c5)).2, Bool.or_true]
      · rw [c1] at hw; exact f3 w hw
    have hstr := (hK.2.2.1 i.2.2.1 sq hsq).1
    rw [c6] at hstr
    obtain ⟨r1, r2, r3, r4⟩ := hR
    have hz := z_cat_tr ad st9
    have hxc : ∀ t : State, s.vm.Alike t.vm → H.size ≤ t.heap.size → (∀ q : Nat, q < H.size → t.heap[q]? = H[q]?) → z_Xm Z D tc ad0 n0 hF (.inr i.2.1) cls s t := by
      intro t _ g1 g2
      refine ⟨_, rfl, hcls, ad, q2, q1.grown g2, q3, Nat.le_trans q4.1 g1, fun q0 k1 k2 => ?_⟩
      rw [g2 q0 (Nat.lt_of_lt_of_le k1 q4.1)]
      exact q4.2.1 q0 k1 k2
    rcases c8 with ⟨⟨d4, d6⟩, d9⟩ | ⟨⟨d4, d7⟩, d10⟩
    · exact z_throwX hx hb hK.2.2.2.2.2.2.2.2.2.1 x0 x1 x2 x5 hown f4 z_xn_fit (hts _ (z_w_in c4)) (hts _ (z_w_in c5)) hstr hat hgood hK.2.2.2.1 hK.2.2.2.2.1 q4 (by rw [hml]; exact q5.1) hd c7 d4 d6 d9 htab0 (by show 2 + 3 < _; omega) (by show _ + (13 * (2 + 1) + 43) ≤ _; omega) (by omega) (by omega) hlocks hxc q4.2.2 (by omega) (by omega)
    · exact z_throwXW hx hb hK.2.2.2.2.2.2.2.2.2.1 x0 x1 x2 x5 hown f4 z_xn_fit (hts _ (z_w_in c4)) (hts _ (z_w_in c5)) hstr hat hgood hK.2.2.2.1 hK.2.2.2.2.1 q4 (by rw [hml]; exact q5.1) hd c7 d4 d7 d10 htab1 (by show 2 + 3 < _; omega) (by show _ + (13 * (2 + 1) + 43) ≤ _; omega) (by omega) (by omega) hlocks hxc q4.2.2 (by omega) (by omega)
  · cases hfin
theorem z_outs {p : Program} {l : Launch} {e : Env} {R : Room} {s : State} {m : MethodId} {args : Array Value} {below : List Frame} {meth : Method} {c : Code} {Z : Nat} {D : va_G} {tc : Nat → ClassId} {M : zMi} {is : List zJ} {hs : List zHd} {ad0 : Nat → Nat} {n0 C S : Nat} {o : zO} {hF : zH}
    (hFr : z_Fr p s m args meth c M) (hhs : M.2.2.2.2.2 = hs.map (fun x => (x.1, x.2.1, x.2.2.1, x.2.2.2.1))) : z_HX p l e R s m args below meth c Z D tc is hs ad0 n0 C S (vx_MQ below (z_Qm Z D tc ad0 n0 hF o) (z_Xm Z D tc ad0 n0 hF o) args s C S (fun q => Z ≤ q)) o hF := by
  intro x E ho hE hh k ad H locs ls cells slots rest q9 ce q1 q2 q3 q4 g1 g2 g3 g4 g5
  obtain ⟨hx, hb, hml, hr, hown, hts, hlocks, htab, hnm⟩ := hFr
  refine vx_out (fun z hz => ?_) hlocks g1 g2 g3 (fun t ht _ => ⟨x, ho, hE, ad, q2, by rw [ht]; exact q1, q3, q4.F ht⟩) q4.2.2 g4 g5
  rw [htab, hhs, hh] at hz
  cases hz
end
section
/-! a method's contract out of its run -/
theorem z_met {sx : zX} {d j : Nat} {as : List Value} {h : zH} {o : zO} {h' : zH} {kc ks : Nat} (hB : z_Bd sx d j 0 (lv_args 0 as) [] h o h' kc ks) {M : zMi} {cs : List zI} {is : List zJ} {hs : List zHd} (hM : z_ms[j]? = some M) (hcs : z_cs[j]? = some cs) (his : z_is[j]? = some is) (hhs : z_hs[j]? = some hs) (hck : z_ckM M cs is hs = true) (hw : (lg_sl as).length ≤ M.2.2.2.1) (hh : M.2.2.2.2.2 = [])
    (l : Launch) (Z : Nat) (D : va_G) (tc : Nat → ClassId) (adK adV : Nat → Nat) (sb : Nat) (ad : Nat → Nat) (hA : z_A0 adK sb ad) (hok : ∀ v ∈ as, z_okV h.length v) :
    vx_Met l M.2.1 (.code M.2.1 M.2.2.1 M.2.2.2.1 M.2.2.2.2.1 :: z_T) (z_rm d kc ks) (z_Pm l Z D tc adK adV sb sx ad h as) (z_Qm Z D tc ad h.length h' o) (z_Xm Z D tc ad h.length h' o) kc ks (fun q => Z ≤ q) := by
  unfold z_ckM at hck
  simp only [Bool.and_eq_true, decide_eq_true_eq] at hck
  obtain ⟨⟨⟨⟨⟨c1, c2⟩, c3⟩, c4⟩, c5⟩, c6⟩ := hck
  refine z_ofWF (cc := M.2.2.1) (maxL := M.2.2.2.1) (ret := M.2.2.2.2.1) c2 rfl ?_
  intro p e s m args below meth c s₁ B hml hnt hv
  obtain ⟨rfl, hK, hR⟩ := hv
  have hts0 := atoms_spec B.pre
  have htab : c.exceptionTable.toList = tableOf M.2.2.2.2.2 := by
    rw [hh]
    cases ht : c.exceptionTable.toList with
    | nil => rfl
    | cons x r => exact (hnt x (by rw [ht]; exact List.mem_cons_self)).elim
  have hFr : z_Fr p s m (as.map (z_tr ad)).toArray meth c M := ⟨B.exec, B.bytes, hml, B.returns, by have h9 := findClass_of_methodNamed B.named; rw [c1] at h9; exact h9, fun w hw => hts0 w (List.mem_cons_of_mem _ hw), B.notSynchronized, htab, (name_of_methodNamed B.named B.method).1⟩
  have hRm : z_Rm (headSpec (.code M.2.1 M.2.2.1 M.2.2.2.1 M.2.2.2.2.1 :: z_T) (z_rm d kc ks)).room d kc ks := ⟨Nat.le_refl _, Nat.le_refl _, Nat.le_refl _, Nat.le_refl _⟩
  have hl := lv_entry (as.map (z_tr ad)) (n := M.2.2.2.1) (by rw [z_lgl]; exact hw)
  rw [lg_entry_eq]
  rw [z_args_tr] at hl
  have kk := hB p l e _ s m _ below meth c Z D tc adK adV sb M cs is hs ad h.length kc ks _ hM hcs his hhs hFr hK hA hRm (z_ends hFr hK hA hRm c4) (z_outs hFr c4) ad s.heap [] _ 0 0 hR z_ag.rf (Nat.le_refl _) va_S.rf hl (z_args_ok 0 as hok) (fun _ h9 => by cases h9) (Nat.zero_add _) (Nat.zero_add _)
  rw [c3] at kk
  exact kk
theorem z_metH {sx : zX} {d j : Nat} {as : List Value} {h : zH} {o : zO} {h' : zH} {kc ks : Nat} (hB : z_Bd sx d j 0 (lv_args 0 as) [] h o h' kc ks) {M : zMi} {cs : List zI} {is : List zJ} {hs : List zHd} (hM : z_ms[j]? = some M) (hcs : z_cs[j]? = some cs) (his : z_is[j]? = some is) (hhs : z_hs[j]? = some hs) (hck : z_ckM M cs is hs = true) (hw : (lg_sl as).length ≤ M.2.2.2.1)
    (l : Launch) (Z : Nat) (D : va_G) (tc : Nat → ClassId) (adK adV : Nat → Nat) (sb : Nat) (ad : Nat → Nat) (hA : z_A0 adK sb ad) (hok : ∀ v ∈ as, z_okV h.length v) :
    vx_Met l M.2.1 (.codeWith M.2.1 M.2.2.1 M.2.2.2.1 M.2.2.2.2.1 M.2.2.2.2.2 :: z_T) (z_rm d kc ks) (z_Pm l Z D tc adK adV sb sx ad h as) (z_Qm Z D tc ad h.length h' o) (z_Xm Z D tc ad h.length h' o) kc ks (fun q => Z ≤ q) := by
  unfold z_ckM at hck
  simp only [Bool.and_eq_true, decide_eq_true_eq] at hck
  obtain ⟨⟨⟨⟨⟨c1, c2⟩, c3⟩, c4⟩, c5⟩, c6⟩ := hck
  refine z_ofWHF (cc := M.2.2.1) (maxL := M.2.2.2.1) (ret := M.2.2.2.2.1) (hh := M.2.2.2.2.2) c2 rfl ?_
  intro p e s m args below meth c s₁ B hml hv
  obtain ⟨rfl, hK, hR⟩ := hv
  have hts0 := atoms_spec B.pre
  have htab : c.exceptionTable.toList = tableOf M.2.2.2.2.2 := vx_table (x := M.2.1) B (hts0 _ List.mem_cons_self)
  have hFr : z_Fr p s m (as.map (z_tr ad)).toArray meth c M := ⟨B.exec, B.bytes, hml, B.returns, by have h9 := findClass_of_methodNamed B.named; rw [c1] at h9; exact h9, fun w hw => hts0 w (List.mem_cons_of_mem _ hw), B.notSynchronized, htab, (name_of_methodNamed B.named B.method).1⟩
  have hRm : z_Rm (headSpec (.codeWith M.2.1 M.2.2.1 M.2.2.2.1 M.2.2.2.2.1 M.2.2.2.2.2 :: z_T) (z_rm d kc ks)).room d kc ks := ⟨Nat.le_refl _, Nat.le_refl _, Nat.le_refl _, Nat.le_refl _⟩
  have hl := lv_entry (as.map (z_tr ad)) (n := M.2.2.2.1) (by rw [z_lgl]; exact hw)
  rw [lg_entry_eq]
  rw [z_args_tr] at hl
  have kk := hB p l e _ s m _ below meth c Z D tc adK adV sb M cs is hs ad h.length kc ks _ hM hcs his hhs hFr hK hA hRm (z_ends hFr hK hA hRm c4) (z_outs hFr c4) ad s.heap [] _ 0 0 hR z_ag.rf (Nat.le_refl _) va_S.rf hl (z_args_ok 0 as hok) (fun _ h9 => by cases h9) (Nat.zero_add _) (Nat.zero_add _)
  rw [c3] at kk
  exact kk
end
section
/-! calls -/
section ZCont
variable {p : Program} {l : Launch} {e : Env} {R : Room} {s : State} {m : MethodId} {args : Array Value} {below : List Frame} {meth : Method} {c : Code} {Z : Nat} {D : va_G} {tc : Nat → ClassId} {adK adV : Nat → Nat} {sb : Nat} {sx : zX} {M : zMi} {nx : Nat → Nat} {ad0 : Nat → Nat} {n0 C S d : Nat} {Q : State → Prop} {k : Nat} {lo : zL} {st : List Value} {h : zH} {h' : zH} {kc ks x y : Nat} {ad ad' : Nat → Nat} {H H1 : Heap} {locs locs1 : List Loc} {ls : Array Slot} {cells slots : Nat} {rest : List Value} {v : Option Value}
theorem z_cont (hW : z_W p l e R s m args below meth c Z D tc M nx ad0 n0 C S Q (k + 1) lo (v.toList ++ rest) h' kc ks) (hn : nx (k + 1) = nx k + 3) (q2 : z_ag n0 ad0 ad) (q3 : n0 ≤ h.length) (q5 : lv_has ls M.2.2.2.1 (z_tl ad lo)) (q6 : ∀ q ∈ lo, z_okV h.length q.2) (q7 : ∀ w ∈ rest, z_okV h.length w) (q8 : cells + (kc + x) = C) (q9 : slots + (ks + y) = S)
    (g1 : z_ag h.length ad ad') (g2 : z_R Z D tc ad' h' H1) (g3 : h.length ≤ h'.length) (g4 : va_S (fun q => Z ≤ q) s.heap H1 locs1) (g5 : ∀ w, v = some w → z_okV h'.length w) : W p l e R s m args below meth c H1 locs1 (cells + x) (slots + y) Q (F0 m (nx k + 3) ls ((v.map (z_tr ad')).toList ++ rest.map (z_tr ad))) := by
  have kk := hW ad' H1 locs1 ls (cells + x) (slots + y) g2 (q2.trans g1 q3) (by omega) g4 (by rw [z_tl_ag g1 q6]; exact q5) (fun q hq => (q6 q hq).mono g3) (fun w hw => by
    rcases List.mem_append.mp hw with z | z
    · cases v with
      | none => cases z
      | some w9 => rw [Option.toList_some, List.mem_singleton] at z; rw [z]; exact g5 w9 rfl
    · exact (q7 w z).mono g3) (by omega) (by omega)
  rw [hn, List.map_append, z_st_ag g1 q7] at kk
  cases v with
  | none => exact kk
  | some w9 => exact kk
end ZCont
theorem z_find {hs : List zHd} {E : Nat} {q : zHd} (h : hs.find? (fun q => q.2.2.2.2.1 == E) = some q) : q.2.2.2.2.1 = E ∧ ∃ pre suf, hs = pre ++ q :: suf ∧ ∀ z ∈ pre, z.2.2.2.2.1 ≠ E := by
  obtain ⟨h1, pre, suf, h2, h3⟩ := List.find?_eq_some_iff_append.mp h
  refine ⟨by simpa using h1, pre, suf, h2, fun z hz => ?_⟩
  have := h3 z hz
  simpa using this
theorem z_exc_in {x : Nat} {E : String} (h : z_excs[x]? = some E) : E ∈ z_excs := List.mem_of_getElem? h
theorem z_exc_ne {x y : Nat} {E F : String} (h1 : z_excs[x]? = some E) (h2 : z_excs[y]? = some F) (h : x ≠ y) : E ≠ F := by
  have hnd : ∀ x, x < 5 → ∀ y, y < 5 → x ≠ y → z_excs[x]? ≠ z_excs[y]? := by decide
  intro e
  subst e
  have l1 : x < 5 := (List.getElem?_eq_some_iff.mp h1).1
  have l2 : y < 5 := (List.getElem?_eq_some_iff.mp h2).1
  exact hnd x l1 y l2 h (h1.trans h2.symm)
theorem z_castE {x : Nat} {E : String} (h : z_excs[x]? = some E) : Cond.castable E E ∈ z_xw := by
  have : ∀ E ∈ z_excs, Cond.castable E E ∈ z_xw := by decide +kernel
  exact this E (z_exc_in h)
set_option maxHeartbeats 4000000 in
/-- a thrown exception that this method catches -/
theorem z_caught {p : Program} {l : Launch} {e : Env} {R : Room} {s : State} {m : MethodId} {args : Array Value} {below : List Frame} {meth : Method} {c : Code} {Z : Nat} {D : va_G} {tc : Nat → ClassId} {adK adV : Nat → Nat} {sb : Nat} {sx : zX} {M : zMi} {is : List zJ} {hs : List zHd} {ad0 : Nat → Nat} {n0 C S d : Nat} {Q : State → Prop} {k : Nat} {lo : zL} {h : zH} {h' : zH} {kc ks x y : Nat} {ad ad' : Nat → Nat} {H1 : Heap} {locs1 : List Loc} {ls : Array Slot} {cells slots : Nat} {rest : List Value} {E : Nat} {cls : String} {q : zHd} {q9 : Addr} {ce : Cell}
    (hFr : z_Fr p s m args meth c M) (hK : z_K l Z D tc adK adV sb sx s) (hhs : M.2.2.2.2.2 = hs.map (fun x => (x.1, x.2.1, x.2.2.1, x.2.2.2.1))) (hck : hs.all (z_ckH M is) = true) (hcov : hs.all (fun x => decide (x.1 ≤ z_nxOf is k) && decide (z_nxOf is k < x.2.1)) = true) (hf : hs.find? (fun q => q.2.2.2.2.1 == E) = some q) (hE : z_excs[E]? = some cls)
    (hW : z_W p l e R s m args below meth c Z D tc M (z_nxOf is) ad0 n0 C S Q q.2.2.2.2.2.1 (z_drop lo q.2.2.2.2.2.2) [] h' kc ks) (q2 : z_ag n0 ad0 ad) (q3 : n0 ≤ h.length) (q5 : lv_has ls M.2.2.2.1 (z_tl ad lo)) (q6 : ∀ q ∈ lo, z_okV h.length q.2) (q8 : cells + (kc + x) = C) (q9' : slots + (ks + y) = S)
    (g1 : z_ag h.length ad ad') (g2 : z_R Z D tc ad' h' H1) (g3 : h.length ≤ h'.length) (g4 : va_S (fun q => Z ≤ q) s.heap H1 locs1) (e1 : H1[q9]? = some ce) (e2 : ce.vm = .none) (e3 : s.vm.findClass cls = some ce.cls) : vx_W p l e R s m args below meth c H1 locs1 (cells + x) (slots + y) Q (F0 m (z_nxOf is k) ls rest) q9 := by
  obtain ⟨hx, hb, hml, hr, hown, hts, hlocks, htab, hnm⟩ := hFr
  obtain ⟨hqE, pre, suf, hsp, hpre⟩ := z_find hf
  have hcovq : ∀ z ∈ hs, covers (⟨z.1, z.2.1, z.2.2.1, z.2.2.2.1⟩ : ExceptionTableEntry) (z_nxOf is k) = true := fun z hz => List.all_eq_true.mp hcov z hz
  have hH : ∀ z ∈ hs, z_ckH M is z = true := List.all_eq_true.mp hck
  have hqm : q ∈ hs := by rw [hsp]; exact List.mem_append_right _ List.mem_cons_self
  have hq := hH q hqm
  unfold z_ckH at hq
  simp only [Bool.and_eq_true, decide_eq_true_eq] at hq
  obtain ⟨⟨⟨b1, b2⟩, b3⟩, b4⟩ := hq
  split at b4
  case h_2 => cases b4
  next E9 qi hE9 hqi =>
  have hcE : E9 = cls := by rw [hqE, hE] at hE9; exact (Option.some.inj hE9).symm
  subst hcE
  simp only [Bool.and_eq_true, decide_eq_true_eq] at b4
  obtain ⟨⟨⟨b5, b6⟩, b7⟩, b8⟩ := b4
  have kk := fun ls hl => hW ad' H1 locs1 ls (cells + x) (slots + y) g2 (q2.trans g1 q3) (by omega) g4 hl (fun z hz => (q6 z (List.mem_filter.mp hz).1).mono g3) (fun _ h9 => by cases h9) (by omega) (by omega)
  have q5' : lv_has ls M.2.2.2.1 (z_tl ad' lo) := by rw [z_tl_ag g1 q6]; exact q5
  have drop : ∀ (ls' : Array Slot), lv_has ls' M.2.2.2.1 ((q.2.2.2.2.2.2, Value.ref q9) :: (z_tl ad' lo).filter (fun z => !(z.1 == q.2.2.2.2.2.2) && !(z.1 + 1 == q.2.2.2.2.2.2 && z.2.category == 2))) → lv_has ls' M.2.2.2.1 (z_tl ad' (z_drop lo q.2.2.2.2.2.2)) := by
    intro ls' h9
    refine ⟨h9.1, h9.2.1, fun z hz => h9.2.2 z (List.mem_cons_of_mem _ ?_)⟩
    have e9 : (z_tl ad' lo).filter (fun z => !(z.1 == q.2.2.2.2.2.2) && !(z.1 + 1 == q.2.2.2.2.2.2 && z.2.category == 2)) = z_tl ad' (z_drop lo q.2.2.2.2.2.2) := by
      simp only [z_tl, z_drop, List.filter_map]
      congr 1
      apply List.filter_congr
      intro z _
      simp only [Function.comp, z_tr_cat]
    rw [e9]
    exact hz
  refine vx_catch (name := E9) hown (pre.map (fun z => (⟨z.1, z.2.1, z.2.2.1, z.2.2.2.1⟩ : ExceptionTableEntry))) ⟨q.1, q.2.1, q.2.2.1, q.2.2.2.1⟩ (suf.map (fun z => (⟨z.1, z.2.1, z.2.2.1, z.2.2.2.1⟩ : ExceptionTableEntry))) ?_ ?_ (hcovq q hqm) (by show q.2.2.2.1 ≠ 0; omega) (hts _ (z_mem_in b5)) (va_Nw.use rfl (hK.2.2.2.2.2.2.2.2.2.2.2.2.2.2 _ (z_castE hE))) e1 e2 e3 ?_
  · rw [htab, hhs, hsp]
    simp only [tableOf, List.map_append, List.map_cons, List.map_map]
    rfl
  · intro z hz
    obtain ⟨z0, hz0, rfl⟩ := List.mem_map.mp hz
    have hz1 : z0 ∈ hs := by rw [hsp]; exact List.mem_append_left _ hz0
    have hz2 := hH z0 hz1
    unfold z_ckH at hz2
    simp only [Bool.and_eq_true, decide_eq_true_eq] at hz2
    obtain ⟨⟨⟨u1, u2⟩, u3⟩, u4⟩ := hz2
    split at u4
    case h_2 => cases u4
    next F9 qj hF9 hqj =>
    simp only [Bool.and_eq_true, decide_eq_true_eq] at u4
    refine Or.inr ⟨by show z0.2.2.2.1 ≠ 0; omega, F9, hts _ (z_mem_in u4.1.1.1), ?_⟩
    exact hK.2.2.2.2.2.2.2.2.2.2.2.2.2.1 _ (z_exc_in hE) _ (z_exc_in hF9) (z_exc_ne hE hF9 (fun e9 => hpre z0 hz0 e9.symm))
  · show W p l e R s m args below meth c H1 locs1 (cells + x) (slots + y) Q (F0 m q.2.2.1 ls [.ref q9])
    rw [← b6]
    split at b8
    · next va hva =>
      simp only [Bool.and_eq_true, decide_eq_true_eq] at b8
      obtain ⟨⟨rfl, b9⟩, b10⟩ := b8
      rw [hva, b9] at b7
      refine lv_astore hx hb b7 q5' b2 rfl (fun ls' hl' => ?_)
      have k9 := kk ls' (drop ls' hl')
      rw [b10] at k9
      exact k9
    · next va hva =>
      simp only [Bool.and_eq_true, decide_eq_true_eq] at b8
      obtain ⟨⟨b8a, b9⟩, b10⟩ := b8
      rw [hva, b9] at b7
      refine lv_astore_n hx hb b7 b8a q5' b2 rfl (fun ls' hl' => ?_)
      have k9 := kk ls' (drop ls' hl')
      rw [b10] at k9
      exact k9
    · cases b8
end
section
/-! the calls of the abstract machine are the machine's -/
theorem z_A0.ag {adK ad0 ad : Nat → Nat} {sb n0 : Nat} (hA : z_A0 adK sb ad0) (h : z_ag n0 ad0 ad) : z_A0 adK sb ad :=
  ⟨fun k hk => by rw [h _ (Or.inr (Nat.le_add_right _ _))]; exact hA.1 k hk, by rw [h zS (Or.inr (by decide))]; exact hA.2⟩
theorem z_cal_in {i : zI} {d : Nat} {st : List Value} {h : zH} {j : Nat} {as rest : List Value} (hc : z_cal i d st h = some (j, as, rest)) : z_cal0 i d st h = some (j, as, rest) ∧ ∃ M', z_ms[j]? = some M' ∧ (lg_sl as).length ≤ M'.2.2.2.1 := by
  unfold z_cal at hc
  split at hc
  · next a as9 rest9 h0 =>
    split at hc
    · next M' hM' =>
      by_cases hl : (lg_sl as9).length ≤ M'.2.2.2.1
      · rw [if_pos hl] at hc
        simp only [Option.some.injEq, Prod.mk.injEq] at hc
        obtain ⟨rfl, rfl, rfl⟩ := hc
        exact ⟨h0, M', hM', hl⟩
      · rw [if_neg hl] at hc; cases hc
    · cases hc
  · cases hc
theorem z_st {st : List Value} {n : Nat} {v : Value} {rest : List Value} (h : st.drop n = v :: rest) : st = st.take n ++ v :: rest := by rw [← h]; exact (List.take_append_drop n st).symm
theorem z_cal54 {i : zI} {d : Nat} {st : List Value} {h : zH} {j : Nat} {as rest : List Value} (hi : i.1 = 54) (hc : z_cal0 i d st h = some (j, as, rest)) : j = i.2.1 ∧ 0 < d ∧ i.2.2.1 ≤ st.length ∧ z_cat rest ≤ 8 ∧ ∃ r ci fs, as = .ref r :: (st.take i.2.2.1).reverse ∧ st = st.take i.2.2.1 ++ .ref r :: rest ∧ h[r]? = some (.inr (ci, fs)) ∧ (ci : Int) = i.2.2.2 := by
  unfold z_cal0 at hc
  by_cases hd : d = 0 ∨ st.length < i.2.2.1
  · rw [if_pos hd] at hc; cases hc
  rw [if_neg hd] at hc
  have hc2 : (match st.drop i.2.2.1 with
    | .ref r :: rest => (match h[r]? with
      | some (.inr (c, _)) => if (c : Int) = i.2.2.2 ∧ z_cat rest ≤ 8 then some (i.2.1, .ref r :: (st.take i.2.2.1).reverse, rest) else none
      | _ => none)
    | _ => none) = some (j, as, rest) := by
    rw [hi] at hc; exact hc
  split at hc2
  case h_2 => cases hc2
  next r rest9 hdr =>
  split at hc2
  case h_2 => cases hc2
  next ci fs hr =>
  by_cases h9 : (ci : Int) = i.2.2.2 ∧ z_cat rest9 ≤ 8
  case neg => rw [if_neg h9] at hc2; cases hc2
  rw [if_pos h9] at hc2
  simp only [Option.some.injEq, Prod.mk.injEq] at hc2
  obtain ⟨rfl, rfl, rfl⟩ := hc2
  exact ⟨rfl, by omega, by omega, h9.2, r, ci, fs, rfl, z_st hdr, hr, h9.1⟩
theorem z_cal5x {i : zI} {d : Nat} {st : List Value} {h : zH} {j : Nat} {as rest : List Value} (hi : i.1 = 55 ∨ i.1 = 72) (hc : z_cal0 i d st h = some (j, as, rest)) : j = i.2.1 ∧ 0 < d ∧ i.2.2.1 ≤ st.length ∧ z_cat rest ≤ 8 ∧ as = (st.take i.2.2.1).reverse ∧ rest = st.drop i.2.2.1 := by
  unfold z_cal0 at hc
  by_cases hd : d = 0 ∨ st.length < i.2.2.1
  · rw [if_pos hd] at hc; cases hc
  rw [if_neg hd] at hc
  have hc2 : (if z_cat (st.drop i.2.2.1) ≤ 8 then some (i.2.1, (st.take i.2.2.1).reverse, st.drop i.2.2.1) else none) = some (j, as, rest) := by
    rcases hi with hi | hi <;> (rw [hi] at hc; exact hc)
  by_cases h9 : z_cat (st.drop i.2.2.1) ≤ 8
  case neg => rw [if_neg h9] at hc2; cases hc2
  rw [if_pos h9] at hc2
  simp only [Option.some.injEq, Prod.mk.injEq] at hc2
  obtain ⟨rfl, rfl, rfl⟩ := hc2
  exact ⟨rfl, by omega, by omega, h9, rfl, rfl⟩
theorem z_cal56 {i : zI} {d : Nat} {st : List Value} {h : zH} {j : Nat} {as rest : List Value} (hi : i.1 = 56 ∨ i.1 = 73) (hc : z_cal0 i d st h = some (j, as, rest)) : j = i.2.1 ∧ 0 < d ∧ i.2.2.1 ≤ st.length ∧ z_cat rest ≤ 8 ∧ ∃ r, as = .ref r :: (st.take i.2.2.1).reverse ∧ st = st.take i.2.2.1 ++ .ref r :: rest := by
  unfold z_cal0 at hc
  by_cases hd : d = 0 ∨ st.length < i.2.2.1
  · rw [if_pos hd] at hc; cases hc
  rw [if_neg hd] at hc
  have hc2 : (match st.drop i.2.2.1 with
    | .ref r :: rest => if z_cat rest ≤ 8 then some (i.2.1, .ref r :: (st.take i.2.2.1).reverse, rest) else none
    | _ => none) = some (j, as, rest) := by
    rcases hi with hi | hi <;> (rw [hi] at hc; exact hc)
  split at hc2
  case h_2 => cases hc2
  next r rest9 hdr =>
  by_cases h9 : z_cat rest9 ≤ 8
  case neg => rw [if_neg h9] at hc2; cases hc2
  rw [if_pos h9] at hc2
  simp only [Option.some.injEq, Prod.mk.injEq] at hc2
  obtain ⟨rfl, rfl, rfl⟩ := hc2
  exact ⟨rfl, by omega, by omega, h9, r, rfl, z_st hdr⟩
theorem z_yok_in {y : MethodName} {n : Nat} (h : z_yok y n = true) : y.cls ≠ "java/lang/invoke/MethodHandle" ∧ y.cls ≠ "java/lang/invoke/VarHandle" ∧ (parseMethodDescriptor y.desc).map (fun d => d.parameters.length) = some n := of_decide_eq_true h
theorem z_goodC {w : Cond} (h : w ∈ z_T) : GoodIn z_T (w :: z_T) := z_good (fun w' hw => by
    rcases List.mem_cons.mp hw with rfl | h9
    · exact h
    · exact h9)
theorem z_cwB {R : Room} {s : State} {args : Array Value} {own : String} {index maxL mc ms : Nat} {y : MethodName} {bytes : ByteArray} {ret : Option FieldType} {rm : Room} (n : Nat) (ht : ∀ w ∈ z_T, w.before args s = true) (h1 : Cond.methodLink own index y ∈ z_T) (h3 : Cond.initialized y.cls ∈ z_T) (h4 : Cond.code y bytes maxL ret ∈ z_T) (hrc : rm.cells = mc) (hrs : rm.slots = ms)
    (hd : z_yok y n = true) (hR : rm.frames + 1 ≤ R.frames ∧ 8 + (maxL + 11) + rm.locals ≤ R.locals) : CallB R s args own index y bytes maxL ret (.code y bytes maxL ret :: z_T) rm mc ms n :=
  callB_of n ht (z_goodC h4) rfl hrc hrs (ht _ h3) (ht _ h1) (z_yok_in hd) hR
theorem z_rmok {R : Room} {d C S kc ks maxL : Nat} (hR : z_Rm R d C S) (hd : 0 < d) (hm : maxL ≤ 41) : (z_rm (d - 1) kc ks).frames + 1 ≤ R.frames ∧ 8 + (maxL + 11) + (z_rm (d - 1) kc ks).locals ≤ R.locals := by
  obtain ⟨h1, h2, -, -⟩ := hR
  constructor
  · show d - 1 + 1 ≤ R.frames; omega
  · show 8 + (maxL + 11) + 60 * (d - 1) ≤ R.locals; omega
theorem z_asok {st : List Value} {n : Nat} {v : Value} {rest : List Value} {k : Nat} (hst : st = st.take n ++ v :: rest) (h : ∀ w ∈ st, z_okV k w) : (∀ w ∈ v :: (st.take n).reverse, z_okV k w) ∧ ∀ w ∈ rest, z_okV k w := by
  rw [hst] at h
  refine ⟨fun w hw => ?_, fun w hw => h w (List.mem_append_right _ (List.mem_cons_of_mem _ hw))⟩
  rcases List.mem_cons.mp hw with rfl | hw
  · exact h _ (List.mem_append_right _ List.mem_cons_self)
  · exact h w (List.mem_append_left _ (List.mem_reverse.mp hw))
theorem z_stk {st : List Value} {n : Nat} {v : Value} {rest : List Value} (ad : Nat → Nat) (hst : st = st.take n ++ v :: rest) : st.map (z_tr ad) = (((st.take n).reverse).map (z_tr ad)).reverse ++ z_tr ad v :: rest.map (z_tr ad) := by
  rw [List.map_reverse, List.reverse_reverse]
  conv => lhs; rw [hst]
  rw [List.map_append, List.map_cons]
theorem z_stk0 {st : List Value} {n : Nat} (ad : Nat → Nat) : st.map (z_tr ad) = (((st.take n).reverse).map (z_tr ad)).reverse ++ (st.drop n).map (z_tr ad) := by
  rw [List.map_reverse, List.reverse_reverse, ← List.map_append, List.take_append_drop]
theorem z_lens {st : List Value} {n : Nat} (ad : Nat → Nat) (h : n ≤ st.length) : (((st.take n).reverse).map (z_tr ad)).length = n := by
  rw [List.length_map, List.length_reverse, List.length_take]; omega
section ZCalls
variable {p : Program} {l : Launch} {e : Env} {R : Room} {s : State} {m : MethodId} {args : Array Value} {below : List Frame} {meth : Method} {c : Code} {Z : Nat} {D : va_G} {tc : Nat → ClassId} {adK adV : Nat → Nat} {sb : Nat} {sx : zX} {M : zMi} {is : List zJ} {hs : List zHd} {ad0 : Nat → Nat} {n0 C S d : Nat} {Q : State → Prop} {k : Nat} {lo : zL} {st : List Value} {h : zH} {i : zI} {q : zJ} {j' : Nat} {as rest : List Value} {oi : zO} {h1 : zH} {x1 y1 kc ks : Nat} {M' : zMi} {cs' : List zI} {is' : List zJ} {hs' : List zHd} {v : Option Value}
set_option maxHeartbeats 4000000 in
theorem z_cl54 (hFr : z_Fr p s m args meth c M) (hK : z_K l Z D tc adK adV sb sx s) (hA : z_A0 adK sb ad0) (hR : z_Rm R d C S) (hhs : M.2.2.2.2.2 = hs.map (fun x => (x.1, x.2.1, x.2.2.1, x.2.2.2.1))) (hckH : hs.all (z_ckH M is) = true) (hi1 : i.1 = 54) (hck : z_ckB M is hs i q k = true) (hd : decode M.2.2.1 q.1 = .ok (q.2.1, q.2.2.1)) (hnx : z_nxOf is k = q.1) (hcal : z_cal0 i d st h = some (j', as, rest)) (hM' : z_ms[j']? = some M') (hcs' : z_cs[j']? = some cs') (his' : z_is[j']? = some is') (hhs' : z_hs[j']? = some hs') (hck' : z_ckM M' cs' is' hs' = true) (hw : (lg_sl as).length ≤ M'.2.2.2.1)
    (hB : z_Bd sx (d - 1) j' 0 (lv_args 0 as) [] h oi h1 x1 y1)
    (hret : ∀ v, oi = .inl v → z_W p l e R s m args below meth c Z D tc M (z_nxOf is) ad0 n0 C S Q (k + 1) lo (v.toList ++ rest) h1 kc ks)
    (hthr : ∀ E, oi = .inr E → (∃ qh, hs.find? (fun q => q.2.2.2.2.1 == E) = some qh ∧ z_W p l e R s m args below meth c Z D tc M (z_nxOf is) ad0 n0 C S Q qh.2.2.2.2.2.1 (z_drop lo qh.2.2.2.2.2.2) [] h1 kc ks) ∨ (hs = [] ∧ kc = 0 ∧ ks = 0 ∧ z_HX p l e R s m args below meth c Z D tc is hs ad0 n0 C S Q (.inr E) h1)) :
    z_W p l e R s m args below meth c Z D tc M (z_nxOf is) ad0 n0 C S Q k lo st h (kc + x1) (ks + y1) := by
  obtain ⟨rfl, hd0, hn, hcat, r, ci, fs, rfl, hst, hr, hci⟩ := z_cal54 hi1 hcal
  rw [z_ckB54 hi1, hM'] at hck
  split at hck
  case h_2 => cases hck
  next idx M9 hins hM9 =>
  cases hM9
  simp only [Bool.and_eq_true, decide_eq_true_eq] at hck
  obtain ⟨⟨⟨⟨⟨⟨⟨⟨⟨⟨⟨⟨⟨c1, c2⟩, c3⟩, c4⟩, c5⟩, c6⟩, c7⟩, c8⟩, c9⟩, c10⟩, c11⟩, c12⟩, c13⟩, c14⟩ := hck
  rw [hins, c1, ← hnx] at hd
  rw [← hnx] at c2
  have hFr0 := hFr
  obtain ⟨hx, hb, hml, hr9, hown, hts, -⟩ := hFr
  intro ad H locs ls cells slots q1 q2 q3 q4 q5 q6 q7 q8 q9
  obtain ⟨ok1, ok2⟩ := z_asok hst q7
  have hMet := z_met hB hM' hcs' his' hhs' hck' hw c3 l Z D tc adK adV sb ad (hA.ag q2) ok1
  have hci2 : i.2.2.2.toNat = ci := by omega
  rw [hci2] at c5
  obtain ⟨qc, hqc, hqn⟩ : ∃ qc, vwCl[ci]? = some qc ∧ qc.1 = M'.1 := by
    cases hv : vwCl[ci]? with
    | none => rw [hv] at c5; cases c5
    | some qc => rw [hv] at c5; exact ⟨qc, rfl, Option.some.inj c5⟩
  have hrecv := va_recv (q := qc) (q0 := r) hK.2.1 q1.1 hqc (z_ws_get hr)
  rw [hqn] at hrecv
  have cw : CallW R s args M.1 M'.1 idx M'.2.1 M'.2.2.1 M'.2.2.2.1 M'.2.2.2.2.1 (.code M'.2.1 M'.2.2.1 M'.2.2.2.1 M'.2.2.2.2.1 :: z_T) (z_rm (d - 1) x1 y1) x1 y1 i.2.2.1 := ⟨z_cwB _ hts (z_w_in c7) (by rw [c4]; exact z_w_in c10) (z_w_in c11) rfl rfl c12 (z_rmok hR hd0 c13), hts _ (z_w_in c8), hts _ (z_w_in c9)⟩
  refine z_callx (vx_runV (As := ((st.take i.2.2.1).reverse).map (z_tr ad)) (rest := rest.map (z_tr ad)) (b := ad r) ⟨hx, hb, hml, hown, hts⟩ hMet cw ⟨z_Pm_blind, hrecv, fun U hU hW => ⟨rfl, hK.at q4 hU hW, by rw [hU]; exact q1⟩⟩ rfl (z_lens ad hn) q5.1 (z_stk ad hst) (lv_room (by rw [z_cat_tr]; exact hcat)) hd ⟨?_, ?_⟩) q4 (fun v hv ad' H1 locs1 g1 g2 g3 g4 g5 => z_cont (hret v hv) c2 q2 q3 q5 q6 ok2 q8 q9 g1 g2 g3 g4 g5) ?_
  · have := hR.2.2.1; omega
  · have := hR.2.2.2; omega
  intro x E hx9 hE ad' H1 locs1 q10 ce g1 g2 g3 g4 e1 e2 e3
  rcases hthr x hx9 with ⟨qh, hf, hW⟩ | ⟨hh0, rfl, rfl, hX⟩
  · exact z_caught (d := d) hFr0 hK hhs hckH (by rw [hnx]; exact c14) hf hE hW q2 q3 q5 q6 q8 q9 g1 g2 g3 g4 e1 e2 e3
  · exact hX x E rfl hE hh0 k ad' H1 locs1 ls (cells + x1) (slots + y1) (rest.map (z_tr ad)) q10 ce g2 (q2.trans g1 q3) (by omega) g4 e1 e2 e3 (by omega) (by omega)
set_option maxHeartbeats 4000000 in
theorem z_cl55 (hFr : z_Fr p s m args meth c M) (hK : z_K l Z D tc adK adV sb sx s) (hA : z_A0 adK sb ad0) (hR : z_Rm R d C S) (hi1 : i.1 = 55) (hck : z_ckB M is hs i q k = true) (hd : decode M.2.2.1 q.1 = .ok (q.2.1, q.2.2.1)) (hnx : z_nxOf is k = q.1) (hcal : z_cal0 i d st h = some (j', as, rest)) (hM' : z_ms[j']? = some M') (hcs' : z_cs[j']? = some cs') (his' : z_is[j']? = some is') (hhs' : z_hs[j']? = some hs') (hck' : z_ckM M' cs' is' hs' = true) (hw : (lg_sl as).length ≤ M'.2.2.2.1)
    (hB : z_Bd sx (d - 1) j' 0 (lv_args 0 as) [] h (.inl v) h1 x1 y1)
    (hret : z_W p l e R s m args below meth c Z D tc M (z_nxOf is) ad0 n0 C S Q (k + 1) lo (v.toList ++ rest) h1 kc ks) :
    z_W p l e R s m args below meth c Z D tc M (z_nxOf is) ad0 n0 C S Q k lo st h (kc + x1) (ks + y1) := by
  obtain ⟨rfl, hd0, hn, hcat, rfl, rfl⟩ := z_cal5x (Or.inl hi1) hcal
  rw [z_ckB55 hi1, hM'] at hck
  split at hck
  case h_2 => cases hck
  next idx M9 hins hM9 =>
  cases hM9
  simp only [Bool.and_eq_true, decide_eq_true_eq] at hck
  obtain ⟨⟨⟨⟨⟨⟨⟨⟨⟨c1, c2⟩, c3⟩, c4⟩, c5⟩, c6⟩, c7⟩, c8⟩, c9⟩, c10⟩ := hck
  rw [hins, c1, ← hnx] at hd
  rw [← hnx] at c2
  obtain ⟨hx, hb, hml, hr9, hown, hts, -⟩ := hFr
  intro ad H locs ls cells slots q1 q2 q3 q4 q5 q6 q7 q8 q9
  have ok1 : ∀ w ∈ (st.take i.2.2.1).reverse, z_okV h.length w := fun w hw => q7 w (List.mem_of_mem_take (List.mem_reverse.mp hw))
  have ok2 : ∀ w ∈ st.drop i.2.2.1, z_okV h.length w := fun w hw => q7 w (List.mem_of_mem_drop hw)
  have hMet := z_toMet (z_met hB hM' hcs' his' hhs' hck' hw c3 l Z D tc adK adV sb ad (hA.ag q2) ok1)
  have cw : CallB R s args M.1 idx M'.2.1 M'.2.2.1 M'.2.2.2.1 M'.2.2.2.2.1 (.code M'.2.1 M'.2.2.1 M'.2.2.2.1 M'.2.2.2.2.1 :: z_T) (z_rm (d - 1) x1 y1) x1 y1 i.2.2.1 := z_cwB _ hts (z_w_in c5) (by rw [c4]; exact z_w_in c7) (z_w_in c8) rfl rfl c9 (z_rmok hR hd0 c10)
  refine z_calln (va_runS (As := ((st.take i.2.2.1).reverse).map (z_tr ad)) (rest := (st.drop i.2.2.1).map (z_tr ad)) ⟨hx, hb, hml, hown, hts⟩ hMet ⟨cw, hts _ (z_w_in c6)⟩ ⟨z_Pm_blind, fun U hU hW => ⟨rfl, hK.at q4 hU hW, by rw [hU]; exact q1⟩⟩ rfl (z_lens ad hn) q5.1 (z_stk0 ad) (lv_room (by rw [z_cat_tr]; exact hcat)) hd ⟨?_, ?_⟩) q4 (fun v9 hv ad' H1 locs1 g1 g2 g3 g4 g5 => z_cont (v := v9) (by cases hv; exact hret) c2 q2 q3 q5 q6 ok2 q8 q9 g1 g2 g3 g4 g5)
  · have := hR.2.2.1; omega
  · have := hR.2.2.2; omega
set_option maxHeartbeats 4000000 in
theorem z_cl72 (hFr : z_Fr p s m args meth c M) (hK : z_K l Z D tc adK adV sb sx s) (hA : z_A0 adK sb ad0) (hR : z_Rm R d C S) (hi1 : i.1 = 72) (hck : z_ckB M is hs i q k = true) (hd : decode M.2.2.1 q.1 = .ok (q.2.1, q.2.2.1)) (hnx : z_nxOf is k = q.1) (hcal : z_cal0 i d st h = some (j', as, rest)) (hM' : z_ms[j']? = some M') (hcs' : z_cs[j']? = some cs') (his' : z_is[j']? = some is') (hhs' : z_hs[j']? = some hs') (hck' : z_ckM M' cs' is' hs' = true) (hw : (lg_sl as).length ≤ M'.2.2.2.1)
    (hB : z_Bd sx (d - 1) j' 0 (lv_args 0 as) [] h (.inl v) h1 x1 y1)
    (hret : z_W p l e R s m args below meth c Z D tc M (z_nxOf is) ad0 n0 C S Q (k + 1) lo (v.toList ++ rest) h1 kc ks) :
    z_W p l e R s m args below meth c Z D tc M (z_nxOf is) ad0 n0 C S Q k lo st h (kc + x1) (ks + y1) := by
  obtain ⟨rfl, hd0, hn, hcat, rfl, rfl⟩ := z_cal5x (Or.inr hi1) hcal
  rw [z_ckB72 hi1, hM'] at hck
  split at hck
  case h_2 => cases hck
  next idx M9 hins hM9 =>
  cases hM9
  simp only [Bool.and_eq_true, decide_eq_true_eq] at hck
  obtain ⟨⟨⟨⟨⟨⟨⟨⟨⟨c1, c2⟩, c3⟩, c4⟩, c5⟩, c6⟩, c7⟩, c8⟩, c9⟩, c10⟩ := hck
  rw [hins, c1, ← hnx] at hd
  rw [← hnx] at c2
  obtain ⟨hx, hb, hml, hr9, hown, hts, -⟩ := hFr
  intro ad H locs ls cells slots q1 q2 q3 q4 q5 q6 q7 q8 q9
  have ok1 : ∀ w ∈ (st.take i.2.2.1).reverse, z_okV h.length w := fun w hw => q7 w (List.mem_of_mem_take (List.mem_reverse.mp hw))
  have ok2 : ∀ w ∈ st.drop i.2.2.1, z_okV h.length w := fun w hw => q7 w (List.mem_of_mem_drop hw)
  have hMet := z_toMet (z_metH hB hM' hcs' his' hhs' hck' hw l Z D tc adK adV sb ad (hA.ag q2) ok1)
  have hR9 := z_rmok (kc := x1) (ks := y1) hR hd0 c10
  have hy := z_yok_in c9
  have cw : vx_CSW R s args M.1 idx M'.2.1 M'.2.2.1 M'.2.2.2.1 M'.2.2.2.2.1 M'.2.2.2.2.2 (.codeWith M'.2.1 M'.2.2.1 M'.2.2.2.1 M'.2.2.2.2.1 M'.2.2.2.2.2 :: z_T) (z_rm (d - 1) x1 y1) x1 y1 i.2.2.1 :=
    ⟨⟨rfl, rfl, hR9.1, hR9.2, pay_in hts (z_goodC (z_w_in c8)), List.mem_cons_self⟩, hts _ (z_w_in c8), hts _ (by rw [c4]; exact z_w_in c7), ⟨hy.1, hy.2.1⟩, fun sig h9 => by have h2 := hy.2.2; rw [h9] at h2; exact (Option.some.inj h2).symm, hts _ (z_w_in c5), hts _ (z_w_in c6)⟩
  refine z_calln (vx_runSW (As := ((st.take i.2.2.1).reverse).map (z_tr ad)) (rest := (st.drop i.2.2.1).map (z_tr ad)) ⟨hx, hb, hml, hown, hts⟩ hMet cw ⟨z_Pm_blind, fun U hU hW => ⟨rfl, hK.at q4 hU hW, by rw [hU]; exact q1⟩⟩ rfl (z_lens ad hn) q5.1 (z_stk0 ad) (lv_room (by rw [z_cat_tr]; exact hcat)) hd ⟨?_, ?_⟩) q4 (fun v9 hv ad' H1 locs1 g1 g2 g3 g4 g5 => z_cont (v := v9) (by cases hv; exact hret) c2 q2 q3 q5 q6 ok2 q8 q9 g1 g2 g3 g4 g5)
  · have := hR.2.2.1; omega
  · have := hR.2.2.2; omega
set_option maxHeartbeats 4000000 in
theorem z_cl56 (hFr : z_Fr p s m args meth c M) (hK : z_K l Z D tc adK adV sb sx s) (hA : z_A0 adK sb ad0) (hR : z_Rm R d C S) (hi1 : i.1 = 56) (hck : z_ckB M is hs i q k = true) (hd : decode M.2.2.1 q.1 = .ok (q.2.1, q.2.2.1)) (hnx : z_nxOf is k = q.1) (hcal : z_cal0 i d st h = some (j', as, rest)) (hM' : z_ms[j']? = some M') (hcs' : z_cs[j']? = some cs') (his' : z_is[j']? = some is') (hhs' : z_hs[j']? = some hs') (hck' : z_ckM M' cs' is' hs' = true) (hw : (lg_sl as).length ≤ M'.2.2.2.1)
    (hB : z_Bd sx (d - 1) j' 0 (lv_args 0 as) [] h (.inl v) h1 x1 y1)
    (hret : z_W p l e R s m args below meth c Z D tc M (z_nxOf is) ad0 n0 C S Q (k + 1) lo (v.toList ++ rest) h1 kc ks) :
    z_W p l e R s m args below meth c Z D tc M (z_nxOf is) ad0 n0 C S Q k lo st h (kc + x1) (ks + y1) := by
  obtain ⟨rfl, hd0, hn, hcat, r, rfl, hst⟩ := z_cal56 (Or.inl hi1) hcal
  rw [z_ckB56 hi1, hM'] at hck
  split at hck
  case h_2 => cases hck
  next idx M9 hins hM9 =>
  cases hM9
  simp only [Bool.and_eq_true, decide_eq_true_eq] at hck
  obtain ⟨⟨⟨⟨⟨⟨⟨⟨⟨⟨⟨c1, c2⟩, c3⟩, c4⟩, c5⟩, c6⟩, c7⟩, c8⟩, c9⟩, c10⟩, c11⟩, c12⟩ := hck
  rw [hins, c1, ← hnx] at hd
  rw [← hnx] at c2
  obtain ⟨hx, hb, hml, hr9, hown, hts, -⟩ := hFr
  intro ad H locs ls cells slots q1 q2 q3 q4 q5 q6 q7 q8 q9
  obtain ⟨ok1, ok2⟩ := z_asok hst q7
  have hMet := z_toMet (z_met hB hM' hcs' his' hhs' hck' hw c3 l Z D tc adK adV sb ad (hA.ag q2) ok1)
  rw [c6] at hMet
  have cw : CallB R s args M.1 idx M'.2.1 M'.2.2.1 M'.2.2.2.1 none (.code M'.2.1 M'.2.2.1 M'.2.2.2.1 none :: z_T) (z_rm (d - 1) x1 y1) x1 y1 i.2.2.1 := z_cwB _ hts (z_w_in c7) (by rw [c4]; exact z_w_in c9) (z_w_in c10) rfl rfl c11 (z_rmok hR hd0 c12)
  refine z_calln (va_runI (As := ((st.take i.2.2.1).reverse).map (z_tr ad)) (rest := rest.map (z_tr ad)) (b := ad r) ⟨hx, hb, hml, hown, hts⟩ hMet ⟨cw, c5, hts _ (z_w_in c8)⟩ ⟨z_Pm_blind, fun U hU hW => ⟨rfl, hK.at q4 hU hW, by rw [hU]; exact q1⟩⟩ rfl (z_lens ad hn) q5.1 (z_stk ad hst) (lv_room (by rw [z_cat_tr]; exact hcat)) hd ⟨?_, ?_⟩) q4 (fun v9 hv ad' H1 locs1 g1 g2 g3 g4 g5 => z_cont (v := v9) (by cases hv; exact hret) c2 q2 q3 q5 q6 ok2 q8 q9 g1 g2 g3 g4 g5)
  · have := hR.2.2.1; omega
  · have := hR.2.2.2; omega
set_option maxHeartbeats 4000000 in
theorem z_cl73 (hFr : z_Fr p s m args meth c M) (hK : z_K l Z D tc adK adV sb sx s) (hA : z_A0 adK sb ad0) (hR : z_Rm R d C S) (hi1 : i.1 = 73) (hck : z_ckB M is hs i q k = true) (hd : decode M.2.2.1 q.1 = .ok (q.2.1, q.2.2.1)) (hnx : z_nxOf is k = q.1) (hcal : z_cal0 i d st h = some (j', as, rest)) (hM' : z_ms[j']? = some M') (hcs' : z_cs[j']? = some cs') (his' : z_is[j']? = some is') (hhs' : z_hs[j']? = some hs') (hck' : z_ckM M' cs' is' hs' = true) (hw : (lg_sl as).length ≤ M'.2.2.2.1)
    (hB : z_Bd sx (d - 1) j' 0 (lv_args 0 as) [] h (.inl v) h1 x1 y1)
    (hret : z_W p l e R s m args below meth c Z D tc M (z_nxOf is) ad0 n0 C S Q (k + 1) lo (v.toList ++ rest) h1 kc ks) :
    z_W p l e R s m args below meth c Z D tc M (z_nxOf is) ad0 n0 C S Q k lo st h (kc + x1) (ks + y1) := by
  obtain ⟨rfl, hd0, hn, hcat, r, rfl, hst⟩ := z_cal56 (Or.inr hi1) hcal
  rw [z_ckB73 hi1, hM'] at hck
  split at hck
  case h_2 => cases hck
  next idx M9 hins hM9 =>
  cases hM9
  simp only [Bool.and_eq_true, decide_eq_true_eq] at hck
  obtain ⟨⟨⟨⟨⟨⟨⟨⟨⟨⟨⟨c1, c2⟩, c3⟩, c4⟩, c5⟩, c6⟩, c7⟩, c8⟩, c9⟩, c10⟩, c11⟩, c12⟩ := hck
  rw [hins, c1, ← hnx] at hd
  rw [← hnx] at c2
  obtain ⟨hx, hb, hml, hr9, hown, hts, -⟩ := hFr
  intro ad H locs ls cells slots q1 q2 q3 q4 q5 q6 q7 q8 q9
  obtain ⟨ok1, ok2⟩ := z_asok hst q7
  have hMet := z_toMet (z_met hB hM' hcs' his' hhs' hck' hw c3 l Z D tc adK adV sb ad (hA.ag q2) ok1)
  rw [c6] at hMet
  have cw : va_CN R s args M.1 idx M'.2.1 RX11 M'.2.2.1 M'.2.2.2.1 none (.code M'.2.1 M'.2.2.1 M'.2.2.2.1 none :: z_T) (z_rm (d - 1) x1 y1) x1 y1 i.2.2.1 := va_cnB _ hts (z_goodC (z_w_in c10)) rfl rfl rfl (hK.2.2.2.2.2.1 _ c7) (hts _ (by rw [c4]; exact z_w_in c9)) (z_yok_in c11) (z_rmok hR hd0 c12)
  refine z_calln (va_runIN (As := ((st.take i.2.2.1).reverse).map (z_tr ad)) (rest := rest.map (z_tr ad)) (b := ad r) ⟨hx, hb, hml, hown, hts⟩ hMet ⟨cw, c5, hts _ (z_w_in c8)⟩ ⟨z_Pm_blind, fun U hU hW => ⟨rfl, hK.at q4 hU hW, by rw [hU]; exact q1⟩⟩ rfl (z_lens ad hn) q5.1 (z_stk ad hst) (lv_room (by rw [z_cat_tr]; exact hcat)) hd ⟨?_, ?_⟩) q4 (fun v9 hv ad' H1 locs1 g1 g2 g3 g4 g5 => z_cont (v := v9) (by cases hv; exact hret) c2 q2 q3 q5 q6 ok2 q8 q9 g1 g2 g3 g4 g5)
  · have := hR.2.2.1; omega
  · have := hR.2.2.2; omega
end ZCalls
end
section
/-! the run is the machine's: one induction -/
theorem z_cal_no {i : zI} {d : Nat} {st : List Value} {h : zH} {j : Nat} {as rest : List Value} (hc : z_cal0 i d st h = some (j, as, rest)) : i.1 = 54 ∨ i.1 = 55 ∨ i.1 = 72 ∨ i.1 = 56 ∨ i.1 = 73 := by
  unfold z_cal0 at hc
  by_cases hd : d = 0 ∨ st.length < i.2.2.1
  · rw [if_pos hd] at hc; cases hc
  rw [if_neg hd] at hc
  split at hc
  · next h9 => exact Or.inl h9
  · next h9 => exact Or.inr (Or.inl h9)
  · next h9 => exact Or.inr (Or.inr (Or.inl h9))
  · next h9 => exact Or.inr (Or.inr (Or.inr (Or.inl h9)))
  · next h9 => exact Or.inr (Or.inr (Or.inr (Or.inr h9)))
  · cases hc
theorem z_ckB_op {M : zMi} {is : List zJ} {hs : List zHd} {i : zI} {q : zJ} {k : Nat} (h : i.1 ≠ 50 ∧ i.1 ≠ 51 ∧ i.1 ≠ 52 ∧ i.1 ≠ 53 ∧ i.1 ≠ 62 ∧ i.1 ≠ 54 ∧ i.1 ≠ 55 ∧ i.1 ≠ 72 ∧ i.1 ≠ 56 ∧ i.1 ≠ 73) : z_ckB M is hs i q k = (z_cks.getD i.1 zk_no) M i.2.1 i.2.2.1 i.2.2.2 q.1 q.2.1 q.2.2.1 q.2.2.2 (z_nxOf is) k := by
  obtain ⟨h0, h1, h2, h3, h4, h5, h6, h7, h8, h9⟩ := h
  unfold z_ckB
  split
  · next e => exact absurd e h0
  · next e => exact absurd e h1
  · next e => exact absurd e h2
  · next e => exact absurd e h3
  · next e => exact absurd e h4
  · next e => exact absurd e h5
  · next e => exact absurd e h6
  · next e => exact absurd e h7
  · next e => exact absurd e h8
  · next e => exact absurd e h9
  · rfl
theorem z_opno {sx : zX} {d a b k : Nat} {ci : Int} {lo : zL} {st : List Value} {h : zH} {o : Nat} (ho : o = 50 ∨ o = 51 ∨ o = 52 ∨ o = 53 ∨ o = 62 ∨ o = 54 ∨ o = 55 ∨ o = 72 ∨ o = 56 ∨ o = 73 ∨ o = 99) : (z_ops.getD o z_no) sx d a b ci k lo st h = none := by
  rcases ho with rfl | rfl | rfl | rfl | rfl | rfl | rfl | rfl | rfl | rfl | rfl <;> rfl
theorem z_lenAt {j : Nat} {M : zMi} (hL : z_LEN) (hM : z_ms[j]? = some M) : ∃ cs is hs, z_cs[j]? = some cs ∧ z_is[j]? = some is ∧ z_hs[j]? = some hs := by
  have hl := (List.getElem?_eq_some_iff.mp hM).1
  exact ⟨z_cs[j]'(by rw [hL.1]; exact hl), z_is[j]'(by rw [hL.2.1]; exact hl), z_hs[j]'(by rw [hL.2.2]; exact hl), List.getElem?_eq_getElem _, List.getElem?_eq_getElem _, List.getElem?_eq_getElem _⟩
theorem z_mapadd {r : Option zRes} {x y : Nat} {o : zO} {hF : zH} {kc ks : Nat} (h : r.map (z_add x y) = some (o, hF, kc, ks)) : ∃ a b, r = some (o, hF, a, b) ∧ kc = a + x ∧ ks = b + y := by
  cases r with
  | none => cases h
  | some w =>
    obtain ⟨o9, h9, a, b⟩ := w
    simp only [Option.map_some, z_add, Option.some.injEq, Prod.mk.injEq] at h
    obtain ⟨rfl, rfl, rfl, rfl⟩ := h
    exact ⟨a, b, rfl, rfl, rfl⟩
set_option maxHeartbeats 4000000 in
theorem z_sound (hOK : z_OK) (hLEN : z_LEN) (sx : zX) : ∀ (n d j k : Nat) (lo : zL) (st : List Value) (h : zH) (o : zO) (hF : zH) (x y : Nat), z_run sx n d j k lo st h = some (o, hF, x, y) → z_Bd sx d j k lo st h o hF x y := by
  intro n
  induction n with
  | zero => intro d j k lo st h o hF x y hr; rw [z_run] at hr; cases hr
  | succ n ih =>
    intro d j k lo st h o hF x y hr
    rw [z_run] at hr
    intro p l e R s m args below meth c Z D tc adK adV sb M cs is hs ad0 n0 C S Q hM hcs his hhs hFr hK hA hR hHR hHX
    rw [hM, hcs, hhs] at hr
    dsimp only at hr
    cases hk : cs[k]? with
    | none => rw [hk] at hr; cases hr
    | some i =>
    rw [hk] at hr
    dsimp only at hr
    have hckM := hOK j M cs is hs hM hcs his hhs
    have hckM0 := hckM
    unfold z_ckM at hckM
    simp only [Bool.and_eq_true, decide_eq_true_eq] at hckM
    obtain ⟨⟨⟨⟨⟨c1, c2⟩, c3⟩, c4⟩, c5⟩, c6⟩ := hckM
    obtain ⟨q, hq, hckA⟩ := z_ckL_at 0 cs is c6 k i hk
    rw [Nat.zero_add] at hckA
    have hnx : z_nxOf is k = q.1 := by unfold z_nxOf; rw [hq]; rfl
    cases hfin : z_fin M i d st with
    | some w =>
      obtain ⟨o9, x9, y9⟩ := w
      rw [hfin] at hr
      simp only [Option.some.injEq, Prod.mk.injEq] at hr
      obtain ⟨rfl, rfl, rfl, rfl⟩ := hr
      exact hHR k i q lo st x9 y9 hk hq hckA hfin
    | none =>
    rw [hfin] at hr
    dsimp only at hr
    cases hcal : z_cal i d st h with
    | some w =>
      obtain ⟨j', as, rest⟩ := w
      rw [hcal] at hr
      dsimp only at hr
      obtain ⟨hcal0, M', hM', hw⟩ := z_cal_in hcal
      obtain ⟨cs', is', hs', hcs', his', hhs'⟩ := z_lenAt hLEN hM'
      have hck' := hOK j' M' cs' is' hs' hM' hcs' his' hhs'
      have hop := z_cal_no hcal0
      have hckB : decode M.2.2.1 q.1 = .ok (q.2.1, q.2.2.1) ∧ z_ckB M is hs i q k = true := by
        unfold z_ckA at hckA
        rw [Bool.or_eq_true, Bool.and_eq_true, decide_eq_true_eq, decide_eq_true_eq] at hckA
        rcases hckA with h9 | h9
        · omega
        · exact h9
      cases hin : z_run sx n (d - 1) j' 0 (lv_args 0 as) [] h with
      | none => rw [hin] at hr; cases hr
      | some w =>
      obtain ⟨oi, h1, x1, y1⟩ := w
      rw [hin] at hr
      have hB := ih (d - 1) j' 0 (lv_args 0 as) [] h oi h1 x1 y1 hin
      cases oi with
      | inl v =>
        dsimp only at hr
        obtain ⟨a, b, hr2, rfl, rfl⟩ := z_mapadd hr
        have hW := ih d j (k + 1) lo (v.toList ++ rest) h1 o hF a b hr2 p l e R s m args below meth c Z D tc adK adV sb M cs is hs ad0 n0 C S Q hM hcs his hhs hFr hK hA hR hHR hHX
        rcases hop with hi | hi | hi | hi | hi
        · exact z_cl54 hFr hK hA hR c4 c5 hi hckB.2 hckB.1 hnx hcal0 hM' hcs' his' hhs' hck' hw hB (fun v9 hv => by cases hv; exact hW) (fun E hE => by cases hE)
        · exact z_cl55 hFr hK hA hR hi hckB.2 hckB.1 hnx hcal0 hM' hcs' his' hhs' hck' hw hB hW
        · exact z_cl72 hFr hK hA hR hi hckB.2 hckB.1 hnx hcal0 hM' hcs' his' hhs' hck' hw hB hW
        · exact z_cl56 hFr hK hA hR hi hckB.2 hckB.1 hnx hcal0 hM' hcs' his' hhs' hck' hw hB hW
        · exact z_cl73 hFr hK hA hR hi hckB.2 hckB.1 hnx hcal0 hM' hcs' his' hhs' hck' hw hB hW
      | inr E =>
        dsimp only at hr
        by_cases hi : i.1 = 54
        case neg => rw [if_neg hi] at hr; cases hr
        rw [if_pos hi] at hr
        cases hf : hs.find? (fun q => q.2.2.2.2.1 == E) with
        | some qh =>
          rw [hf] at hr
          dsimp only at hr
          obtain ⟨a, b, hr2, rfl, rfl⟩ := z_mapadd hr
          have hW := ih d j qh.2.2.2.2.2.1 (z_drop lo qh.2.2.2.2.2.2) [] h1 o hF a b hr2 p l e R s m args below meth c Z D tc adK adV sb M cs is hs ad0 n0 C S Q hM hcs his hhs hFr hK hA hR hHR hHX
          exact z_cl54 hFr hK hA hR c4 c5 hi hckB.2 hckB.1 hnx hcal0 hM' hcs' his' hhs' hck' hw hB (fun v9 hv => by cases hv) (fun E9 hE => by cases hE; exact Or.inl ⟨qh, hf, hW⟩)
        | none =>
          rw [hf] at hr
          dsimp only at hr
          by_cases hh : hs = []
          case neg => rw [if_neg hh] at hr; cases hr
          rw [if_pos hh] at hr
          simp only [Option.some.injEq, Prod.mk.injEq] at hr
          obtain ⟨rfl, rfl, rfl, rfl⟩ := hr
          have kk := z_cl54 (kc := 0) (ks := 0) (lo := lo) (Q := Q) (n0 := n0) (below := below) (e := e) hFr hK hA hR c4 c5 hi hckB.2 hckB.1 hnx hcal0 hM' hcs' his' hhs' hck' hw hB (fun v9 hv => by cases hv) (fun E9 hE => by cases hE; exact Or.inr ⟨hh, rfl, rfl, hHX⟩)
          rw [Nat.zero_add, Nat.zero_add] at kk
          exact kk
    | none =>
    rw [hcal] at hr
    dsimp only at hr
    cases hop : (z_ops.getD i.1 z_no) sx d i.2.1 i.2.2.1 i.2.2.2 k lo st h with
    | none => rw [hop] at hr; cases hr
    | some w =>
    obtain ⟨k', lo', st', h', x1, y1⟩ := w
    rw [hop] at hr
    dsimp only at hr
    obtain ⟨a, b, hr2, rfl, rfl⟩ := z_mapadd hr
    have hW := ih d j k' lo' st' h' o hF a b hr2 p l e R s m args below meth c Z D tc adK adV sb M cs is hs ad0 n0 C S Q hM hcs his hhs hFr hK hA hR hHR hHX
    have hno : ¬ (i.1 = 50 ∨ i.1 = 51 ∨ i.1 = 52 ∨ i.1 = 53 ∨ i.1 = 62 ∨ i.1 = 54 ∨ i.1 = 55 ∨ i.1 = 72 ∨ i.1 = 56 ∨ i.1 = 73 ∨ i.1 = 99) := fun h9 => by
      rw [z_opno h9] at hop; cases hop
    have hckB : decode M.2.2.1 q.1 = .ok (q.2.1, q.2.2.1) ∧ z_ckB M is hs i q k = true := by
      unfold z_ckA at hckA
      rw [Bool.or_eq_true, Bool.and_eq_true, decide_eq_true_eq, decide_eq_true_eq] at hckA
      rcases hckA with h9 | h9
      · exact absurd (Or.inr (Or.inr (Or.inr (Or.inr (Or.inr (Or.inr (Or.inr (Or.inr (Or.inr (Or.inr h9)))))))))) hno
      · exact h9
    have hck2 := hckB.2
    rw [z_ckB_op (by omega)] at hck2
    have hd := hckB.1
    rw [← hnx] at hd hck2
    exact z_all i.1 p l e R s m args below meth c Z D tc adK adV sb sx M (z_nxOf is) ad0 n0 C S d Q i.2.1 i.2.2.1 i.2.2.2 k q.2.1 q.2.2.1 q.2.2.2 hFr hK hA hR hd hck2 lo st h k' lo' st' h' x1 y1 hop a b hW
end
section
/-! ABSTRACT VALUES: a tag, a least, a most. 0: an int; 1: a long; 2: a cell whose type lies between; 3: that or null; 4: null; 5: a text; else the script -/
abbrev zA : Type := Nat × Int × Int
abbrev zTy : Type := Nat × Nat × Nat × List (Int × Int × zA)
abbrev zMod : Type := Nat × Int × Int
noncomputable def zG (ty : List Nat) (a : zA) (v : Value) : Prop := match a with
  | (0, lo, hi) => ∃ x : Int32, v = .int x ∧ lo ≤ x.toInt ∧ x.toInt ≤ hi
  | (1, lo, hi) => ∃ x : Int64, v = .long x ∧ lo ≤ x.toInt ∧ x.toInt ≤ hi
  | (2, lo, hi) => ∃ i t : Nat, v = .ref i ∧ ty[i]? = some t ∧ lo ≤ (t : Int) ∧ (t : Int) ≤ hi
  | (3, lo, hi) => v = .null ∨ ∃ i t : Nat, v = .ref i ∧ ty[i]? = some t ∧ lo ≤ (t : Int) ∧ (t : Int) ≤ hi
  | (4, _, _) => v = .null
  | (5, k, _) => v = .ref (zB + k.toNat)
  | _ => v = .ref zS
noncomputable def zRi (a b : zA) : Bool := decide (b.2.1 ≤ a.2.1) && decide (a.2.2 ≤ b.2.2)
noncomputable def zLe (a b : zA) : Bool := match a.1, b.1 with
  | 0, 0 => zRi a b
  | 1, 1 => zRi a b
  | 2, 2 => zRi a b
  | 3, 3 => zRi a b
  | 2, 3 => zRi a b
  | 4, 3 => true
  | _, _ => decide (a = b)
theorem zRi_ok {a b : zA} (h : zRi a b = true) : b.2.1 ≤ a.2.1 ∧ a.2.2 ≤ b.2.2 := by
  unfold zRi at h
  simpa using h
theorem zLe_ok {ty : List Nat} {a b : zA} {v : Value} (h : zLe a b = true) (g : zG ty a v) : zG ty b v := by
  obtain ⟨ta, la, ha⟩ := a
  obtain ⟨tb, lb, hb⟩ := b
  unfold zLe at h
  split at h
  · next e1 e2 =>
    dsimp only at e1 e2; subst e1; subst e2
    obtain ⟨h1, h2⟩ := zRi_ok h
    obtain ⟨x, rfl, g1, g2⟩ := g
    exact ⟨x, rfl, Int.le_trans h1 g1, Int.le_trans g2 h2⟩
  · next e1 e2 =>
    dsimp only at e1 e2; subst e1; subst e2
    obtain ⟨h1, h2⟩ := zRi_ok h
    obtain ⟨x, rfl, g1, g2⟩ := g
    exact ⟨x, rfl, Int.le_trans h1 g1, Int.le_trans g2 h2⟩
  · next e1 e2 =>
    dsimp only at e1 e2; subst e1; subst e2
    obtain ⟨h1, h2⟩ := zRi_ok h
    obtain ⟨i, t, rfl, g0, g1, g2⟩ := g
    exact ⟨i, t, rfl, g0, Int.le_trans h1 g1, Int.le_trans g2 h2⟩
  · next e1 e2 =>
    dsimp only at e1 e2; subst e1; subst e2
    obtain ⟨h1, h2⟩ := zRi_ok h
    rcases g with g | ⟨i, t, rfl, g0, g1, g2⟩
    · exact Or.inl g
    · exact Or.inr ⟨i, t, rfl, g0, Int.le_trans h1 g1, Int.le_trans g2 h2⟩
  · next e1 e2 =>
    dsimp only at e1 e2; subst e1; subst e2
    obtain ⟨h1, h2⟩ := zRi_ok h
    obtain ⟨i, t, rfl, g0, g1, g2⟩ := g
    exact Or.inr ⟨i, t, rfl, g0, Int.le_trans h1 g1, Int.le_trans g2 h2⟩
  · next e1 e2 =>
    dsimp only at e1 e2; subst e1; subst e2
    exact Or.inl g
  · rw [← of_decide_eq_true h]
    exact g
noncomputable def zExt (ty ty' : List Nat) : Prop := ∀ i t : Nat, ty[i]? = some t → ty'[i]? = some t
theorem zExt.rf {ty : List Nat} : zExt ty ty := fun _ _ h => h
theorem zExt.tr {a b c : List Nat} (h1 : zExt a b) (h2 : zExt b c) : zExt a c := fun i t h => h2 i t (h1 i t h)
theorem zG_ext {ty ty' : List Nat} {a : zA} {v : Value} (h : zExt ty ty') (g : zG ty a v) : zG ty' a v := by
  unfold zG at g ⊢
  split at g
  · exact g
  · exact g
  · obtain ⟨i, t, e, g0, g1⟩ := g
    exact ⟨i, t, e, h i t g0, g1⟩
  · rcases g with g | ⟨i, t, e, g0, g1⟩
    · exact Or.inl g
    · exact Or.inr ⟨i, t, e, h i t g0, g1⟩
  · exact g
  · exact g
  · next n1 n2 n3 n4 n5 n6 =>
    obtain ⟨t, lo, hi⟩ := a
    exact g
/-! places of a cell -/
noncomputable def z_rd (e : zE) (i : Nat) : Option Value := match e with
  | .inr (_, fs) => fs[i]?
  | .inl (0, (n, .inl f)) => if i < n then some (.int (f i)) else none
  | .inl (1, (n, .inl f)) => if i < n then some (.int (f i)) else none
  | .inl (2, (n, .inr (.inl f))) => if i < n then some (.long (f i)) else none
  | .inl (3, (n, .inr (.inr (.inr (.inr f))))) => if i < n then some (va_rf (f i)) else none
  | _ => none
/-- the cell is of this shape: 0 an object of a class, 1 ints, 2 bytes, 3 longs, 4 cells -/
noncomputable def z_sh (T : zTy) (e : zE) : Prop := match T.1, e with
  | 0, .inr (c, fs) => c = T.2.1 ∧ fs.length = T.2.2.1
  | 1, .inl (0, (n, .inl _)) => n = T.2.2.1
  | 2, .inl (1, (n, .inl _)) => n = T.2.2.1
  | 3, .inl (2, (n, .inr (.inl _))) => n = T.2.2.1
  | 4, .inl (3, (n, .inr (.inr (.inr (.inr _))))) => n = T.2.2.1
  | _, _ => False
/-- the heap is typed: each cell of its type's shape, each place within its region's values -/
noncomputable def zTY (tt : Nat → zTy) (ty : List Nat) (h : zH) : Prop := ty.length = h.length ∧ h.length ≤ zB ∧ ∀ (a t : Nat) (e : zE), ty[a]? = some t → h[a]? = some e → z_sh (tt t) e ∧ ∀ (i : Nat) (v : Value), z_rd e i = some v → ∀ r ∈ (tt t).2.2.2, r.1 ≤ (i : Int) → (i : Int) ≤ r.2.1 → zG ty r.2.2 v
noncomputable def zIn (ms : List zMod) (t : Nat) (i : Nat) : Prop := ∃ m ∈ ms, m.1 = t ∧ m.2.1 ≤ (i : Int) ∧ (i : Int) ≤ m.2.2
/-- nothing has changed but at places that ms names -/
noncomputable def zFm (ms : List zMod) (ty : List Nat) (h h' : zH) : Prop := h.length ≤ h'.length ∧ ∀ (a t : Nat) (e e' : zE), ty[a]? = some t → h[a]? = some e → h'[a]? = some e' → ∀ i, ¬ zIn ms t i → z_rd e' i = z_rd e i
theorem zFm.rf {ms : List zMod} {ty : List Nat} {h : zH} : zFm ms ty h h := ⟨Nat.le_refl _, fun a t e e' _ h1 h2 i _ => by rw [h1] at h2; cases h2; rfl⟩
theorem zFm.tr {ms : List zMod} {ty ty' : List Nat} {h h' h'' : zH} (h1 : zFm ms ty h h') (hx : zExt ty ty') (h2 : zFm ms ty' h' h'') : zFm ms ty h h'' := by
  refine ⟨Nat.le_trans h1.1 h2.1, fun a t e e'' ht he he'' i hi => ?_⟩
  have hl : a < h'.length := Nat.lt_of_lt_of_le (List.getElem?_eq_some_iff.mp he).1 h1.1
  rw [h2.2 a t h'[a] e'' (hx a t ht) (List.getElem?_eq_getElem hl) he'' i hi, h1.2 a t e h'[a] ht he (List.getElem?_eq_getElem hl) i hi]
theorem zFm.mono {ms ms' : List zMod} {ty : List Nat} {h h' : zH} (h1 : zFm ms ty h h') (hm : ∀ t i, zIn ms t i → zIn ms' t i) : zFm ms' ty h h' := ⟨h1.1, fun a t e e' ht he he' i hi => h1.2 a t e e' ht he he' i (fun q => hi (hm t i q))⟩
/-- one place is written -/
theorem zTY.wr {tt : Nat → zTy} {ty : List Nat} {h : zH} {a t : Nat} {e e' : zE} {i : Nat} {v : Value} (H : zTY tt ty h) (ht : ty[a]? = some t) (he : h[a]? = some e) (hs : z_sh (tt t) e') (hr : ∀ j, z_rd e' j = if j = i then some v else z_rd e j) (hv : ∀ r ∈ (tt t).2.2.2, r.1 ≤ (i : Int) → (i : Int) ≤ r.2.1 → zG ty r.2.2 v) : zTY tt ty (h.set a e') := by
  refine ⟨by rw [List.length_set]; exact H.1, by rw [List.length_set]; exact H.2.1, fun b s f hs1 hf => ?_⟩
  by_cases hb : b = a
  · subst hb
    have hl := (List.getElem?_eq_some_iff.mp he).1
    rw [List.getElem?_set_self hl] at hf
    cases hf
    rw [ht] at hs1
    cases hs1
    refine ⟨hs, fun j w hw r hr1 h1 h2 => ?_⟩
    rw [hr j] at hw
    by_cases hj : j = i
    · subst hj
      rw [if_pos rfl] at hw
      cases hw
      exact hv r hr1 h1 h2
    · rw [if_neg hj] at hw
      exact (H.2.2 b _ e ht he).2 j w hw r hr1 h1 h2
  · rw [List.getElem?_set_ne (fun q => hb q.symm)] at hf
    exact H.2.2 b s f hs1 hf
theorem zFm.wr {ms : List zMod} {ty : List Nat} {h : zH} {a t : Nat} {e e' : zE} {i : Nat} {v : Value} (ht : ty[a]? = some t) (he : h[a]? = some e) (hr : ∀ j, z_rd e' j = if j = i then some v else z_rd e j) (hm : zIn ms t i) : zFm ms ty h (h.set a e') := by
  refine ⟨by rw [List.length_set]; exact Nat.le_refl _, fun b s f f' hs hf hf' j hj => ?_⟩
  by_cases hb : b = a
  · subst hb
    rw [List.getElem?_set_self (List.getElem?_eq_some_iff.mp he).1] at hf'
    cases hf'
    rw [he] at hf
    cases hf
    rw [ht] at hs
    cases hs
    rw [hr j, if_neg (fun q => hj (by rw [q]; exact hm))]
  · rw [List.getElem?_set_ne (fun q => hb q.symm), hf] at hf'
    cases hf'
    rfl
theorem z_rd_obj {c : Nat} {fs : List Value} {i : Nat} {v : Value} (hi : i < fs.length) (j : Nat) : z_rd (.inr (c, fs.set i v)) j = if j = i then some v else z_rd (.inr (c, fs)) j := by
  unfold z_rd
  dsimp only
  by_cases h : j = i
  · subst h; rw [if_pos rfl, List.getElem?_set_self hi]
  · rw [if_neg h, List.getElem?_set_ne (fun q => h q.symm)]
theorem z_rd0 {n : Nat} {f : Nat → Int32} {i : Nat} : z_rd (.inl (0, (n, .inl f))) i = if i < n then some (.int (f i)) else none := rfl
theorem z_rd1 {n : Nat} {f : Nat → Int32} {i : Nat} : z_rd (.inl (1, (n, .inl f))) i = if i < n then some (.int (f i)) else none := rfl
theorem z_rd2 {n : Nat} {f : Nat → Int64} {i : Nat} : z_rd (.inl (2, (n, .inr (.inl f)))) i = if i < n then some (.long (f i)) else none := rfl
theorem z_rd3 {n : Nat} {f : Nat → Option Nat} {i : Nat} : z_rd (.inl (3, (n, .inr (.inr (.inr (.inr f)))))) i = if i < n then some (va_rf (f i)) else none := rfl
theorem z_rd_int {n : Nat} {f : Nat → Int32} {i : Nat} {x : Int32} (hi : i < n) (j : Nat) : z_rd (.inl (0, (n, .inl (upd f i x)))) j = if j = i then some (.int x) else z_rd (.inl (0, (n, .inl f))) j := by
  rw [z_rd0, z_rd0]
  unfold upd
  by_cases h : j = i
  · subst h; rw [if_pos rfl, if_pos hi, if_pos rfl]
  · rw [if_neg h, if_neg h]
theorem z_rd_byte {n : Nat} {f : Nat → Int32} {i : Nat} {x : Int32} (hi : i < n) (j : Nat) : z_rd (.inl (1, (n, .inl (upd f i x)))) j = if j = i then some (.int x) else z_rd (.inl (1, (n, .inl f))) j := by
  rw [z_rd1, z_rd1]
  unfold upd
  by_cases h : j = i
  · subst h; rw [if_pos rfl, if_pos hi, if_pos rfl]
  · rw [if_neg h, if_neg h]
theorem z_rd_long {n : Nat} {f : Nat → Int64} {i : Nat} {x : Int64} (hi : i < n) (j : Nat) : z_rd (.inl (2, (n, .inr (.inl (vp_updL f i x))))) j = if j = i then some (.long x) else z_rd (.inl (2, (n, .inr (.inl f)))) j := by
  rw [z_rd2, z_rd2]
  unfold vp_updL
  by_cases h : j = i
  · subst h; rw [if_pos rfl, if_pos hi, if_pos rfl]
  · rw [if_neg h, if_neg h]
/-! numbers -/
theorem z_bm {n : Int} (h1 : -2147483648 ≤ n) (h2 : n ≤ 2147483647) : n.bmod (2 ^ 32) = n := by
  rw [Int.bmod_def]
  split <;> omega
theorem z_bm64 {n : Int} (h1 : -9223372036854775808 ≤ n) (h2 : n ≤ 9223372036854775807) : n.bmod (2 ^ 64) = n := by
  rw [Int.bmod_def]
  split <;> omega
theorem zb32 (x : Int32) : -2147483648 ≤ x.toInt ∧ x.toInt ≤ 2147483647 := by
  have h1 := x.le_toInt
  have h2 := x.toInt_lt
  omega
theorem zb64 (x : Int64) : -9223372036854775808 ≤ x.toInt ∧ x.toInt ≤ 9223372036854775807 := by
  have h1 := x.le_toInt
  have h2 := x.toInt_lt
  omega
theorem z_of32 {n : Int} (h1 : -2147483648 ≤ n) (h2 : n ≤ 2147483647) : (Int32.ofInt n).toInt = n := Int32.toInt_ofInt_of_le (by omega) (by omega)
theorem z_of64 {n : Int} (h1 : -9223372036854775808 ≤ n) (h2 : n ≤ 9223372036854775807) : (Int64.ofInt n).toInt = n := Int64.toInt_ofInt_of_le (by omega) (by omega)
theorem z_inn {i : Int32} {n : Nat} (h1 : 0 ≤ i.toInt) (h2 : i.toInt < (n : Int)) : z_in i n = true ∧ i.toNatClampNeg < n ∧ (i.toNatClampNeg : Int) = i.toInt := by
  have e : i.toNatClampNeg = i.toInt.toNat := rfl
  have h0 : ¬ i < 0 := by
    rw [Int32.lt_iff_toInt_lt]
    show ¬ i.toInt < (0 : Int32).toInt
    rw [show (0 : Int32).toInt = 0 from rfl]
    omega
  refine ⟨?_, by rw [e]; omega, by rw [e]; omega⟩
  unfold z_in
  rw [decide_eq_false h0, decide_eq_false (by rw [e]; omega)]
  rfl
end
section
/-! THE RUN AS A JUDGEMENT: from here it ends, with Ψ -/
noncomputable def z_ok (sx : zX) (d j k : Nat) (lo : zL) (st : List Value) (h : zH) (Ψ : zO → zH → Nat → Nat → Prop) : Prop := ∃ n o h' x y, z_run sx n d j k lo st h = some (o, h', x, y) ∧ Ψ o h' x y
theorem z_ok.imp {sx : zX} {d j k : Nat} {lo : zL} {st : List Value} {h : zH} {Ψ Ψ' : zO → zH → Nat → Nat → Prop} (H : z_ok sx d j k lo st h Ψ) (hi : ∀ o h' x y, Ψ o h' x y → Ψ' o h' x y) : z_ok sx d j k lo st h Ψ' := by
  obtain ⟨n, o, h', x, y, e, q⟩ := H
  exact ⟨n, o, h', x, y, e, hi o h' x y q⟩
theorem z_run1 (sx : zX) : ∀ (n d j k : Nat) (lo : zL) (st : List Value) (h : zH) (r : zRes), z_run sx n d j k lo st h = some r → z_run sx (n + 1) d j k lo st h = some r := by
  intro n
  induction n with
  | zero => intro d j k lo st h r hr; rw [z_run] at hr; cases hr
  | succ n ih =>
    intro d j k lo st h r hr
    rw [z_run] at hr
    rw [z_run]
    cases hM : z_ms[j]? with
    | none => rw [hM] at hr; cases hr
    | some M =>
    cases hC : z_cs[j]? with
    | none => rw [hM, hC] at hr; cases hr
    | some cs =>
    cases hH : z_hs[j]? with
    | none => rw [hM, hC, hH] at hr; cases hr
    | some hs =>
    rw [hM, hC, hH] at hr
    dsimp only at hr ⊢
    cases hk : cs[k]? with
    | none => rw [hk] at hr; cases hr
    | some i =>
    rw [hk] at hr
    dsimp only at hr ⊢
    cases hf : z_fin M i d st with
    | some w => rw [hf] at hr; exact hr
    | none =>
    rw [hf] at hr
    dsimp only at hr ⊢
    cases hc : z_cal i d st h with
    | some w =>
      obtain ⟨j', as, rest⟩ := w
      rw [hc] at hr
      dsimp only at hr ⊢
      cases hin : z_run sx n (d - 1) j' 0 (lv_args 0 as) [] h with
      | none => rw [hin] at hr; cases hr
      | some w =>
      obtain ⟨oi, h1, x1, y1⟩ := w
      rw [hin] at hr
      rw [ih _ _ _ _ _ _ _ hin]
      cases oi with
      | inl v =>
        dsimp only at hr ⊢
        obtain ⟨r1, r2, r3, r4⟩ := r
        obtain ⟨a, b, e1, e2, e3⟩ := z_mapadd hr
        rw [ih _ _ _ _ _ _ _ e1, e2, e3]
        rfl
      | inr E =>
        dsimp only at hr ⊢
        by_cases hi : i.1 = 54
        case neg => rw [if_neg hi] at hr; cases hr
        rw [if_pos hi] at hr ⊢
        cases hfd : hs.find? (fun q => q.2.2.2.2.1 == E) with
        | some q =>
          rw [hfd] at hr
          dsimp only at hr ⊢
          obtain ⟨r1, r2, r3, r4⟩ := r
          obtain ⟨a, b, e1, e2, e3⟩ := z_mapadd hr
          rw [ih _ _ _ _ _ _ _ e1, e2, e3]
          rfl
        | none => rw [hfd] at hr; exact hr
    | none =>
    rw [hc] at hr
    dsimp only at hr ⊢
    cases ho : (z_ops.getD i.1 z_no) sx d i.2.1 i.2.2.1 i.2.2.2 k lo st h with
    | none => rw [ho] at hr; cases hr
    | some w =>
    obtain ⟨k', lo', st', h', x1, y1⟩ := w
    rw [ho] at hr
    dsimp only at hr ⊢
    obtain ⟨r1, r2, r3, r4⟩ := r
    obtain ⟨a, b, e1, e2, e3⟩ := z_mapadd hr
    rw [ih _ _ _ _ _ _ _ e1, e2, e3]
    rfl
theorem z_runs {sx : zX} {n m d j k : Nat} {lo : zL} {st : List Value} {h : zH} {r : zRes} (hr : z_run sx n d j k lo st h = some r) (hm : n ≤ m) : z_run sx m d j k lo st h = some r := by
  induction hm with
  | refl => exact hr
  | step _ ih => exact z_run1 sx _ _ _ _ _ _ _ _ ih
section ZOK
variable {sx : zX} {d j k : Nat} {lo : zL} {st : List Value} {h : zH} {Ψ : zO → zH → Nat → Nat → Prop} {M : zMi} {cs : List zI} {hs : List zHd} {i : zI}
theorem z_ok.fin {o : zO} {x y : Nat} (hM : z_ms[j]? = some M) (hC : z_cs[j]? = some cs) (hH : z_hs[j]? = some hs) (hi : cs[k]? = some i) (hf : z_fin M i d st = some (o, x, y)) (kk : Ψ o h x y) : z_ok sx d j k lo st h Ψ := by
  refine ⟨1, o, h, x, y, ?_, kk⟩
  rw [z_run, hM, hC, hH]
  dsimp only
  rw [hi]
  dsimp only
  rw [hf]
theorem z_ok.step {k' : Nat} {lo' : zL} {st' : List Value} {h' : zH} {x y : Nat} (hM : z_ms[j]? = some M) (hC : z_cs[j]? = some cs) (hH : z_hs[j]? = some hs) (hi : cs[k]? = some i) (hf : z_fin M i d st = none) (hc : z_cal i d st h = none) (ho : (z_ops.getD i.1 z_no) sx d i.2.1 i.2.2.1 i.2.2.2 k lo st h = some (k', lo', st', h', x, y)) (kk : z_ok sx d j k' lo' st' h' (fun o h9 a b => Ψ o h9 (a + x) (b + y))) : z_ok sx d j k lo st h Ψ := by
  obtain ⟨n, o, h9, a, b, e, q⟩ := kk
  refine ⟨n + 1, o, h9, a + x, b + y, ?_, q⟩
  rw [z_run, hM, hC, hH]
  dsimp only
  rw [hi]
  dsimp only
  rw [hf]
  dsimp only
  rw [hc]
  dsimp only
  rw [ho]
  dsimp only
  rw [e]
  rfl
/-- what a caller owes behind a call -/
noncomputable def zRes1 (sx : zX) (d j k : Nat) (lo : zL) (rest : List Value) (i : zI) (hs : List zHd) (Ψ : zO → zH → Nat → Nat → Prop) (o : zO) (h1 : zH) (x y : Nat) : Prop := match o with
  | .inl v => z_ok sx d j (k + 1) lo (v.toList ++ rest) h1 (fun o' h' a b => Ψ o' h' (a + x) (b + y))
  | .inr E => i.1 = 54 ∧ (match hs.find? (fun q => q.2.2.2.2.1 == E) with
    | some q => z_ok sx d j q.2.2.2.2.2.1 (z_drop lo q.2.2.2.2.2.2) [] h1 (fun o' h' a b => Ψ o' h' (a + x) (b + y))
    | none => hs = [] ∧ Ψ (.inr E) h1 x y)
theorem z_ok.call {j' : Nat} {as rest : List Value} (hM : z_ms[j]? = some M) (hC : z_cs[j]? = some cs) (hH : z_hs[j]? = some hs) (hi : cs[k]? = some i) (hf : z_fin M i d st = none) (hc : z_cal i d st h = some (j', as, rest)) (kk : z_ok sx (d - 1) j' 0 (lv_args 0 as) [] h (zRes1 sx d j k lo rest i hs Ψ)) : z_ok sx d j k lo st h Ψ := by
  obtain ⟨n, o, h1, x, y, e, q⟩ := kk
  cases o with
  | inl v =>
    obtain ⟨n2, o2, h2, a, b, e2, q2⟩ := q
    refine ⟨max n n2 + 1, o2, h2, a + x, b + y, ?_, q2⟩
    rw [z_run, hM, hC, hH]
    dsimp only
    rw [hi]
    dsimp only
    rw [hf]
    dsimp only
    rw [hc]
    dsimp only
    rw [z_runs e (Nat.le_max_left n n2)]
    dsimp only
    rw [z_runs e2 (Nat.le_max_right n n2)]
    rfl
  | inr E =>
    obtain ⟨q0, q⟩ := q
    cases hfd : hs.find? (fun q => q.2.2.2.2.1 == E) with
    | some w =>
      rw [hfd] at q
      obtain ⟨n2, o2, h2, a, b, e2, q2⟩ := q
      refine ⟨max n n2 + 1, o2, h2, a + x, b + y, ?_, q2⟩
      rw [z_run, hM, hC, hH]
      dsimp only
      rw [hi]
      dsimp only
      rw [hf]
      dsimp only
      rw [hc]
      dsimp only
      rw [z_runs e (Nat.le_max_left n n2)]
      dsimp only
      rw [if_pos q0, hfd]
      dsimp only
      rw [z_runs e2 (Nat.le_max_right n n2)]
      rfl
    | none =>
      rw [hfd] at q
      refine ⟨n + 1, .inr E, h1, x, y, ?_, q.2⟩
      rw [z_run, hM, hC, hH]
      dsimp only
      rw [hi]
      dsimp only
      rw [hf]
      dsimp only
      rw [hc]
      dsimp only
      rw [e]
      dsimp only
      rw [if_pos q0, hfd]
      dsimp only
      rw [if_pos q.1]
end ZOK
theorem z_fin_no {M : zMi} {i : zI} {d : Nat} {st : List Value} (h : i.1 ≠ 50 ∧ i.1 ≠ 51 ∧ i.1 ≠ 52 ∧ i.1 ≠ 53 ∧ i.1 ≠ 62) : z_fin M i d st = none := by
  obtain ⟨h0, h1, h2, h3, h4⟩ := h
  unfold z_fin
  split
  · next e => exact absurd e h0
  · next e => exact absurd e h1
  · next e => exact absurd e h2
  · next e => exact absurd e h3
  · next e => exact absurd e h4
  · rfl
theorem z_cal_non {i : zI} {d : Nat} {st : List Value} {h : zH} (hn : i.1 ≠ 54 ∧ i.1 ≠ 55 ∧ i.1 ≠ 72 ∧ i.1 ≠ 56 ∧ i.1 ≠ 73) : z_cal i d st h = none := by
  cases hc : z_cal i d st h with
  | none => rfl
  | some w =>
    obtain ⟨j, as, rest⟩ := w
    have h9 := z_cal_no (z_cal_in hc).1
    omega
/-! frames above one another: the innermost first -/
abbrev zCf : Type := Nat × Nat × zL × List Value
noncomputable def zKx (sx : zX) (d0 : Nat) (Φ : zO → zH → Nat → Nat → Prop) : List zCf → zO → zH → Nat → Nat → Prop
  | [], o, h, x, y => Φ o h x y
  | (j, k, lo, st) :: fs, o, h, x, y => ∃ i hs, (z_cs.getD j [])[k]? = some i ∧ z_hs[j]? = some hs ∧ zRes1 sx (d0 - fs.length) j k lo st i hs (zKx sx d0 Φ fs) o h x y
noncomputable def zGo (sx : zX) (d0 : Nat) (Φ : zO → zH → Nat → Nat → Prop) (cf : List zCf) (h : zH) (X Y : Nat) : Prop := match cf with
  | [] => False
  | (j, k, lo, st) :: fs => z_ok sx (d0 - fs.length) j k lo st h (fun o h' a b => zKx sx d0 Φ fs o h' (a + X) (b + Y))
theorem zRes1.imp {sx : zX} {d j k : Nat} {lo : zL} {rest : List Value} {i : zI} {hs : List zHd} {Ψ Ψ' : zO → zH → Nat → Nat → Prop} {o : zO} {h1 : zH} {x y x' y' : Nat} (H : zRes1 sx d j k lo rest i hs Ψ o h1 x y) (hi : ∀ o h' a b, Ψ o h' (a + x) (b + y) → Ψ' o h' (a + x') (b + y')) : zRes1 sx d j k lo rest i hs Ψ' o h1 x' y' := by
  cases o with
  | inl v => exact z_ok.imp H (fun o h' a b q => hi o h' a b q)
  | inr E =>
    refine ⟨H.1, ?_⟩
    have H2 := H.2
    cases hfd : hs.find? (fun q => q.2.2.2.2.1 == E) with
    | some w => rw [hfd] at H2; exact z_ok.imp H2 (fun o h' a b q => hi o h' a b q)
    | none =>
      rw [hfd] at H2
      refine ⟨H2.1, ?_⟩
      have h9 := hi (.inr E) h1 0 0 (by rw [Nat.zero_add, Nat.zero_add]; exact H2.2)
      rw [Nat.zero_add, Nat.zero_add] at h9
      exact h9
section ZGO
variable {sx : zX} {d0 : Nat} {Φ : zO → zH → Nat → Nat → Prop} {j k : Nat} {lo : zL} {st : List Value} {fs : List zCf} {h : zH} {X Y : Nat} {M : zMi} {cs : List zI} {hs : List zHd} {i : zI}
theorem zGo.fin {o : zO} {x y : Nat} (hM : z_ms[j]? = some M) (hC : z_cs[j]? = some cs) (hH : z_hs[j]? = some hs) (hi : cs[k]? = some i) (hf : z_fin M i (d0 - fs.length) st = some (o, x, y)) (kk : zKx sx d0 Φ fs o h (x + X) (y + Y)) : zGo sx d0 Φ ((j, k, lo, st) :: fs) h X Y := z_ok.fin hM hC hH hi hf kk
theorem zGo.step {k' : Nat} {lo' : zL} {st' : List Value} {h' : zH} (hM : z_ms[j]? = some M) (hC : z_cs[j]? = some cs) (hH : z_hs[j]? = some hs) (hi : cs[k]? = some i) (hn : i.1 ≠ 50 ∧ i.1 ≠ 51 ∧ i.1 ≠ 52 ∧ i.1 ≠ 53 ∧ i.1 ≠ 62 ∧ i.1 ≠ 54 ∧ i.1 ≠ 55 ∧ i.1 ≠ 72 ∧ i.1 ≠ 56 ∧ i.1 ≠ 73) (ho : (z_ops.getD i.1 z_no) sx (d0 - fs.length) i.2.1 i.2.2.1 i.2.2.2 k lo st h = zn k' lo' st' h') (kk : zGo sx d0 Φ ((j, k', lo', st') :: fs) h' X Y) : zGo sx d0 Φ ((j, k, lo, st) :: fs) h X Y :=
  z_ok.step hM hC hH hi (z_fin_no ⟨hn.1, hn.2.1, hn.2.2.1, hn.2.2.2.1, hn.2.2.2.2.1⟩) (z_cal_non hn.2.2.2.2.2) ho kk
theorem zGo.call {j' : Nat} {as rest : List Value} (hM : z_ms[j]? = some M) (hC : z_cs[j]? = some cs) (hH : z_hs[j]? = some hs) (hi : cs[k]? = some i) (hn : i.1 ≠ 50 ∧ i.1 ≠ 51 ∧ i.1 ≠ 52 ∧ i.1 ≠ 53 ∧ i.1 ≠ 62) (hc : z_cal i (d0 - fs.length) st h = some (j', as, rest)) (kk : zGo sx d0 Φ ((j', 0, lv_args 0 as, []) :: (j, k, lo, rest) :: fs) h X Y) : zGo sx d0 Φ ((j, k, lo, st) :: fs) h X Y := by
  refine z_ok.call hM hC hH hi (z_fin_no hn) hc ?_
  have e : d0 - fs.length - 1 = d0 - ((j, k, lo, rest) :: fs).length := by rw [List.length_cons]; omega
  rw [e]
  refine z_ok.imp kk (fun o h' a b q => ?_)
  obtain ⟨i9, hs9, hi9, hH9, q⟩ := q
  rw [List.getD_eq_getElem?_getD, hC, Option.getD_some, hi] at hi9
  cases hi9
  rw [hH] at hH9
  cases hH9
  exact q.imp (fun o9 h9 a9 b9 q9 => by
    show zKx sx d0 Φ fs o9 h9 (a9 + a + X) (b9 + b + Y)
    rw [Nat.add_assoc, Nat.add_assoc]
    exact q9)
/-- behind a call that has returned -/
theorem zKx.ret {v : Option Value} (hC : z_cs[j]? = some cs) (hH : z_hs[j]? = some hs) (hi : cs[k]? = some i) (kk : zGo sx d0 Φ ((j, k + 1, lo, v.toList ++ st) :: fs) h X Y) : zKx sx d0 Φ ((j, k, lo, st) :: fs) (.inl v) h X Y :=
  ⟨i, hs, by rw [List.getD_eq_getElem?_getD, hC]; exact hi, hH, kk⟩
/-- behind a call that has thrown: caught here -/
theorem zKx.caught {E : Nat} {q : zHd} (hC : z_cs[j]? = some cs) (hH : z_hs[j]? = some hs) (hi : cs[k]? = some i) (hv : i.1 = 54) (hf : hs.find? (fun q => q.2.2.2.2.1 == E) = some q) (kk : zGo sx d0 Φ ((j, q.2.2.2.2.2.1, z_drop lo q.2.2.2.2.2.2, []) :: fs) h X Y) : zKx sx d0 Φ ((j, k, lo, st) :: fs) (.inr E) h X Y :=
  ⟨i, hs, by rw [List.getD_eq_getElem?_getD, hC]; exact hi, hH, hv, by rw [hf]; exact kk⟩
theorem zKx.out {E : Nat} (hC : z_cs[j]? = some cs) (hH : z_hs[j]? = some []) (hi : cs[k]? = some i) (hv : i.1 = 54) (kk : zKx sx d0 Φ fs (.inr E) h X Y) : zKx sx d0 Φ ((j, k, lo, st) :: fs) (.inr E) h X Y :=
  ⟨i, [], by rw [List.getD_eq_getElem?_getD, hC]; exact hi, hH, hv, rfl, kk⟩
end ZGO
end
section
/-! THE CHECKER's STATE: values by numbers (env), what places of the heap hold (memo), frames -/
abbrev zEn : Type := zA × Nat × Int
abbrev zMe : Type := Nat × Nat × Int × Nat
abbrev zLs : Type := List (Nat × Nat)
abbrev zAf : Type := Nat × Nat × zLs × List Nat
abbrev zQ : Type := List zEn × List zMe × zLs × List Nat
noncomputable def zMn : Int := -2147483648
noncomputable def zMx : Int := 2147483647
noncomputable def zFull : zA := (0, -2147483648, 2147483647)
noncomputable def zLn : Int := -9223372036854775808
noncomputable def zLx : Int := 9223372036854775807
noncomputable def zI0 (lo hi : Int) : zA := (0, lo, hi)
/-- of an int between: its bounds -/
noncomputable def zw (lo hi : Int) : zA := if zMn ≤ lo ∧ hi ≤ zMx then (0, lo, hi) else zFull
noncomputable def zlw (lo hi : Int) : zA := if zLn ≤ lo ∧ hi ≤ zLx then (1, lo, hi) else (1, zLn, zLx)
noncomputable def zmin4 (a b c d : Int) : Int := min (min a b) (min c d)
noncomputable def zmax4 (a b c d : Int) : Int := max (max a b) (max c d)
/-- bounds of a computed int -/
noncomputable def zar (o : Nat) (a b c d : Int) : Option zA := match o with
  | 8 => some (zw (a + c) (b + d))
  | 9 => some (zw (a - d) (b - c))
  | 10 => some (zw (zmin4 (a * c) (a * d) (b * c) (b * d)) (zmax4 (a * c) (a * d) (b * c) (b * d)))
  | 11 => if 0 < c then (if 0 ≤ a then some (0, a / d, b / c) else some zFull) else if d < 0 then some zFull else none
  | 12 => if 0 < c then (if 0 ≤ a then some (0, 0, min b (d - 1)) else some zFull) else if d < 0 then some zFull else none
  | 13 => if a = 1 ∧ b = 1 ∧ 0 ≤ c ∧ d ≤ 30 then some (0, 2 ^ c.toNat, 2 ^ d.toNat) else some zFull
  | 16 => if 0 ≤ c then some (0, 0, d) else if 0 ≤ a then some (0, 0, b) else some zFull
  | 14 => some zFull
  | 15 => some zFull
  | 17 => some zFull
  | 18 => some zFull
  | _ => none
noncomputable def zop2 (o : Nat) (x y : Int32) : Int32 := match o with
  | 8 => x + y
  | 9 => x - y
  | 10 => x * y
  | 11 => x / y
  | 12 => x - x / y * y
  | 13 => x <<< (y &&& 31)
  | 14 => x >>> (y &&& 31)
  | 15 => (x.toUInt32 >>> (y.toUInt32 &&& Int32.toUInt32 31)).toInt32
  | 16 => x &&& y
  | 17 => x ||| y
  | _ => x ^^^ y
theorem zw_ok {ty : List Nat} {lo hi n : Int} {x : Int32} (h1 : lo ≤ n) (h2 : n ≤ hi) (hx : x.toInt = n.bmod (2 ^ 32)) : zG ty (zw lo hi) (.int x) := by
  unfold zw
  by_cases h : zMn ≤ lo ∧ hi ≤ zMx
  · rw [if_pos h]
    have e1 : zMn = -2147483648 := rfl
    have e2 : zMx = 2147483647 := rfl
    rw [z_bm (by omega) (by omega)] at hx
    exact ⟨x, rfl, by omega, by omega⟩
  · rw [if_neg h]
    exact ⟨x, rfl, (zb32 x).1, (zb32 x).2⟩
theorem zFull_ok {ty : List Nat} (x : Int32) : zG ty zFull (.int x) := ⟨x, rfl, (zb32 x).1, (zb32 x).2⟩
theorem zmul_bd {a b c d x y : Int} (h1 : a ≤ x) (h2 : x ≤ b) (h3 : c ≤ y) (h4 : y ≤ d) : zmin4 (a * c) (a * d) (b * c) (b * d) ≤ x * y ∧ x * y ≤ zmax4 (a * c) (a * d) (b * c) (b * d) := by
  have low : ∀ u v p q r s : Int, min (min p q) (min r s) ≤ p ∧ min (min p q) (min r s) ≤ q ∧ min (min p q) (min r s) ≤ r ∧ min (min p q) (min r s) ≤ s := fun _ _ p q r s => by omega
  have key1 : ∀ y : Int, min (a * y) (b * y) ≤ x * y ∧ x * y ≤ max (a * y) (b * y) := by
    intro y
    rcases Int.le_total 0 y with hy | hy
    · have e1 := Int.mul_le_mul_of_nonneg_right h1 hy
      have e2 := Int.mul_le_mul_of_nonneg_right h2 hy
      omega
    · have e1 := Int.mul_le_mul_of_nonpos_right h1 hy
      have e2 := Int.mul_le_mul_of_nonpos_right h2 hy
      omega
  have key2 : ∀ p : Int, min (p * c) (p * d) ≤ p * y ∧ p * y ≤ max (p * c) (p * d) := by
    intro p
    rcases Int.le_total 0 p with hp | hp
    · have e1 := Int.mul_le_mul_of_nonneg_left h3 hp
      have e2 := Int.mul_le_mul_of_nonneg_left h4 hp
      omega
    · have e1 := Int.mul_le_mul_of_nonpos_left hp h3
      have e2 := Int.mul_le_mul_of_nonpos_left hp h4
      omega
  have k1 := key1 y
  have k2 := key2 a
  have k3 := key2 b
  unfold zmin4 zmax4
  omega
theorem zti (z : Int32) : z.toInt = if 2 * z.toBitVec.toNat < 2 ^ 32 then (z.toBitVec.toNat : Int) else (z.toBitVec.toNat : Int) - 2 ^ 32 := by
  have h := BitVec.toInt_eq_toNat_cond z.toBitVec
  rw [← Int32.toInt_toBitVec, h]
  rfl
theorem zand_ok (x y : Int32) (h : 0 ≤ y.toInt) : 0 ≤ (x &&& y).toInt ∧ (x &&& y).toInt ≤ y.toInt := by
  have ha : (x &&& y).toBitVec.toNat = x.toBitVec.toNat &&& y.toBitVec.toNat := by rw [Int32.toBitVec_and, BitVec.toNat_and]
  have hle : x.toBitVec.toNat &&& y.toBitVec.toNat ≤ y.toBitVec.toNat := Nat.and_le_right
  have hy := y.toBitVec.isLt
  have e1 := zti y
  have e2 := zti (x &&& y)
  rw [ha] at e2
  split at e1 <;> split at e2 <;> omega
theorem zshl_key : ∀ n : Nat, n < 31 → ((1 : Int32) <<< (Int32.ofInt (n : Int) &&& 31)).toInt = (2 : Int) ^ n := by decide +kernel
theorem zpow_le {a b : Nat} (h : a ≤ b) : (2 : Int) ^ a ≤ 2 ^ b := by
  have := Nat.pow_le_pow_right (n := 2) (by omega) h
  exact_mod_cast this
theorem zshl_ok (y : Int32) (c d : Int) (h0 : 0 ≤ c) (h1 : c ≤ y.toInt) (h2 : y.toInt ≤ d) (h3 : d ≤ 30) : (2 : Int) ^ c.toNat ≤ ((1 : Int32) <<< (y &&& 31)).toInt ∧ ((1 : Int32) <<< (y &&& 31)).toInt ≤ 2 ^ d.toNat := by
  have e : y = Int32.ofInt ((y.toInt.toNat : Nat) : Int) := by rw [Int.toNat_of_nonneg (by omega)]; exact (Int32.ofInt_toInt y).symm
  have k := zshl_key y.toInt.toNat (by omega)
  rw [← e] at k
  rw [k]
  exact ⟨zpow_le (by omega), zpow_le (by omega)⟩
theorem zdiv_ok {x y : Int32} {a b c d : Int} (h1 : a ≤ x.toInt) (h2 : x.toInt ≤ b) (h3 : c ≤ y.toInt) (h4 : y.toInt ≤ d) (hc : 0 < c) (ha : 0 ≤ a) : (x / y).toInt = x.toInt / y.toInt ∧ a / d ≤ (x / y).toInt ∧ (x / y).toInt ≤ b / c := by
  have hy : 0 < y.toInt := by omega
  have hq : 0 ≤ x.toInt / y.toInt := Int.ediv_nonneg (by omega) (by omega)
  have hm : x.toInt / y.toInt * y.toInt ≤ x.toInt := Int.ediv_mul_le _ (by omega)
  have hle : x.toInt / y.toInt ≤ x.toInt := Int.ediv_le_self _ (by omega)
  have e : (x / y).toInt = x.toInt / y.toInt := by
    rw [Int32.toInt_div, Int.tdiv_eq_ediv_of_nonneg (by omega)]
    have := zb32 x
    exact z_bm (by omega) (by omega)
  refine ⟨e, ?_, ?_⟩
  · rw [e, Int.le_ediv_iff_mul_le hy]
    have hd : 0 ≤ a / d := Int.ediv_nonneg ha (by omega)
    have k1 : a / d * y.toInt ≤ a / d * d := Int.mul_le_mul_of_nonneg_left h4 hd
    have k2 : a / d * d ≤ a := Int.ediv_mul_le _ (by omega)
    omega
  · rw [e, Int.le_ediv_iff_mul_le hc]
    have k1 : x.toInt / y.toInt * c ≤ x.toInt / y.toInt * y.toInt := Int.mul_le_mul_of_nonneg_left h3 hq
    omega
theorem zrem_ok {x y : Int32} (h1 : 0 ≤ x.toInt) (h3 : 0 < y.toInt) : (x - x / y * y).toInt = x.toInt % y.toInt := by
  have hd := (zdiv_ok (a := 0) (b := x.toInt) (c := y.toInt) (d := y.toInt) h1 (Int.le_refl _) (Int.le_refl _) (Int.le_refl _) h3 (Int.le_refl _)).1
  have hx := zb32 x
  have hq : 0 ≤ x.toInt / y.toInt := Int.ediv_nonneg (by omega) (by omega)
  have hm : x.toInt / y.toInt * y.toInt ≤ x.toInt := Int.ediv_mul_le _ (by omega)
  have hn : 0 ≤ x.toInt / y.toInt * y.toInt := Int.mul_nonneg hq (by omega)
  have e1 : (x / y * y).toInt = x.toInt / y.toInt * y.toInt := by
    rw [Int32.toInt_mul, hd]
    exact z_bm (by omega) (by omega)
  rw [Int32.toInt_sub, e1, z_bm (by omega) (by omega)]
  have := Int.emod_def x.toInt y.toInt
  rw [this, Int.mul_comm]
theorem zne0 {y : Int32} (h : y.toInt ≠ 0) : y ≠ 0 := fun e => h (by rw [e]; rfl)
theorem zar_ok {ty : List Nat} {o : Nat} {a b c d : Int} {r : zA} {x y : Int32} (hr : zar o a b c d = some r) (h1 : a ≤ x.toInt) (h2 : x.toInt ≤ b) (h3 : c ≤ y.toInt) (h4 : y.toInt ≤ d) : zG ty r (.int (zop2 o x y)) ∧ ((o = 11 ∨ o = 12) → y ≠ 0) := by
  unfold zar at hr
  split at hr
  · cases hr
    exact ⟨zw_ok (n := x.toInt + y.toInt) (by omega) (by omega) (Int32.toInt_add x y), fun h => by omega⟩
  · cases hr
    exact ⟨zw_ok (n := x.toInt - y.toInt) (by omega) (by omega) (Int32.toInt_sub x y), fun h => by omega⟩
  · cases hr
    obtain ⟨k1, k2⟩ := zmul_bd h1 h2 h3 h4
    exact ⟨zw_ok (n := x.toInt * y.toInt) k1 k2 (Int32.toInt_mul x y), fun h => by omega⟩
  · split at hr
    · next hc =>
      split at hr
      · next ha =>
        cases hr
        obtain ⟨e, k1, k2⟩ := zdiv_ok h1 h2 h3 h4 hc ha
        exact ⟨⟨_, rfl, k1, k2⟩, fun _ => zne0 (by omega)⟩
      · cases hr
        exact ⟨zFull_ok _, fun _ => zne0 (by omega)⟩
    · split at hr
      · cases hr
        exact ⟨zFull_ok _, fun _ => zne0 (by omega)⟩
      · cases hr
  · split at hr
    · next hc =>
      split at hr
      · next ha =>
        cases hr
        have e := zrem_ok (x := x) (y := y) (by omega) (by omega)
        have k1 := Int.emod_nonneg x.toInt (b := y.toInt) (by omega)
        have k2 := Int.emod_lt_of_pos x.toInt (b := y.toInt) (by omega)
        have k3 : x.toInt % y.toInt ≤ x.toInt := by
          have := Int.emod_def x.toInt y.toInt
          have hq : 0 ≤ y.toInt * (x.toInt / y.toInt) := Int.mul_nonneg (by omega) (Int.ediv_nonneg (by omega) (by omega))
          omega
        exact ⟨⟨_, rfl, by rw [show zop2 12 x y = x - x / y * y from rfl, e]; exact k1, by rw [show zop2 12 x y = x - x / y * y from rfl, e]; omega⟩, fun _ => zne0 (by omega)⟩
      · cases hr
        exact ⟨zFull_ok _, fun _ => zne0 (by omega)⟩
    · split at hr
      · cases hr
        exact ⟨zFull_ok _, fun _ => zne0 (by omega)⟩
      · cases hr
  · split at hr
    · next hc =>
      cases hr
      obtain ⟨rfl, rfl, c0, d0⟩ := hc
      have ex : x = 1 := Int32.toInt_inj.mp (by rw [show (1 : Int32).toInt = 1 from rfl]; omega)
      subst ex
      obtain ⟨k1, k2⟩ := zshl_ok y c d c0 h3 h4 d0
      exact ⟨⟨_, rfl, k1, k2⟩, fun h => by omega⟩
    · cases hr
      exact ⟨zFull_ok _, fun h => by omega⟩
  · split at hr
    · next hc =>
      cases hr
      obtain ⟨k1, k2⟩ := zand_ok x y (by omega)
      exact ⟨⟨_, rfl, k1, by show (x &&& y).toInt ≤ d; omega⟩, fun h => by omega⟩
    · split at hr
      · next ha =>
        cases hr
        obtain ⟨k1, k2⟩ := zand_ok y x (by omega)
        rw [Int32.and_comm] at k1 k2
        exact ⟨⟨_, rfl, k1, by show (x &&& y).toInt ≤ b; omega⟩, fun h => by omega⟩
      · cases hr
        exact ⟨zFull_ok _, fun h => by omega⟩
  · cases hr; exact ⟨zFull_ok _, fun h => by omega⟩
  · cases hr; exact ⟨zFull_ok _, fun h => by omega⟩
  · cases hr; exact ⟨zFull_ok _, fun h => by omega⟩
  · cases hr; exact ⟨zFull_ok _, fun h => by omega⟩
  · cases hr
end
section
/-! what the checker's state says of the machine's: each number stands for a value -/
noncomputable def zEv (ty : List Nat) (ρ : List Value) (env : List zEn) : Prop := env.length = ρ.length ∧ ∀ (i : Nat) (e : zEn) (v : Value), env[i]? = some e → ρ[i]? = some v → zG ty e.1 v ∧ ∀ b, e.2.1 = b + 1 → ∃ x y : Int32, v = .int x ∧ ρ[b]? = some (.int y) ∧ x.toInt = y.toInt + e.2.2
noncomputable def zIx (ρ : List Value) (b : Nat) (off : Int) (i : Nat) : Prop := match b with
  | 0 => off = (i : Int)
  | b + 1 => ∃ y : Int32, ρ[b]? = some (.int y) ∧ (i : Int) = y.toInt + off
noncomputable def zMm (h : zH) (ρ : List Value) (me : List zMe) : Prop := ∀ m ∈ me, ∃ (a : Nat) (e : zE) (i : Nat) (v : Value), ρ[m.1]? = some (.ref a) ∧ h[a]? = some e ∧ zIx ρ m.2.1 m.2.2.1 i ∧ z_rd e i = some v ∧ ρ[m.2.2.2]? = some v
noncomputable def zLo (ρ : List Value) (loc : zLs) (lo : zL) : Prop := ∀ p ∈ loc, ∃ v, ρ[p.2]? = some v ∧ z_get lo p.1 = some v
noncomputable def zSk (ρ : List Value) : List Nat → List Value → Prop
  | [], [] => True
  | i :: is, v :: vs => ρ[i]? = some v ∧ zSk ρ is vs
  | _, _ => False
noncomputable def zRx (ρ ρ' : List Value) : Prop := ∀ (i : Nat) (v : Value), ρ[i]? = some v → ρ'[i]? = some v
theorem zRx.rf {ρ : List Value} : zRx ρ ρ := fun _ _ h => h
theorem zRx.tr {a b c : List Value} (h1 : zRx a b) (h2 : zRx b c) : zRx a c := fun i v h => h2 i v (h1 i v h)
theorem zRx.app {ρ l : List Value} : zRx ρ (ρ ++ l) := fun i v h => by
  rw [List.getElem?_append_left (List.getElem?_eq_some_iff.mp h).1]; exact h
theorem zIx.mono {ρ ρ' : List Value} {b : Nat} {off : Int} {i : Nat} (h : zRx ρ ρ') (q : zIx ρ b off i) : zIx ρ' b off i := by
  cases b with
  | zero => exact q
  | succ b =>
    obtain ⟨y, h1, h2⟩ := q
    exact ⟨y, h b _ h1, h2⟩
theorem zMm.mono {h : zH} {ρ ρ' : List Value} {me : List zMe} (hx : zRx ρ ρ') (q : zMm h ρ me) : zMm h ρ' me := fun m hm => by
  obtain ⟨a, e, i, v, h1, h2, h3, h4, h5⟩ := q m hm
  exact ⟨a, e, i, v, hx _ _ h1, h2, h3.mono hx, h4, hx _ _ h5⟩
theorem zLo.mono {ρ ρ' : List Value} {loc : zLs} {lo : zL} (hx : zRx ρ ρ') (q : zLo ρ loc lo) : zLo ρ' loc lo := fun p hp => by
  obtain ⟨v, h1, h2⟩ := q p hp
  exact ⟨v, hx _ _ h1, h2⟩
theorem zSk.mono {ρ ρ' : List Value} (hx : zRx ρ ρ') : ∀ {stk : List Nat} {st : List Value}, zSk ρ stk st → zSk ρ' stk st
  | [], [], _ => trivial
  | _ :: _, _ :: _, h => ⟨hx _ _ h.1, zSk.mono hx h.2⟩
noncomputable def zav (env : List zEn) (i : Nat) : zA := match env[i]? with
  | some e => e.1
  | none => (9, 0, 0)
theorem zEv.at {ty : List Nat} {ρ : List Value} {env : List zEn} {i : Nat} {v : Value} (H : zEv ty ρ env) (hv : ρ[i]? = some v) : zG ty (zav env i) v := by
  have hl : i < env.length := by rw [H.1]; exact (List.getElem?_eq_some_iff.mp hv).1
  unfold zav
  rw [List.getElem?_eq_getElem hl]
  exact (H.2 i env[i] v (List.getElem?_eq_getElem hl) hv).1
theorem zEv.ex {ty : List Nat} {ρ : List Value} {env : List zEn} {i : Nat} {v : Value} (H : zEv ty ρ env) (hv : ρ[i]? = some v) : ∃ e, env[i]? = some e ∧ zav env i = e.1 := by
  have hl : i < env.length := by rw [H.1]; exact (List.getElem?_eq_some_iff.mp hv).1
  refine ⟨env[i], List.getElem?_eq_getElem hl, ?_⟩
  unfold zav
  rw [List.getElem?_eq_getElem hl]
theorem zEv.push {ty : List Nat} {ρ : List Value} {env : List zEn} {e : zEn} {v : Value} (H : zEv ty ρ env) (hv : zG ty e.1 v) (hb : ∀ b, e.2.1 = b + 1 → ∃ x y : Int32, v = .int x ∧ ρ[b]? = some (.int y) ∧ x.toInt = y.toInt + e.2.2) : zEv ty (ρ ++ [v]) (env ++ [e]) := by
  refine ⟨by rw [List.length_append, List.length_append, H.1]; rfl, fun i e9 v9 h1 h2 => ?_⟩
  by_cases hi : i < env.length
  · rw [List.getElem?_append_left hi] at h1
    rw [List.getElem?_append_left (by rw [← H.1]; exact hi)] at h2
    obtain ⟨g1, g2⟩ := H.2 i e9 v9 h1 h2
    refine ⟨g1, fun b hb9 => ?_⟩
    obtain ⟨x, y, q1, q2, q3⟩ := g2 b hb9
    exact ⟨x, y, q1, zRx.app b _ q2, q3⟩
  · rw [List.getElem?_append_right (by omega)] at h1
    rw [List.getElem?_append_right (by rw [← H.1]; omega), ← H.1] at h2
    have hz : i - env.length = 0 := by
      have := (List.getElem?_eq_some_iff.mp h1).1
      rw [List.length_singleton] at this
      omega
    rw [hz] at h1 h2
    cases h1
    cases h2
    refine ⟨hv, fun b hb9 => ?_⟩
    obtain ⟨x, y, q1, q2, q3⟩ := hb b hb9
    exact ⟨x, y, q1, zRx.app b _ q2, q3⟩
theorem zEv.push0 {ty : List Nat} {ρ : List Value} {env : List zEn} {a : zA} {v : Value} (H : zEv ty ρ env) (hv : zG ty a v) : zEv ty (ρ ++ [v]) (env ++ [(a, 0, 0)]) := H.push hv (fun b h => by cases h)
theorem zEv.new {ty : List Nat} {ρ : List Value} {env : List zEn} (H : zEv ty ρ env) (v : Value) : (ρ ++ [v])[env.length]? = some v := by rw [H.1, List.getElem?_append_right (Nat.le_refl _), Nat.sub_self]; rfl
theorem zEv.ext {ty ty' : List Nat} {ρ : List Value} {env : List zEn} (H : zEv ty ρ env) (hx : zExt ty ty') : zEv ty' ρ env := ⟨H.1, fun i e v h1 h2 => ⟨zG_ext hx (H.2 i e v h1 h2).1, (H.2 i e v h1 h2).2⟩⟩
/-! tags -/
theorem zG0 {ty : List Nat} {a : zA} {v : Value} (g : zG ty a v) (h : a.1 = 0) : ∃ x : Int32, v = .int x ∧ a.2.1 ≤ x.toInt ∧ x.toInt ≤ a.2.2 := by
  obtain ⟨t, lo, hi⟩ := a
  dsimp only at h
  subst h
  exact g
theorem zG1 {ty : List Nat} {a : zA} {v : Value} (g : zG ty a v) (h : a.1 = 1) : ∃ x : Int64, v = .long x ∧ a.2.1 ≤ x.toInt ∧ x.toInt ≤ a.2.2 := by
  obtain ⟨t, lo, hi⟩ := a
  dsimp only at h
  subst h
  exact g
theorem zG2 {ty : List Nat} {a : zA} {v : Value} (g : zG ty a v) (h : a.1 = 2) : ∃ i t : Nat, v = .ref i ∧ ty[i]? = some t ∧ a.2.1 ≤ (t : Int) ∧ (t : Int) ≤ a.2.2 := by
  obtain ⟨t, lo, hi⟩ := a
  dsimp only at h
  subst h
  exact g
theorem zG3 {ty : List Nat} {a : zA} {v : Value} (g : zG ty a v) (h : a.1 = 3) : v = .null ∨ ∃ i t : Nat, v = .ref i ∧ ty[i]? = some t ∧ a.2.1 ≤ (t : Int) ∧ (t : Int) ≤ a.2.2 := by
  obtain ⟨t, lo, hi⟩ := a
  dsimp only at h
  subst h
  exact g
theorem zG4 {ty : List Nat} {a : zA} {v : Value} (g : zG ty a v) (h : a.1 = 4) : v = .null := by
  obtain ⟨t, lo, hi⟩ := a
  dsimp only at h
  subst h
  exact g
theorem zG5 {ty : List Nat} {a : zA} {v : Value} (g : zG ty a v) (h : a.1 = 5) : v = .ref (zB + a.2.1.toNat) := by
  obtain ⟨t, lo, hi⟩ := a
  dsimp only at h
  subst h
  exact g
noncomputable def zisR (a : zA) : Bool := decide (a.1 = 2) || decide (5 ≤ a.1)
theorem zGr {ty : List Nat} {a : zA} {v : Value} (g : zG ty a v) (h : zisR a = true) : ∃ i : Nat, v = .ref i := by
  unfold zisR at h
  simp only [Bool.or_eq_true, decide_eq_true_eq] at h
  obtain ⟨t, lo, hi⟩ := a
  rcases h with h | h
  · obtain ⟨i, t, e, -⟩ := zG2 g h
    exact ⟨i, e⟩
  · have ht : t = 5 ∨ ∃ n, t = n + 6 := by
      by_cases h5 : t = 5
      · exact Or.inl h5
      · exact Or.inr ⟨t - 6, by dsimp only at h; omega⟩
    rcases ht with rfl | ⟨n, rfl⟩
    · exact ⟨_, g⟩
    · exact ⟨_, g⟩
theorem zGcat {ty : List Nat} {a : zA} {v : Value} (g : zG ty a v) : v.category = if a.1 = 1 then 2 else 1 := by
  unfold zG at g
  split at g
  · obtain ⟨x, rfl, -⟩ := g; rfl
  · obtain ⟨x, rfl, -⟩ := g; rfl
  · obtain ⟨x, t, rfl, -⟩ := g; rfl
  · rcases g with rfl | ⟨x, t, rfl, -⟩ <;> rfl
  · subst g; rfl
  · subst g; rfl
  · next n1 n2 n3 n4 n5 n6 =>
    subst g
    obtain ⟨t, lo, hi⟩ := a
    rw [if_neg (fun h => n2 lo hi (by dsimp only at h; rw [h]))]
    rfl
noncomputable def zct (env : List zEn) (stk : List Nat) : Nat := (stk.map (fun i => if (zav env i).1 = 1 then 2 else 1)).sum
theorem zct_ok {ty : List Nat} {ρ : List Value} {env : List zEn} (H : zEv ty ρ env) : ∀ {stk : List Nat} {st : List Value}, zSk ρ stk st → z_cat st = zct env stk
  | [], [], _ => rfl
  | i :: is, v :: vs, h => by
    have ih := zct_ok H h.2
    unfold z_cat zct at ih ⊢
    rw [List.map_cons, List.map_cons, List.sum_cons, List.sum_cons, ih, zGcat (H.at h.1)]
/-! locals -/
noncomputable def zlk (loc : zLs) (a : Nat) : Option Nat := (loc.find? (fun p => p.1 == a)).map (fun p => p.2)
theorem zlk_ok {ρ : List Value} {loc : zLs} {lo : zL} {a i : Nat} (H : zLo ρ loc lo) (h : zlk loc a = some i) : ∃ v, ρ[i]? = some v ∧ z_get lo a = some v := by
  unfold zlk at h
  cases hf : loc.find? (fun p => p.1 == a) with
  | none => rw [hf] at h; cases h
  | some p =>
    rw [hf] at h
    cases h
    have h1 : p.1 = a := by simpa using List.find?_some hf
    obtain ⟨v, g1, g2⟩ := H p (List.mem_of_find?_eq_some hf)
    exact ⟨v, g1, by rw [← h1]; exact g2⟩
theorem zfind {α : Type} {P F : α → Bool} {q : α} : ∀ {l : List α}, l.find? P = some q → F q = true → l.find? (fun a => decide (F a = true ∧ P a = true)) = some q
  | [], h, _ => by cases h
  | x :: l, h, hF => by
    rw [List.find?_cons] at h ⊢
    cases hP : P x with
    | true =>
      rw [hP] at h
      cases h
      simp [hF, hP]
    | false =>
      rw [hP] at h
      dsimp only at h
      rw [show decide (F x = true ∧ false = true) = false by simp]
      exact zfind h hF
theorem zget_filter {lo : zL} {F : Nat × Value → Bool} {i : Nat} {w : Value} (h : z_get lo i = some w) (hF : ∀ q : Nat × Value, q.1 = i → q.2 = w → F q = true) : z_get (lo.filter F) i = some w := by
  unfold z_get at h ⊢
  rw [List.find?_filter]
  cases hf : lo.find? (fun q => q.1 == i) with
  | none => rw [hf] at h; cases h
  | some q =>
    rw [hf] at h
    have h1 : q.1 = i := by simpa using List.find?_some hf
    have h2 : q.2 = w := Option.some.inj h
    rw [zfind hf (hF q h1 h2)]
    exact congrArg some h2
theorem zget_cons {lo : zL} {a i : Nat} {v w : Value} (h : z_get lo i = some w) (hne : i ≠ a) : z_get ((a, v) :: lo) i = some w := by
  unfold z_get at h ⊢
  rw [List.find?_cons]
  have : ((a, v).1 == i) = false := by simpa using fun e => hne e.symm
  rw [this]
  exact h
theorem zget_self {lo : zL} {a : Nat} {v : Value} : z_get ((a, v) :: lo) a = some v := by
  unfold z_get
  rw [List.find?_cons]
  simp
noncomputable def zset1 (env : List zEn) (loc : zLs) (a i : Nat) : zLs := (a, i) :: loc.filter (fun p => !(p.1 == a) && !(p.1 + 1 == a && (zav env p.2).1 == 1))
noncomputable def zset2 (env : List zEn) (loc : zLs) (a i : Nat) : zLs := (a, i) :: loc.filter (fun p => !(p.1 == a) && (!(p.1 == a + 1) && !(p.1 + 1 == a && (zav env p.2).1 == 1)))
noncomputable def zdrop (env : List zEn) (loc : zLs) (a : Nat) : zLs := loc.filter (fun p => !(p.1 == a) && !(p.1 + 1 == a && (zav env p.2).1 == 1))
theorem zdrop_ok {ty : List Nat} {ρ : List Value} {env : List zEn} {loc : zLs} {lo : zL} {a : Nat} (E : zEv ty ρ env) (H : zLo ρ loc lo) : zLo ρ (zdrop env loc a) (z_drop lo a) := by
  intro p hp
  obtain ⟨hp1, hp2⟩ := List.mem_filter.mp hp
  obtain ⟨v, h1, h2⟩ := H p hp1
  refine ⟨v, h1, zget_filter h2 (fun q e1 e2 => ?_)⟩
  rw [e1, e2]
  have hc := zGcat (E.at h1)
  cases h3 : (zav env p.2).1 == 1 with
  | true => rw [h3] at hp2; rw [hc, if_pos (by simpa using h3)]; exact hp2
  | false =>
    rw [h3] at hp2
    rw [hc, if_neg (by simpa using h3)]
    simp only [Bool.and_false, Bool.not_false, Bool.and_true] at hp2
    rw [hp2]
    simp
theorem zset1_ok {ty : List Nat} {ρ : List Value} {env : List zEn} {loc : zLs} {lo : zL} {a i : Nat} {v : Value} (E : zEv ty ρ env) (H : zLo ρ loc lo) (hv : ρ[i]? = some v) : zLo ρ (zset1 env loc a i) (z_set1 lo a v) := by
  intro p hp
  rcases List.mem_cons.mp hp with rfl | hp
  · exact ⟨v, hv, zget_self⟩
  · obtain ⟨w, h1, h2⟩ := zdrop_ok (a := a) E H p hp
    refine ⟨w, h1, zget_cons h2 (fun e => ?_)⟩
    have := (List.mem_filter.mp hp).2
    rw [e] at this
    simp at this
theorem zset2_ok {ty : List Nat} {ρ : List Value} {env : List zEn} {loc : zLs} {lo : zL} {a i : Nat} {v : Value} (E : zEv ty ρ env) (H : zLo ρ loc lo) (hv : ρ[i]? = some v) : zLo ρ (zset2 env loc a i) (z_set2 lo a v) := by
  intro p hp
  rcases List.mem_cons.mp hp with rfl | hp
  · exact ⟨v, hv, zget_self⟩
  · obtain ⟨hp1, hp2⟩ := List.mem_filter.mp hp
    obtain ⟨w, h1, h2⟩ := H p hp1
    have hne : p.1 ≠ a := fun e => by rw [e] at hp2; simp at hp2
    refine ⟨w, h1, zget_cons (zget_filter h2 (fun q e1 e2 => ?_)) hne⟩
    rw [e1, e2]
    have hc := zGcat (E.at h1)
    cases h3 : (zav env p.2).1 == 1 with
    | true => rw [h3] at hp2; rw [hc, if_pos (by simpa using h3)]; exact hp2
    | false =>
      rw [h3] at hp2
      rw [hc, if_neg (by simpa using h3)]
      simp only [Bool.and_false, Bool.not_false, Bool.and_true, Bool.and_eq_true] at hp2
      rw [hp2.1, hp2.2]
      simp
end
section
/-! the checker's steps that leave the heap as it is -/
abbrev zQop : Type := (Nat → zTy) → Nat → List zMod → Nat → Nat → Int → zQ → Option zQ
noncomputable def zSd (op : zNop) (qop : zQop) : Prop := ∀ (tt : Nat → zTy) (sx : zX) (dq d : Nat) (ms : List zMod) (a b : Nat) (c : Int) (k : Nat) (ty : List Nat) (ρ : List Value) (q q' : zQ) (lo : zL) (st : List Value) (h : zH), dq ≤ d → zTY tt ty h → zEv ty ρ q.1 → zMm h ρ q.2.1 → zLo ρ q.2.2.1 lo → zSk ρ q.2.2.2 st → qop tt dq ms a b c q = some q' →
  ∃ (ρ' : List Value) (lo' : zL) (st' : List Value) (h' : zH), op sx d a b c k lo st h = zn (k + 1) lo' st' h' ∧ zRx ρ ρ' ∧ zTY tt ty h' ∧ zEv ty ρ' q'.1 ∧ zMm h' ρ' q'.2.1 ∧ zLo ρ' q'.2.2.1 lo' ∧ zSk ρ' q'.2.2.2 st' ∧ zFm ms ty h h'
noncomputable def zPu (q : zQ) (stk : List Nat) (e : zEn) : zQ := (q.1 ++ [e], q.2.1, q.2.2.1, q.1.length :: stk)
theorem zPu_ok {ty : List Nat} {ρ : List Value} {q : zQ} {stk : List Nat} {e : zEn} {v : Value} {lo : zL} {st : List Value} {h : zH} (E : zEv ty ρ q.1) (Mm : zMm h ρ q.2.1) (L : zLo ρ q.2.2.1 lo) (S : zSk ρ stk st) (hv : zG ty e.1 v) (hb : ∀ b, e.2.1 = b + 1 → ∃ x y : Int32, v = .int x ∧ ρ[b]? = some (.int y) ∧ x.toInt = y.toInt + e.2.2) : zRx ρ (ρ ++ [v]) ∧ zEv ty (ρ ++ [v]) (zPu q stk e).1 ∧ zMm h (ρ ++ [v]) (zPu q stk e).2.1 ∧ zLo (ρ ++ [v]) (zPu q stk e).2.2.1 lo ∧ zSk (ρ ++ [v]) (zPu q stk e).2.2.2 (v :: st) :=
  ⟨zRx.app, E.push hv hb, Mm.mono zRx.app, L.mono zRx.app, E.new v, S.mono zRx.app⟩
theorem zPu0 {ty : List Nat} {ρ : List Value} {q : zQ} {stk : List Nat} {a : zA} {v : Value} {lo : zL} {st : List Value} {h : zH} (E : zEv ty ρ q.1) (Mm : zMm h ρ q.2.1) (L : zLo ρ q.2.2.1 lo) (S : zSk ρ stk st) (hv : zG ty a v) : zRx ρ (ρ ++ [v]) ∧ zEv ty (ρ ++ [v]) (zPu q stk (a, 0, 0)).1 ∧ zMm h (ρ ++ [v]) (zPu q stk (a, 0, 0)).2.1 ∧ zLo (ρ ++ [v]) (zPu q stk (a, 0, 0)).2.2.1 lo ∧ zSk (ρ ++ [v]) (zPu q stk (a, 0, 0)).2.2.2 (v :: st) :=
  zPu_ok E Mm L S hv (fun b h => by cases h)
noncomputable def zq_no : zQop := fun _ _ _ _ _ _ _ => none
theorem zSd_no (op : zNop) : zSd op zq_no := fun _ _ _ _ _ _ _ _ _ _ _ _ _ _ _ _ _ _ _ _ _ _ h => by cases h
noncomputable def zq_const : zQop := fun _ _ _ _ _ c q => if zMn ≤ c ∧ c ≤ zMx then some (zPu q q.2.2.2 ((0, c, c), 0, 0)) else none
theorem zSd_const : zSd zo_const zq_const := by
  intro tt sx dq d ms a b c k ty ρ q q' lo st h hd T E Mm L S hq
  unfold zq_const at hq
  split at hq
  case isFalse => cases hq
  next hc =>
  cases hq
  have e1 : zMn = -2147483648 := rfl
  have e2 : zMx = 2147483647 := rfl
  have e := z_of32 (n := c) (by omega) (by omega)
  obtain ⟨r1, r2, r3, r4, r5⟩ := zPu0 (v := .int (Int32.ofInt c)) E Mm L S (a := (0, c, c)) ⟨_, rfl, by rw [e]; exact Int.le_refl _, by rw [e]; exact Int.le_refl _⟩
  exact ⟨_, _, _, _, rfl, r1, T, r2, r3, r4, r5, zFm.rf⟩
/-! locals -/
noncomputable def zq_load (P : zA → Bool) : zQop := fun _ _ _ a _ _ q => match zlk q.2.2.1 a with
  | some i => if P (zav q.1 i) = true then some (q.1, q.2.1, q.2.2.1, i :: q.2.2.2) else none
  | none => none
theorem zSd_load {op : zNop} {P : zA → Bool} (hop : ∀ (sx : zX) (d a b : Nat) (c : Int) (k : Nat) (lo : zL) (st : List Value) (h : zH) (ty : List Nat) (w : zA) (v : Value), z_get lo a = some v → zG ty w v → P w = true → op sx d a b c k lo st h = zn (k + 1) lo (v :: st) h) : zSd op (zq_load P) := by
  intro tt sx dq d ms a b c k ty ρ q q' lo st h hd T E Mm L S hq
  unfold zq_load at hq
  split at hq
  case h_2 => cases hq
  next i hi =>
  split at hq
  case isFalse => cases hq
  next hP =>
  cases hq
  obtain ⟨v, h1, h2⟩ := zlk_ok L hi
  exact ⟨ρ, lo, v :: st, h, hop sx d a b c k lo st h ty _ v h2 (E.at h1) hP, zRx.rf, T, E, Mm, L, ⟨h1, S⟩, zFm.rf⟩
noncomputable def zisI (a : zA) : Bool := decide (a.1 = 0)
noncomputable def zisJ (a : zA) : Bool := decide (a.1 = 1)
theorem zSd_iload : zSd zo_iload (zq_load zisI) := zSd_load (fun sx d a b c k lo st h ty w v h1 g hP => by
  obtain ⟨x, rfl, -⟩ := zG0 g (of_decide_eq_true hP)
  unfold zo_iload
  rw [h1])
theorem zSd_aload : zSd zo_aload (zq_load zisR) := zSd_load (fun sx d a b c k lo st h ty w v h1 g hP => by
  obtain ⟨x, rfl⟩ := zGr g hP
  unfold zo_aload
  rw [h1])
theorem zSd_lload : zSd zo_lload (zq_load zisJ) := zSd_load (fun sx d a b c k lo st h ty w v h1 g hP => by
  obtain ⟨x, rfl, -⟩ := zG1 g (of_decide_eq_true hP)
  unfold zo_lload
  rw [h1])
noncomputable def zq_sto1 (P : zA → Bool) : zQop := fun _ _ _ a _ _ q => match q.2.2.2 with
  | i :: stk => if P (zav q.1 i) = true then some (q.1, q.2.1, zset1 q.1 q.2.2.1 a i, stk) else none
  | [] => none
theorem zSd_sto1 {op : zNop} {P : zA → Bool} (hop : ∀ (sx : zX) (d a b : Nat) (c : Int) (k : Nat) (lo : zL) (st : List Value) (h : zH) (ty : List Nat) (w : zA) (v : Value), zG ty w v → P w = true → op sx d a b c k lo (v :: st) h = zn (k + 1) (z_set1 lo a v) st h) : zSd op (zq_sto1 P) := by
  intro tt sx dq d ms a b c k ty ρ q q' lo st h hd T E Mm L S hq
  obtain ⟨env, me, loc, stk⟩ := q
  unfold zq_sto1 at hq
  dsimp only at hq E Mm L S
  cases stk with
  | nil => cases hq
  | cons i stk =>
  cases st with
  | nil => exact S.elim
  | cons v st =>
  dsimp only at hq
  split at hq
  case isFalse => cases hq
  next hP =>
  cases hq
  exact ⟨ρ, _, st, h, hop sx d a b c k lo st h ty _ v (E.at S.1) hP, zRx.rf, T, E, Mm, zset1_ok E L S.1, S.2, zFm.rf⟩
theorem zSd_istore : zSd zo_istore (zq_sto1 zisI) := zSd_sto1 (fun sx d a b c k lo st h ty w v g hP => by
  obtain ⟨x, rfl, -⟩ := zG0 g (of_decide_eq_true hP)
  rfl)
theorem zSd_astore : zSd zo_astore (zq_sto1 zisR) := zSd_sto1 (fun sx d a b c k lo st h ty w v g hP => by
  obtain ⟨x, rfl⟩ := zGr g hP
  rfl)
noncomputable def zq_lstore : zQop := fun _ _ _ a _ _ q => match q.2.2.2 with
  | i :: stk => if (zav q.1 i).1 = 1 then some (q.1, q.2.1, zset2 q.1 q.2.2.1 a i, stk) else none
  | [] => none
theorem zSd_lstore : zSd zo_lstore zq_lstore := by
  intro tt sx dq d ms a b c k ty ρ q q' lo st h hd T E Mm L S hq
  obtain ⟨env, me, loc, stk⟩ := q
  unfold zq_lstore at hq
  dsimp only at hq E Mm L S
  cases stk with
  | nil => cases hq
  | cons i stk =>
  cases st with
  | nil => exact S.elim
  | cons v st =>
  dsimp only at hq
  split at hq
  case isFalse => cases hq
  next hP =>
  cases hq
  obtain ⟨x, rfl, -⟩ := zG1 (E.at S.1) hP
  exact ⟨ρ, _, st, h, rfl, zRx.rf, T, E, Mm, zset2_ok E L S.1, S.2, zFm.rf⟩
/-! sums with a constant keep where they come from -/
noncomputable def zoff (i : Nat) (e : zEn) (c : Int) : zEn := if zMn ≤ e.1.2.1 + c ∧ e.1.2.2 + c ≤ zMx then ((0, e.1.2.1 + c, e.1.2.2 + c), if e.2.1 = 0 then (i + 1, c) else (e.2.1, e.2.2 + c)) else (zFull, 0, 0)
theorem zoff_ok {ty : List Nat} {ρ : List Value} {env : List zEn} {i : Nat} {e : zEn} {c : Int} {x z : Int32} (E : zEv ty ρ env) (he : env[i]? = some e) (hx : ρ[i]? = some (.int x)) (h0 : e.1.1 = 0) (hz : z.toInt = (x.toInt + c).bmod (2 ^ 32)) : zG ty (zoff i e c).1 (.int z) ∧ ∀ b, (zoff i e c).2.1 = b + 1 → ∃ x9 y : Int32, Value.int z = .int x9 ∧ ρ[b]? = some (.int y) ∧ x9.toInt = y.toInt + (zoff i e c).2.2 := by
  unfold zoff
  obtain ⟨g1, g2⟩ := E.2 i e _ he hx
  obtain ⟨x1, hx1, l1, l2⟩ := zG0 g1 h0
  cases hx1
  have e1 : zMn = -2147483648 := rfl
  have e2 : zMx = 2147483647 := rfl
  by_cases hc : zMn ≤ e.1.2.1 + c ∧ e.1.2.2 + c ≤ zMx
  · rw [if_pos hc]
    rw [z_bm (by omega) (by omega)] at hz
    refine ⟨⟨z, rfl, by omega, by omega⟩, fun b hb => ?_⟩
    by_cases h9 : e.2.1 = 0
    · dsimp only at hb ⊢
      rw [if_pos h9] at hb ⊢
      dsimp only at hb ⊢
      cases hb
      exact ⟨z, x, rfl, hx, hz⟩
    · dsimp only at hb ⊢
      rw [if_neg h9] at hb ⊢
      dsimp only at hb ⊢
      obtain ⟨x2, y, q1, q2, q3⟩ := g2 b hb
      cases q1
      exact ⟨z, y, rfl, q2, by omega⟩
  · rw [if_neg hc]
    exact ⟨zFull_ok z, fun b hb => by cases hb⟩
noncomputable def zq_iinc : zQop := fun _ _ _ a _ c q => match zlk q.2.2.1 a with
  | some i => (match q.1[i]? with
    | some e => if e.1.1 = 0 ∧ zMn ≤ c ∧ c ≤ zMx then some (q.1 ++ [zoff i e c], q.2.1, zset1 (q.1 ++ [zoff i e c]) q.2.2.1 a q.1.length, q.2.2.2) else none
    | none => none)
  | none => none
theorem zSd_iinc : zSd zo_iinc zq_iinc := by
  intro tt sx dq d ms a b c k ty ρ q q' lo st h hd T E Mm L S hq
  unfold zq_iinc at hq
  split at hq
  case h_2 => cases hq
  next i hi =>
  split at hq
  case h_2 => cases hq
  next e he =>
  split at hq
  case isFalse => cases hq
  next hc =>
  cases hq
  obtain ⟨v, h1, h2⟩ := zlk_ok L hi
  obtain ⟨x, rfl, -⟩ := zG0 (E.2 i e v he h1).1 hc.1
  have e1 : zMn = -2147483648 := rfl
  have e2 : zMx = 2147483647 := rfl
  obtain ⟨g1, g2⟩ := zoff_ok (c := c) (z := x + Int32.ofInt c) E he h1 hc.1 (by rw [Int32.toInt_add, z_of32 (by omega) (by omega)])
  have E' := E.push g1 g2
  refine ⟨ρ ++ [.int (x + Int32.ofInt c)], z_set1 lo a (.int (x + Int32.ofInt c)), st, h, ?_, zRx.app, T, E', Mm.mono zRx.app, zset1_ok E' (L.mono zRx.app) (E.new _), S.mono zRx.app, zFm.rf⟩
  unfold zo_iinc
  rw [h2]
noncomputable def zbs (o : Nat) (x y : Nat) (ex ey : zEn) (r : zA) : zEn :=
  if o = 8 ∧ ey.1.2.1 = ey.1.2.2 then zoff x ex ey.1.2.1 else if o = 8 ∧ ex.1.2.1 = ex.1.2.2 then zoff y ey ex.1.2.1 else if o = 9 ∧ ey.1.2.1 = ey.1.2.2 then zoff x ex (-ey.1.2.1) else (r, 0, 0)
noncomputable def zq_bin (o : Nat) : zQop := fun _ _ _ _ _ _ q => match q.2.2.2 with
  | y :: x :: stk => (match q.1[x]?, q.1[y]? with
    | some ex, some ey => if ex.1.1 = 0 ∧ ey.1.1 = 0 then (match zar o ex.1.2.1 ex.1.2.2 ey.1.2.1 ey.1.2.2 with
      | some r => some (zPu q stk (zbs o x y ex ey r))
      | none => none) else none
    | _, _ => none)
  | _ => none
theorem zSd_bin {op : zNop} (o : Nat) (hop : ∀ (sx : zX) (d a b : Nat) (c : Int) (k : Nat) (lo : zL) (x y : Int32) (st : List Value) (h : zH), ((o = 11 ∨ o = 12) → y ≠ 0) → op sx d a b c k lo (.int y :: .int x :: st) h = zn (k + 1) lo (.int (zop2 o x y) :: st) h) : zSd op (zq_bin o) := by
  intro tt sx dq d ms a b c k ty ρ q q' lo st h hd T E Mm L S hq
  unfold zq_bin at hq
  split at hq
  case h_2 => cases hq
  next iy ix stk hs =>
  rw [hs] at S
  match st, S with
  | vy :: vx :: st, S =>
  obtain ⟨s1, s2, s3⟩ := S
  split at hq
  case h_2 => cases hq
  next ex ey hx hy =>
  split at hq
  case isFalse => cases hq
  next hc =>
  split at hq
  case h_2 => cases hq
  next r hr =>
  cases hq
  obtain ⟨x, rfl, x1, x2⟩ := zG0 (E.2 ix ex vx hx s2).1 hc.1
  obtain ⟨y, rfl, y1, y2⟩ := zG0 (E.2 iy ey vy hy s1).1 hc.2
  obtain ⟨g, hne⟩ := zar_ok (ty := ty) hr x1 x2 y1 y2
  have key : zG ty (zbs o ix iy ex ey r).1 (.int (zop2 o x y)) ∧ ∀ b, (zbs o ix iy ex ey r).2.1 = b + 1 → ∃ x9 y9 : Int32, Value.int (zop2 o x y) = .int x9 ∧ ρ[b]? = some (.int y9) ∧ x9.toInt = y9.toInt + (zbs o ix iy ex ey r).2.2 := by
    unfold zbs
    by_cases c1 : o = 8 ∧ ey.1.2.1 = ey.1.2.2
    · rw [if_pos c1]
      obtain ⟨rfl, c1⟩ := c1
      exact zoff_ok E hx s2 hc.1 (by show (x + y).toInt = _; rw [Int32.toInt_add]; congr 2; omega)
    rw [if_neg c1]
    by_cases c2 : o = 8 ∧ ex.1.2.1 = ex.1.2.2
    · rw [if_pos c2]
      obtain ⟨rfl, c2⟩ := c2
      exact zoff_ok E hy s1 hc.2 (by show (x + y).toInt = _; rw [Int32.toInt_add]; congr 1; omega)
    rw [if_neg c2]
    by_cases c3 : o = 9 ∧ ey.1.2.1 = ey.1.2.2
    · rw [if_pos c3]
      obtain ⟨rfl, c3⟩ := c3
      exact zoff_ok E hx s2 hc.1 (by show (x - y).toInt = _; rw [Int32.toInt_sub]; congr 1; omega)
    rw [if_neg c3]
    exact ⟨g, fun b hb => by cases hb⟩
  obtain ⟨r1, r2, r3, r4, r5⟩ := zPu_ok (q := q) (stk := stk) E Mm L s3 key.1 key.2
  exact ⟨_, _, _, _, hop sx d a b c k lo x y st h hne, r1, T, r2, r3, r4, r5, zFm.rf⟩
theorem zSd_iadd : zSd zo_iadd (zq_bin 8) := zSd_bin 8 (fun _ _ _ _ _ _ _ _ _ _ _ _ => rfl)
theorem zSd_isub : zSd zo_isub (zq_bin 9) := zSd_bin 9 (fun _ _ _ _ _ _ _ _ _ _ _ _ => rfl)
theorem zSd_imul : zSd zo_imul (zq_bin 10) := zSd_bin 10 (fun _ _ _ _ _ _ _ _ _ _ _ _ => rfl)
theorem zSd_idiv : zSd zo_idiv (zq_bin 11) := zSd_bin 11 (fun sx d a b c k lo x y st h hn => by unfold zo_idiv; exact if_neg (hn (Or.inl rfl)))
theorem zSd_irem : zSd zo_irem (zq_bin 12) := zSd_bin 12 (fun sx d a b c k lo x y st h hn => by unfold zo_irem; exact if_neg (hn (Or.inr rfl)))
theorem zSd_ishl : zSd zo_ishl (zq_bin 13) := zSd_bin 13 (fun _ _ _ _ _ _ _ _ _ _ _ _ => rfl)
theorem zSd_ishr : zSd zo_ishr (zq_bin 14) := zSd_bin 14 (fun _ _ _ _ _ _ _ _ _ _ _ _ => rfl)
theorem zSd_iushr : zSd zo_iushr (zq_bin 15) := zSd_bin 15 (fun _ _ _ _ _ _ _ _ _ _ _ _ => rfl)
theorem zSd_iand : zSd zo_iand (zq_bin 16) := zSd_bin 16 (fun _ _ _ _ _ _ _ _ _ _ _ _ => rfl)
theorem zSd_ior : zSd zo_ior (zq_bin 17) := zSd_bin 17 (fun _ _ _ _ _ _ _ _ _ _ _ _ => rfl)
theorem zSd_ixor : zSd zo_ixor (zq_bin 18) := zSd_bin 18 (fun _ _ _ _ _ _ _ _ _ _ _ _ => rfl)
/-! one value makes one -/
noncomputable def zq_un (f : zA → Option zA) : zQop := fun _ _ _ _ _ _ q => match q.2.2.2 with
  | x :: stk => (match f (zav q.1 x) with
    | some r => some (zPu q stk (r, 0, 0))
    | none => none)
  | _ => none
theorem zSd_un {op : zNop} {f : zA → Option zA} (hop : ∀ (sx : zX) (d a b : Nat) (c : Int) (k : Nat) (lo : zL) (v : Value) (st : List Value) (h : zH) (ty : List Nat) (w r : zA), zG ty w v → f w = some r → ∃ v', zG ty r v' ∧ op sx d a b c k lo (v :: st) h = zn (k + 1) lo (v' :: st) h) : zSd op (zq_un f) := by
  intro tt sx dq d ms a b c k ty ρ q q' lo st h hd T E Mm L S hq
  unfold zq_un at hq
  split at hq
  case h_2 => cases hq
  next ix stk hs =>
  rw [hs] at S
  match st, S with
  | vx :: st, S =>
  obtain ⟨s1, s2⟩ := S
  split at hq
  case h_2 => cases hq
  next r hr =>
  cases hq
  obtain ⟨v', g, ho⟩ := hop sx d a b c k lo vx st h ty _ r (E.at s1) hr
  obtain ⟨r1, r2, r3, r4, r5⟩ := zPu0 (q := q) (stk := stk) E Mm L s2 g
  exact ⟨_, _, _, _, ho, r1, T, r2, r3, r4, r5, zFm.rf⟩
noncomputable def zf_i2l (a : zA) : Option zA := if a.1 = 0 then some (1, a.2.1, a.2.2) else none
noncomputable def zf_l2i (a : zA) : Option zA := if a.1 = 1 then some zFull else none
noncomputable def zf_i2b (a : zA) : Option zA := if a.1 = 0 then some zFull else none
theorem zSd_i2l : zSd zo_i2l (zq_un zf_i2l) := zSd_un (fun sx d a b c k lo v st h ty w r g hr => by
  unfold zf_i2l at hr
  split at hr
  case isFalse => cases hr
  next h0 =>
  cases hr
  obtain ⟨x, rfl, x1, x2⟩ := zG0 g h0
  exact ⟨_, ⟨x.toInt64, rfl, by rw [Int32.toInt_toInt64]; exact x1, by rw [Int32.toInt_toInt64]; exact x2⟩, rfl⟩)
theorem zSd_l2i : zSd zo_l2i (zq_un zf_l2i) := zSd_un (fun sx d a b c k lo v st h ty w r g hr => by
  unfold zf_l2i at hr
  split at hr
  case isFalse => cases hr
  next h0 =>
  cases hr
  obtain ⟨x, rfl, x1, x2⟩ := zG1 g h0
  exact ⟨_, zFull_ok _, rfl⟩)
theorem zSd_i2b : zSd zo_i2b (zq_un zf_i2b) := zSd_un (fun sx d a b c k lo v st h ty w r g hr => by
  unfold zf_i2b at hr
  split at hr
  case isFalse => cases hr
  next h0 =>
  cases hr
  obtain ⟨x, rfl, x1, x2⟩ := zG0 g h0
  exact ⟨_, zFull_ok _, rfl⟩)
/-! two values make one -/
noncomputable def zq_bi (f : zA → zA → Option zA) : zQop := fun _ _ _ _ _ _ q => match q.2.2.2 with
  | y :: x :: stk => (match f (zav q.1 x) (zav q.1 y) with
    | some r => some (zPu q stk (r, 0, 0))
    | none => none)
  | _ => none
theorem zSd_bi {op : zNop} {f : zA → zA → Option zA} (hop : ∀ (sx : zX) (d a b : Nat) (c : Int) (k : Nat) (lo : zL) (v u : Value) (st : List Value) (h : zH) (ty : List Nat) (w z r : zA), zG ty w v → zG ty z u → f w z = some r → ∃ v', zG ty r v' ∧ op sx d a b c k lo (u :: v :: st) h = zn (k + 1) lo (v' :: st) h) : zSd op (zq_bi f) := by
  intro tt sx dq d ms a b c k ty ρ q q' lo st h hd T E Mm L S hq
  unfold zq_bi at hq
  split at hq
  case h_2 => cases hq
  next iy ix stk hs =>
  rw [hs] at S
  match st, S with
  | vy :: vx :: st, S =>
  obtain ⟨s1, s2, s3⟩ := S
  split at hq
  case h_2 => cases hq
  next r hr =>
  cases hq
  obtain ⟨v', g, ho⟩ := hop sx d a b c k lo vx vy st h ty _ _ r (E.at s2) (E.at s1) hr
  obtain ⟨r1, r2, r3, r4, r5⟩ := zPu0 (q := q) (stk := stk) E Mm L s3 g
  exact ⟨_, _, _, _, ho, r1, T, r2, r3, r4, r5, zFm.rf⟩
noncomputable def zLfull : zA := (1, -9223372036854775808, 9223372036854775807)
theorem zLfull_ok {ty : List Nat} (x : Int64) : zG ty zLfull (.long x) := ⟨x, rfl, (zb64 x).1, (zb64 x).2⟩
noncomputable def zf_ladd (x y : zA) : Option zA := if x.1 = 1 ∧ y.1 = 1 then some zLfull else none
noncomputable def zf_lmul (x y : zA) : Option zA := if x.1 = 1 ∧ y.1 = 1 then some (zlw (zmin4 (x.2.1 * y.2.1) (x.2.1 * y.2.2) (x.2.2 * y.2.1) (x.2.2 * y.2.2)) (zmax4 (x.2.1 * y.2.1) (x.2.1 * y.2.2) (x.2.2 * y.2.1) (x.2.2 * y.2.2))) else none
noncomputable def zf_ldiv (x y : zA) : Option zA := if x.1 = 1 ∧ y.1 = 1 ∧ (0 < y.2.1 ∨ y.2.2 < 0) then some zLfull else none
noncomputable def zf_lcmp (x y : zA) : Option zA := if x.1 = 1 ∧ y.1 = 1 then some (0, -1, 1) else none
theorem zSd_ladd : zSd zo_ladd (zq_bi zf_ladd) := zSd_bi (fun sx d a b c k lo v u st h ty w z r g1 g2 hr => by
  unfold zf_ladd at hr
  split at hr
  case isFalse => cases hr
  next h0 =>
  cases hr
  obtain ⟨x, rfl, x1, x2⟩ := zG1 g1 h0.1
  obtain ⟨y, rfl, y1, y2⟩ := zG1 g2 h0.2
  exact ⟨_, zLfull_ok _, rfl⟩)
theorem zSd_lmul : zSd zo_lmul (zq_bi zf_lmul) := zSd_bi (fun sx d a b c k lo v u st h ty w z r g1 g2 hr => by
  unfold zf_lmul at hr
  split at hr
  case isFalse => cases hr
  next h0 =>
  cases hr
  obtain ⟨x, rfl, x1, x2⟩ := zG1 g1 h0.1
  obtain ⟨y, rfl, y1, y2⟩ := zG1 g2 h0.2
  refine ⟨_, ?_, rfl⟩
  obtain ⟨k1, k2⟩ := zmul_bd x1 x2 y1 y2
  unfold zlw
  split
  · next hc =>
    have e1 : zLn = -9223372036854775808 := rfl
    have e2 : zLx = 9223372036854775807 := rfl
    have e : (x * y).toInt = x.toInt * y.toInt := by rw [Int64.toInt_mul]; exact z_bm64 (by omega) (by omega)
    exact ⟨_, rfl, by rw [e]; exact k1, by rw [e]; exact k2⟩
  · exact zLfull_ok _)
theorem zSd_ldiv : zSd zo_ldiv (zq_bi zf_ldiv) := zSd_bi (fun sx d a b c k lo v u st h ty w z r g1 g2 hr => by
  unfold zf_ldiv at hr
  split at hr
  case isFalse => cases hr
  next h0 =>
  cases hr
  obtain ⟨x, rfl, x1, x2⟩ := zG1 g1 h0.1
  obtain ⟨y, rfl, y1, y2⟩ := zG1 g2 h0.2.1
  refine ⟨.long (x / y), zLfull_ok _, ?_⟩
  have hne : ¬ y = 0 := fun e => by
    rw [e] at y1 y2
    rw [show (0 : Int64).toInt = 0 from rfl] at y1 y2
    omega
  unfold zo_ldiv
  exact if_neg hne)
theorem zSd_lcmp : zSd zo_lcmp (zq_bi zf_lcmp) := zSd_bi (fun sx d a b c k lo v u st h ty w z r g1 g2 hr => by
  unfold zf_lcmp at hr
  split at hr
  case isFalse => cases hr
  next h0 =>
  cases hr
  obtain ⟨x, rfl, x1, x2⟩ := zG1 g1 h0.1
  obtain ⟨y, rfl, y1, y2⟩ := zG1 g2 h0.2
  refine ⟨_, ?_, rfl⟩
  unfold lg_cmp
  split
  · exact ⟨1, rfl, by decide, by decide⟩
  · split
    · exact ⟨0, rfl, by decide, by decide⟩
    · exact ⟨-1, rfl, by decide, by decide⟩)
noncomputable def zq_lconst : zQop := fun _ _ _ _ _ c q => if zLn ≤ c ∧ c ≤ zLx then some (zPu q q.2.2.2 ((1, c, c), 0, 0)) else none
theorem zSd_lconst : zSd zo_lconst zq_lconst := by
  intro tt sx dq d ms a b c k ty ρ q q' lo st h hd T E Mm L S hq
  unfold zq_lconst at hq
  split at hq
  case isFalse => cases hq
  next hc =>
  cases hq
  have e1 : zLn = -9223372036854775808 := rfl
  have e2 : zLx = 9223372036854775807 := rfl
  have e := z_of64 (n := c) (by omega) (by omega)
  obtain ⟨r1, r2, r3, r4, r5⟩ := zPu0 (v := .long (Int64.ofInt c)) E Mm L S (a := (1, c, c)) ⟨_, rfl, by rw [e]; exact Int.le_refl _, by rw [e]; exact Int.le_refl _⟩
  exact ⟨_, _, _, _, rfl, r1, T, r2, r3, r4, r5, zFm.rf⟩
noncomputable def zq_null : zQop := fun _ _ _ _ _ _ q => some (zPu q q.2.2.2 ((4, 0, 0), 0, 0))
theorem zSd_null : zSd zo_null zq_null := by
  intro tt sx dq d ms a b c k ty ρ q q' lo st h hd T E Mm L S hq
  cases hq
  obtain ⟨r1, r2, r3, r4, r5⟩ := zPu0 (v := .null) E Mm L S (a := (4, 0, 0)) rfl
  exact ⟨_, _, _, _, rfl, r1, T, r2, r3, r4, r5, zFm.rf⟩
noncomputable def zq_ldcs : zQop := fun _ _ _ a _ _ q => if a < z_strs.length then some (zPu q q.2.2.2 ((5, (a : Int), (a : Int)), 0, 0)) else none
theorem zSd_ldcs : zSd zo_ldcs zq_ldcs := by
  intro tt sx dq d ms a b c k ty ρ q q' lo st h hd T E Mm L S hq
  unfold zq_ldcs at hq
  split at hq
  case isFalse => cases hq
  next hc =>
  cases hq
  obtain ⟨r1, r2, r3, r4, r5⟩ := zPu0 (v := .ref (zB + a)) E Mm L S (a := (5, (a : Int), (a : Int))) rfl
  exact ⟨_, _, _, _, by unfold zo_ldcs; exact if_pos hc, r1, T, r2, r3, r4, r5, zFm.rf⟩
/-! the stack -/
noncomputable def zq_dup : zQop := fun _ _ _ _ _ _ q => match q.2.2.2 with
  | x :: stk => if (zav q.1 x).1 ≠ 1 then some (q.1, q.2.1, q.2.2.1, x :: x :: stk) else none
  | _ => none
theorem zSd_dup : zSd zo_dup zq_dup := by
  intro tt sx dq d ms a b c k ty ρ q q' lo st h hd T E Mm L S hq
  unfold zq_dup at hq
  split at hq
  case h_2 => cases hq
  next ix stk hs =>
  rw [hs] at S
  match st, S with
  | vx :: st, S =>
  split at hq
  case isFalse => cases hq
  next hc =>
  cases hq
  have hcat := zGcat (E.at S.1)
  rw [if_neg hc] at hcat
  exact ⟨ρ, lo, vx :: vx :: st, h, by unfold zo_dup; exact if_pos hcat, zRx.rf, T, E, Mm, L, ⟨S.1, S.1, S.2⟩, zFm.rf⟩
noncomputable def zq_dup2 : zQop := fun _ _ _ _ _ _ q => match q.2.2.2 with
  | x :: y :: stk => if (zav q.1 x).1 ≠ 1 ∧ (zav q.1 y).1 ≠ 1 then some (q.1, q.2.1, q.2.2.1, x :: y :: x :: y :: stk) else none
  | _ => none
theorem zSd_dup2 : zSd zo_dup2 zq_dup2 := by
  intro tt sx dq d ms a b c k ty ρ q q' lo st h hd T E Mm L S hq
  unfold zq_dup2 at hq
  split at hq
  case h_2 => cases hq
  next ix iy stk hs =>
  rw [hs] at S
  match st, S with
  | vx :: vy :: st, S =>
  split at hq
  case isFalse => cases hq
  next hc =>
  cases hq
  have h1 := zGcat (E.at S.1)
  rw [if_neg hc.1] at h1
  have h2 := zGcat (E.at S.2.1)
  rw [if_neg hc.2] at h2
  exact ⟨ρ, lo, vx :: vy :: vx :: vy :: st, h, by unfold zo_dup2; exact if_pos ⟨h1, h2⟩, zRx.rf, T, E, Mm, L, ⟨S.1, S.2.1, S.1, S.2⟩, zFm.rf⟩
noncomputable def zq_pop : zQop := fun _ _ _ _ _ _ q => match q.2.2.2 with
  | x :: stk => if (zav q.1 x).1 ≠ 1 then some (q.1, q.2.1, q.2.2.1, stk) else none
  | _ => none
theorem zSd_pop : zSd zo_pop zq_pop := by
  intro tt sx dq d ms a b c k ty ρ q q' lo st h hd T E Mm L S hq
  unfold zq_pop at hq
  split at hq
  case h_2 => cases hq
  next ix stk hs =>
  rw [hs] at S
  match st, S with
  | vx :: st, S =>
  split at hq
  case isFalse => cases hq
  next hc =>
  cases hq
  have hcat := zGcat (E.at S.1)
  rw [if_neg hc] at hcat
  exact ⟨ρ, lo, st, h, by unfold zo_pop; exact if_pos hcat, zRx.rf, T, E, Mm, L, S.2, zFm.rf⟩
end
section
/-! the checker's loads and stores -/
noncomputable def zjoin (a b : zA) : Option zA := if zLe a b = true then some b else if zLe b a = true then some a else if a.1 = b.1 ∧ a.1 ≤ 3 then some (a.1, min a.2.1 b.2.1, max a.2.2 b.2.2) else none
theorem zLe_rg {t : Nat} {a b c d : Int} (h3 : t ≤ 3) (h1 : c ≤ a) (h2 : b ≤ d) : zLe (t, a, b) (t, c, d) = true := by
  have hr : zRi (t, a, b) (t, c, d) = true := by unfold zRi; rw [decide_eq_true h1, decide_eq_true h2]; rfl
  have ht : t = 0 ∨ t = 1 ∨ t = 2 ∨ t = 3 := by omega
  rcases ht with rfl | rfl | rfl | rfl <;> exact hr
theorem zjoin_ok {a b c : zA} (h : zjoin a b = some c) {ty : List Nat} {v : Value} (g : zG ty a v ∨ zG ty b v) : zG ty c v := by
  unfold zjoin at h
  split at h
  · next h1 => cases h; exact g.elim (zLe_ok h1) id
  · split at h
    · next h1 => cases h; exact g.elim id (zLe_ok h1)
    · split at h
      · next h1 =>
        cases h
        obtain ⟨ta, la, ha⟩ := a
        obtain ⟨tb, lb, hb⟩ := b
        dsimp only at h1 g ⊢
        obtain ⟨rfl, h3⟩ := h1
        rcases g with g | g
        · exact zLe_ok (zLe_rg h3 (Int.min_le_left _ _) (Int.le_max_left _ _)) g
        · exact zLe_ok (zLe_rg h3 (Int.min_le_right _ _) (Int.le_max_right _ _)) g
      · cases h
noncomputable def zrg : List (Int × Int × zA) → Int → Int → Option zA
  | [], _, _ => none
  | r :: rs, lo, hi => if r.2.1 < lo then zrg rs lo hi else if r.1 ≤ lo then (if hi ≤ r.2.1 then some r.2.2 else (match zrg rs (r.2.1 + 1) hi with
    | some a => zjoin r.2.2 a
    | none => none)) else none
theorem zrg_ok : ∀ (rs : List (Int × Int × zA)) (lo hi : Int) (a : zA), zrg rs lo hi = some a → ∀ i : Int, lo ≤ i → i ≤ hi → ∃ r ∈ rs, r.1 ≤ i ∧ i ≤ r.2.1 ∧ ∀ (ty : List Nat) (v : Value), zG ty r.2.2 v → zG ty a v
  | [], _, _, _, h, _, _, _ => by cases h
  | r :: rs, lo, hi, a, h, i, h1, h2 => by
    rw [zrg] at h
    split at h
    · obtain ⟨r9, m, q⟩ := zrg_ok rs lo hi a h i h1 h2
      exact ⟨r9, List.mem_cons_of_mem _ m, q⟩
    · split at h
      · next hn hl =>
        split at h
        · next hh =>
          cases h
          exact ⟨r, List.mem_cons_self, by omega, by omega, fun _ _ g => g⟩
        · split at h
          · next a9 ha9 =>
            by_cases hi9 : i ≤ r.2.1
            · exact ⟨r, List.mem_cons_self, by omega, hi9, fun _ _ g => zjoin_ok h (Or.inl g)⟩
            · obtain ⟨r9, m, q1, q2, q3⟩ := zrg_ok rs (r.2.1 + 1) hi a9 ha9 i (by omega) h2
              exact ⟨r9, List.mem_cons_of_mem _ m, q1, q2, fun ty v g => zjoin_ok h (Or.inr (q3 ty v g))⟩
          · cases h
      · cases h
noncomputable def zone (tt : Nat → zTy) (kd cl : Nat) (ilo ihi : Int) (t : Nat) : Option zA := if (tt t).1 = kd ∧ (kd ≠ 0 ∨ (tt t).2.1 = cl) ∧ 0 ≤ ilo ∧ ihi < ((tt t).2.2.1 : Int) then zrg (tt t).2.2.2 ilo ihi else none
noncomputable def zall (tt : Nat → zTy) (kd cl : Nat) (ilo ihi : Int) : List Nat → Option zA
  | [] => none
  | t :: ts => match zone tt kd cl ilo ihi t with
    | none => none
    | some a => if ts.isEmpty = true then some a else (match zall tt kd cl ilo ihi ts with
      | some b => zjoin a b
      | none => none)
theorem zall_ok {tt : Nat → zTy} {kd cl : Nat} {ilo ihi : Int} : ∀ {ts : List Nat} {a : zA}, zall tt kd cl ilo ihi ts = some a → ∀ t ∈ ts, ∃ b, zone tt kd cl ilo ihi t = some b ∧ ∀ (ty : List Nat) (v : Value), zG ty b v → zG ty a v
  | [], _, h, _, _ => by cases h
  | t0 :: ts, a, h, t, ht => by
    rw [zall] at h
    split at h
    · cases h
    · next a0 ha0 =>
      split at h
      · next he =>
        cases h
        have : ts = [] := List.isEmpty_iff.mp he
        subst this
        rw [List.mem_singleton.mp ht]
        exact ⟨_, ha0, fun _ _ g => g⟩
      · split at h
        · next b hb =>
          rcases List.mem_cons.mp ht with rfl | ht
          · exact ⟨a0, ha0, fun _ _ g => zjoin_ok h (Or.inl g)⟩
          · obtain ⟨c, h1, h2⟩ := zall_ok hb t ht
            exact ⟨c, h1, fun ty v g => zjoin_ok h (Or.inr (h2 ty v g))⟩
        · cases h
noncomputable def ztl (lo hi : Int) : List Nat := (List.range ((hi - lo).toNat + 1)).map (fun j => lo.toNat + j)
theorem ztl_mem {lo hi : Int} {t : Nat} (h0 : 0 ≤ lo) (h1 : lo ≤ (t : Int)) (h2 : (t : Int) ≤ hi) : t ∈ ztl lo hi := by
  unfold ztl
  exact List.mem_map.mpr ⟨t - lo.toNat, List.mem_range.mpr (by omega), by omega⟩
noncomputable def zml (me : List zMe) (r b : Nat) (off : Int) : Option Nat := (me.find? (fun m => m.1 == r && (m.2.1 == b && m.2.2.1 == off))).map (fun m => m.2.2.2)
theorem zml_ok {me : List zMe} {r b v : Nat} {off : Int} (h : zml me r b off = some v) : (r, b, off, v) ∈ me := by
  unfold zml at h
  cases hf : me.find? (fun m => m.1 == r && (m.2.1 == b && m.2.2.1 == off)) with
  | none => rw [hf] at h; cases h
  | some m =>
    rw [hf] at h
    cases h
    have h1 := List.find?_some hf
    simp only [Bool.and_eq_true, beq_iff_eq] at h1
    obtain ⟨rfl, rfl, rfl⟩ := h1
    exact List.mem_of_find?_eq_some hf
theorem zIx.fn {ρ : List Value} {b : Nat} {off : Int} {i j : Nat} (h1 : zIx ρ b off i) (h2 : zIx ρ b off j) : i = j := by
  cases b with
  | zero =>
    have e1 : off = (i : Int) := h1
    have e2 : off = (j : Int) := h2
    omega
  | succ b =>
    obtain ⟨y, a1, a2⟩ := h1
    obtain ⟨z, b1, b2⟩ := h2
    rw [a1] at b1
    cases b1
    omega
/-! shapes -/
theorem zsh0 {T : zTy} {e : zE} (h : z_sh T e) (hk : T.1 = 0) : ∃ fs, e = .inr (T.2.1, fs) ∧ fs.length = T.2.2.1 := by
  unfold z_sh at h
  rw [hk] at h
  obtain ⟨t, n, f | f | f | f | f⟩ | ⟨c, fs⟩ := e
  all_goals first | exact ⟨_, by rw [h.1], h.2⟩ | exact h.elim
theorem zsh1 {T : zTy} {e : zE} (h : z_sh T e) (hk : T.1 = 1) : ∃ f, e = .inl (0, (T.2.2.1, .inl f)) := by
  unfold z_sh at h
  rw [hk] at h
  split at h
  all_goals first | exact ⟨_, by rw [h]⟩ | (exfalso; omega) | exact h.elim
theorem zsh2 {T : zTy} {e : zE} (h : z_sh T e) (hk : T.1 = 2) : ∃ f, e = .inl (1, (T.2.2.1, .inl f)) := by
  unfold z_sh at h
  rw [hk] at h
  split at h
  all_goals first | exact ⟨_, by rw [h]⟩ | (exfalso; omega) | exact h.elim
theorem zsh3 {T : zTy} {e : zE} (h : z_sh T e) (hk : T.1 = 3) : ∃ f, e = .inl (2, (T.2.2.1, .inr (.inl f))) := by
  unfold z_sh at h
  rw [hk] at h
  split at h
  all_goals first | exact ⟨_, by rw [h]⟩ | (exfalso; omega) | exact h.elim
theorem zsh4 {T : zTy} {e : zE} (h : z_sh T e) (hk : T.1 = 4) : ∃ f, e = .inl (3, (T.2.2.1, .inr (.inr (.inr (.inr f))))) := by
  unfold z_sh at h
  rw [hk] at h
  split at h
  all_goals first | exact ⟨_, by rw [h]⟩ | (exfalso; omega) | exact h.elim
theorem zsh_rd {T : zTy} {e : zE} {i : Nat} (h : z_sh T e) (hi : i < T.2.2.1) (hk : T.1 ≤ 4) : ∃ v, z_rd e i = some v := by
  have ht : T.1 = 0 ∨ T.1 = 1 ∨ T.1 = 2 ∨ T.1 = 3 ∨ T.1 = 4 := by omega
  rcases ht with k | k | k | k | k
  · obtain ⟨fs, rfl, hl⟩ := zsh0 h k
    exact ⟨fs[i]'(by omega), List.getElem?_eq_getElem (by omega)⟩
  · obtain ⟨f, rfl⟩ := zsh1 h k
    exact ⟨_, by rw [z_rd0, if_pos hi]⟩
  · obtain ⟨f, rfl⟩ := zsh2 h k
    exact ⟨_, by rw [z_rd1, if_pos hi]⟩
  · obtain ⟨f, rfl⟩ := zsh3 h k
    exact ⟨_, by rw [z_rd2, if_pos hi]⟩
  · obtain ⟨f, rfl⟩ := zsh4 h k
    exact ⟨_, by rw [z_rd3, if_pos hi]⟩
/-! loads -/
noncomputable def zload (tt : Nat → zTy) (kd cl : Nat) (q : zQ) (r b : Nat) (off ilo ihi : Int) (stk : List Nat) : Option zQ :=
  if (zav q.1 r).1 = 2 ∧ 0 ≤ (zav q.1 r).2.1 then (match zall tt kd cl ilo ihi (ztl (zav q.1 r).2.1 (zav q.1 r).2.2) with
    | some a => (match zml q.2.1 r b off with
      | some v => some (q.1, q.2.1, q.2.2.1, v :: stk)
      | none => some (q.1 ++ [(a, 0, 0)], (r, b, off, q.1.length) :: q.2.1, q.2.2.1, q.1.length :: stk))
    | none => none) else none
theorem zload_ok {tt : Nat → zTy} {kd cl : Nat} {q q' : zQ} {r b : Nat} {off ilo ihi : Int} {stk : List Nat} {ty : List Nat} {ρ : List Value} {lo : zL} {st : List Value} {h : zH} {vr : Value} {i : Nat} (hkd : kd ≤ 4) (T : zTY tt ty h) (E : zEv ty ρ q.1) (Mm : zMm h ρ q.2.1) (L : zLo ρ q.2.2.1 lo) (S : zSk ρ stk st) (hr : ρ[r]? = some vr) (hx : zIx ρ b off i) (h1 : ilo ≤ (i : Int)) (h2 : (i : Int) ≤ ihi) (hq : zload tt kd cl q r b off ilo ihi stk = some q') :
    ∃ (a t : Nat) (e : zE) (v : Value) (ρ' : List Value), vr = .ref a ∧ ty[a]? = some t ∧ h[a]? = some e ∧ z_sh (tt t) e ∧ (tt t).1 = kd ∧ (kd ≠ 0 ∨ (tt t).2.1 = cl) ∧ i < (tt t).2.2.1 ∧ z_rd e i = some v ∧ zRx ρ ρ' ∧ zEv ty ρ' q'.1 ∧ zMm h ρ' q'.2.1 ∧ zLo ρ' q'.2.2.1 lo ∧ zSk ρ' q'.2.2.2 (v :: st) := by
  unfold zload at hq
  split at hq
  case isFalse => cases hq
  next hc =>
  split at hq
  case h_2 => cases hq
  next a9 ha9 =>
  obtain ⟨a, t, rfl, ht, t1, t2⟩ := zG2 (E.at hr) hc.1
  obtain ⟨a8, hz, hle⟩ := zall_ok ha9 t (ztl_mem hc.2 t1 t2)
  unfold zone at hz
  split at hz
  case isFalse => cases hz
  next hz2 =>
  have hl : a < h.length := by rw [← T.1]; exact (List.getElem?_eq_some_iff.mp ht).1
  have he : h[a]? = some h[a] := List.getElem?_eq_getElem hl
  obtain ⟨sh, vals⟩ := T.2.2 a t h[a] ht he
  have hin : i < (tt t).2.2.1 := by have := hz2.2.2.2; omega
  obtain ⟨v, hv⟩ := zsh_rd (i := i) sh hin (by rw [hz2.1]; exact hkd)
  obtain ⟨rg, m1, m2, m3, m4⟩ := zrg_ok _ _ _ _ hz (i : Int) h1 h2
  have gv : zG ty a9 v := hle ty v (m4 ty v (vals i v hv rg m1 m2 m3))
  split at hq
  · next w hw =>
    cases hq
    obtain ⟨a7, e7, i7, v7, k1, k2, k3, k4, k5⟩ := Mm _ (zml_ok hw)
    dsimp only at k1 k3 k5
    rw [hr] at k1
    cases k1
    have := hx.fn k3
    subst this
    rw [he] at k2
    cases k2
    rw [hv] at k4
    cases k4
    exact ⟨a, t, h[a], v, ρ, rfl, ht, he, sh, hz2.1, hz2.2.1, hin, hv, zRx.rf, E, Mm, L, k5, S⟩
  · cases hq
    refine ⟨a, t, h[a], v, ρ ++ [v], rfl, ht, he, sh, hz2.1, hz2.2.1, hin, hv, zRx.app, E.push0 gv, ?_, L.mono zRx.app, E.new v, S.mono zRx.app⟩
    intro m hm
    rcases List.mem_cons.mp hm with rfl | hm
    · exact ⟨a, h[a], i, v, zRx.app _ _ hr, he, hx.mono zRx.app, hv, E.new v⟩
    · exact Mm.mono zRx.app m hm
noncomputable def zq_get : zQop := fun tt _ _ a b _ q => match q.2.2.2 with
  | r :: stk => zload tt 0 a q r 0 (b : Int) (b : Int) (b : Int) stk
  | _ => none
theorem zSd_get : zSd zo_get zq_get := by
  intro tt sx dq d ms a b c k ty ρ q q' lo st h hd T E Mm L S hq
  unfold zq_get at hq
  split at hq
  case h_2 => cases hq
  next r stk hs =>
  rw [hs] at S
  match st, S with
  | vr :: st, S =>
  obtain ⟨ad, t, e, v, ρ', rfl, ht, he, sh, k0, kc, hin, hv, r1, r2, r3, r4, r5⟩ := zload_ok (by decide) T E Mm L S.2 S.1 (b := 0) (i := b) rfl (Int.le_refl _) (Int.le_refl _) hq
  obtain ⟨fs, rfl, hl⟩ := zsh0 sh k0
  have hcl : (tt t).2.1 = a := kc.resolve_left (fun h => h rfl)
  refine ⟨ρ', lo, v :: st, h, ?_, r1, T, r2, r3, r4, r5, zFm.rf⟩
  unfold zo_get
  dsimp only
  rw [he]
  dsimp only
  rw [if_pos hcl, show fs[b]? = some v from hv]
/-- an index: where it comes from -/
noncomputable def zcn (env : List zEn) (i : Nat) : Nat × Int := match env[i]? with
  | some e => if e.1.2.1 = e.1.2.2 then (0, e.1.2.1) else if e.2.1 ≠ 0 then (e.2.1, e.2.2) else (i + 1, 0)
  | none => (i + 1, 0)
theorem zcn_ok {ty : List Nat} {ρ : List Value} {env : List zEn} {i n : Nat} {x : Int32} (E : zEv ty ρ env) (hx : ρ[i]? = some (.int x)) (h0 : (zav env i).1 = 0) (hn : (n : Int) = x.toInt) : zIx ρ (zcn env i).1 (zcn env i).2 n := by
  obtain ⟨e, he, hz⟩ := E.ex hx
  obtain ⟨g1, g2⟩ := E.2 i e _ he hx
  unfold zcn
  rw [he]
  dsimp only
  by_cases h1 : e.1.2.1 = e.1.2.2
  · rw [if_pos h1]
    rw [hz] at h0
    obtain ⟨x9, hx9, l1, l2⟩ := zG0 g1 h0
    cases hx9
    show e.1.2.1 = (n : Int)
    omega
  · rw [if_neg h1]
    by_cases h2 : e.2.1 ≠ 0
    · rw [if_pos h2]
      obtain ⟨b, hb⟩ : ∃ b, e.2.1 = b + 1 := ⟨e.2.1 - 1, by omega⟩
      obtain ⟨x9, y, q1, q2, q3⟩ := g2 b hb
      cases q1
      dsimp only
      rw [hb]
      exact ⟨y, q2, by omega⟩
    · rw [if_neg h2]
      exact ⟨x, hx, by omega⟩
noncomputable def zq_ald (kd : Nat) : zQop := fun tt _ _ _ _ _ q => match q.2.2.2 with
  | j :: r :: stk => if (zav q.1 j).1 = 0 ∧ 0 ≤ (zav q.1 j).2.1 then zload tt kd 0 q r (zcn q.1 j).1 (zcn q.1 j).2 (zav q.1 j).2.1 (zav q.1 j).2.2 stk else none
  | _ => none
theorem zSd_ald {op : zNop} {kd : Nat} (hk : kd ≤ 4) (hk0 : kd ≠ 0) (hop : ∀ (sx : zX) (d a b : Nat) (c : Int) (k : Nat) (lo : zL) (st : List Value) (h : zH) (ad : Nat) (T : zTy) (e : zE) (j : Int32) (v : Value), h[ad]? = some e → z_sh T e → T.1 = kd → z_in j T.2.2.1 = true → j.toNatClampNeg < T.2.2.1 → z_rd e j.toNatClampNeg = some v → op sx d a b c k lo (.int j :: .ref ad :: st) h = zn (k + 1) lo (v :: st) h) : zSd op (zq_ald kd) := by
  intro tt sx dq d ms a b c k ty ρ q q' lo st h hd T E Mm L S hq
  unfold zq_ald at hq
  split at hq
  case h_2 => cases hq
  next ij r stk hs =>
  rw [hs] at S
  match st, S with
  | vj :: vr :: st, S =>
  split at hq
  case isFalse => cases hq
  next hc =>
  obtain ⟨j, rfl, j1, j2⟩ := zG0 (E.at S.1) hc.1
  have hn : (j.toNatClampNeg : Int) = j.toInt := by
    have : j.toNatClampNeg = j.toInt.toNat := rfl
    omega
  obtain ⟨ad, t, e, v, ρ', rfl, ht, he, sh, k0, kc, hin, hv, r1, r2, r3, r4, r5⟩ := zload_ok hk T E Mm L S.2.2 S.2.1 (zcn_ok E S.1 hc.1 hn) (by omega) (by omega) hq
  exact ⟨ρ', lo, v :: st, h, hop sx d a b c k lo st h ad (tt t) e j v he sh k0 (z_inn (by omega) (by omega)).1 hin hv, r1, T, r2, r3, r4, r5, zFm.rf⟩
theorem zSd_iald : zSd zo_iald (zq_ald 1) := zSd_ald (by decide) (by decide) (fun sx d a b c k lo st h ad T e j v he sh k0 hin hl hv => by
  obtain ⟨f, rfl⟩ := zsh1 sh k0
  rw [z_rd0, if_pos hl] at hv
  cases hv
  unfold zo_iald
  dsimp only
  rw [he]
  exact if_pos hin)
theorem zSd_bald : zSd zo_bald (zq_ald 2) := zSd_ald (by decide) (by decide) (fun sx d a b c k lo st h ad T e j v he sh k0 hin hl hv => by
  obtain ⟨f, rfl⟩ := zsh2 sh k0
  rw [z_rd1, if_pos hl] at hv
  cases hv
  unfold zo_bald
  dsimp only
  rw [he]
  exact if_pos hin)
theorem zSd_aald : zSd zo_aald (zq_ald 4) := zSd_ald (by decide) (by decide) (fun sx d a b c k lo st h ad T e j v he sh k0 hin hl hv => by
  obtain ⟨f, rfl⟩ := zsh4 sh k0
  rw [z_rd3, if_pos hl] at hv
  cases hv
  unfold zo_aald
  dsimp only
  rw [he]
  exact if_pos hin)
/-! stores -/
noncomputable def zkp (env : List zEn) (tlo thi ilo ihi : Int) (m : zMe) : Bool :=
  (decide ((zav env m.1).1 = 2) && (decide ((zav env m.1).2.2 < tlo) || decide (thi < (zav env m.1).2.1))) ||
  (if m.2.1 = 0 then decide (m.2.2.1 < ilo) || decide (ihi < m.2.2.1) else decide ((zav env (m.2.1 - 1)).1 = 0) && (decide ((zav env (m.2.1 - 1)).2.2 + m.2.2.1 < ilo) || decide (ihi < (zav env (m.2.1 - 1)).2.1 + m.2.2.1)))
/-- an entry that is kept: another cell, or another place -/
theorem zkp_ok {ty : List Nat} {ρ : List Value} {env : List zEn} {tlo thi ilo ihi : Int} {m : zMe} (E : zEv ty ρ env) (hk : zkp env tlo thi ilo ihi m = true) {a i : Nat} (hr : ρ[m.1]? = some (.ref a)) (hx : zIx ρ m.2.1 m.2.2.1 i) : (∀ t, ty[a]? = some t → ¬ (tlo ≤ (t : Int) ∧ (t : Int) ≤ thi)) ∨ ¬ (ilo ≤ (i : Int) ∧ (i : Int) ≤ ihi) := by
  unfold zkp at hk
  rw [Bool.or_eq_true, Bool.and_eq_true, Bool.or_eq_true] at hk
  simp only [decide_eq_true_eq] at hk
  rcases hk with ⟨h1, h2⟩ | h1
  · refine Or.inl (fun t ht hn => ?_)
    obtain ⟨a9, t9, e9, g0, g1, g2⟩ := zG2 (E.at hr) h1
    cases e9
    rw [ht] at g0
    cases g0
    omega
  · refine Or.inr (fun hn => ?_)
    by_cases hb : m.2.1 = 0
    · rw [if_pos hb, Bool.or_eq_true, decide_eq_true_eq, decide_eq_true_eq] at h1
      rw [hb] at hx
      have e : m.2.2.1 = (i : Int) := hx
      omega
    · rw [if_neg hb, Bool.and_eq_true, Bool.or_eq_true, decide_eq_true_eq, decide_eq_true_eq, decide_eq_true_eq] at h1
      obtain ⟨b, hb9⟩ : ∃ b, m.2.1 = b + 1 := ⟨m.2.1 - 1, by omega⟩
      rw [hb9] at hx h1
      obtain ⟨y, y1, y2⟩ := hx
      rw [Nat.add_sub_cancel] at h1
      obtain ⟨y9, e9, g1, g2⟩ := zG0 (E.at y1) h1.1
      cases e9
      omega
theorem zMm.wr {ty : List Nat} {ρ : List Value} {env : List zEn} {me : List zMe} {h : zH} {a t i r b v : Nat} {off tlo thi ilo ihi : Int} {e e' : zE} {w : Value} (E : zEv ty ρ env) (Mm : zMm h ρ me) (ht : ty[a]? = some t) (t1 : tlo ≤ (t : Int)) (t2 : (t : Int) ≤ thi) (i1 : ilo ≤ (i : Int)) (i2 : (i : Int) ≤ ihi) (he : h[a]? = some e) (hr : ∀ j, z_rd e' j = if j = i then some w else z_rd e j) (hR : ρ[r]? = some (.ref a)) (hx : zIx ρ b off i) (hv : ρ[v]? = some w) : zMm (h.set a e') ρ ((r, b, off, v) :: me.filter (zkp env tlo thi ilo ihi)) := by
  have hl := (List.getElem?_eq_some_iff.mp he).1
  intro m hm
  rcases List.mem_cons.mp hm with rfl | hm
  · exact ⟨a, e', i, w, hR, List.getElem?_set_self hl, hx, by rw [hr i, if_pos rfl], hv⟩
  · obtain ⟨hm1, hm2⟩ := List.mem_filter.mp hm
    obtain ⟨a9, e9, i9, v9, k1, k2, k3, k4, k5⟩ := Mm m hm1
    by_cases ha : a9 = a
    · subst ha
      rw [he] at k2
      cases k2
      have hne : i9 ≠ i := fun q => by
        subst q
        rcases zkp_ok E hm2 k1 k3 with z | z
        · exact z t ht ⟨t1, t2⟩
        · exact z ⟨i1, i2⟩
      exact ⟨a9, e', i9, v9, k1, List.getElem?_set_self hl, k3, by rw [hr i9, if_neg hne]; exact k4, k5⟩
    · exact ⟨a9, e9, i9, v9, k1, by rw [List.getElem?_set_ne (fun q => ha q.symm)]; exact k2, k3, k4, k5⟩
noncomputable def zst (rs : List (Int × Int × zA)) (ilo ihi : Int) (a : zA) : Bool := rs.all (fun r => decide (r.2.1 < ilo) || (decide (ihi < r.1) || zLe a r.2.2))
theorem zst_ok {rs : List (Int × Int × zA)} {ilo ihi : Int} {a : zA} (h : zst rs ilo ihi a = true) {ty : List Nat} {v : Value} (g : zG ty a v) {i : Nat} (h1 : ilo ≤ (i : Int)) (h2 : (i : Int) ≤ ihi) : ∀ r ∈ rs, r.1 ≤ (i : Int) → (i : Int) ≤ r.2.1 → zG ty r.2.2 v := by
  intro r hr g1 g2
  have := List.all_eq_true.mp h r hr
  rw [Bool.or_eq_true, Bool.or_eq_true, decide_eq_true_eq, decide_eq_true_eq] at this
  rcases this with h9 | h9 | h9
  · omega
  · omega
  · exact zLe_ok h9 g
noncomputable def zcv (ms : List zMod) (t : Nat) (lo hi : Int) : Bool := ms.any (fun m => decide (m.1 = t) && (decide (m.2.1 ≤ lo) && decide (hi ≤ m.2.2)))
theorem zcv_ok {ms : List zMod} {t : Nat} {lo hi : Int} (h : zcv ms t lo hi = true) {i : Nat} (h1 : lo ≤ (i : Int)) (h2 : (i : Int) ≤ hi) : zIn ms t i := by
  obtain ⟨m, hm, h9⟩ := List.any_eq_true.mp h
  rw [Bool.and_eq_true, Bool.and_eq_true, decide_eq_true_eq, decide_eq_true_eq, decide_eq_true_eq] at h9
  exact ⟨m, hm, h9.1, by omega, by omega⟩
noncomputable def zfit (c : Int) (V : zA) : Bool := (decide (c = 0) && decide (V.1 = 0)) || ((decide (c = 1) && (decide (V.1 = 0) && (decide (0 ≤ V.2.1) && decide (V.2.2 ≤ 1)))) || (decide (c = 2) && (decide (V.1 = 2) || (decide (V.1 = 3) || decide (V.1 = 4)))))
theorem zfit_ok {c : Int} {V : zA} {ty : List Nat} {v : Value} (h : zfit c V = true) (g : zG ty V v) : z_fit c v = true := by
  unfold zfit at h
  simp only [Bool.or_eq_true, Bool.and_eq_true, decide_eq_true_eq] at h
  rcases h with ⟨rfl, h⟩ | ⟨rfl, h, h1, h2⟩ | ⟨rfl, h⟩
  · obtain ⟨x, rfl, -⟩ := zG0 g h; rfl
  · obtain ⟨x, rfl, g1, g2⟩ := zG0 g h
    have hx : x.toInt = 0 ∨ x.toInt = 1 := by omega
    have : x = 0 ∨ x = 1 := hx.imp (fun e => Int32.toInt_inj.mp (by rw [e]; rfl)) (fun e => Int32.toInt_inj.mp (by rw [e]; rfl))
    rcases this with rfl | rfl <;> rfl
  · rcases h with h | h | h
    · obtain ⟨i, t, rfl, -⟩ := zG2 g h; rfl
    · rcases zG3 g h with rfl | ⟨i, t, rfl, -⟩ <;> rfl
    · have := zG4 g h; subst this; rfl
noncomputable def zq_put : zQop := fun tt _ ms a b c q => match q.2.2.2 with
  | v :: r :: stk => if (zav q.1 r).1 = 2 ∧ (zav q.1 r).2.1 = (zav q.1 r).2.2 ∧ 0 ≤ (zav q.1 r).2.1 ∧ (tt (zav q.1 r).2.1.toNat).1 = 0 ∧ (tt (zav q.1 r).2.1.toNat).2.1 = a ∧ b < (tt (zav q.1 r).2.1.toNat).2.2.1 ∧ zfit c (zav q.1 v) = true ∧ zst (tt (zav q.1 r).2.1.toNat).2.2.2 (b : Int) (b : Int) (zav q.1 v) = true ∧ zcv ms (zav q.1 r).2.1.toNat (b : Int) (b : Int) = true
      then some (q.1, (r, 0, (b : Int), v) :: q.2.1.filter (zkp q.1 (zav q.1 r).2.1 (zav q.1 r).2.1 (b : Int) (b : Int)), q.2.2.1, stk) else none
  | _ => none
theorem zSd_put : zSd zo_put zq_put := by
  intro tt sx dq d ms a b c k ty ρ q q' lo st h hd T E Mm L S hq
  unfold zq_put at hq
  split at hq
  case h_2 => cases hq
  next iv r stk hs =>
  rw [hs] at S
  match st, S with
  | vv :: vr :: st, S =>
  split at hq
  case isFalse => cases hq
  next hc =>
  cases hq
  obtain ⟨c1, c2, c3, c4, c5, c6, c7, c8, c9⟩ := hc
  obtain ⟨ad, t, rfl, ht, t1, t2⟩ := zG2 (E.at S.2.1) c1
  have et : (zav q.1 r).2.1.toNat = t := by omega
  rw [et] at c4 c5 c6 c8 c9
  have hl : ad < h.length := by rw [← T.1]; exact (List.getElem?_eq_some_iff.mp ht).1
  have he : h[ad]? = some h[ad] := List.getElem?_eq_getElem hl
  obtain ⟨fs, hfs, hlen⟩ := zsh0 (T.2.2 ad t _ ht he).1 c4
  rw [hfs] at he
  have hrd := fun j => z_rd_obj (c := (tt t).2.1) (fs := fs) (i := b) (v := vv) (by omega) j
  have hgv := E.at S.1
  refine ⟨ρ, lo, st, h.set ad (.inr ((tt t).2.1, fs.set b vv)), ?_, zRx.rf, T.wr ht he ?_ hrd (zst_ok c8 hgv (Int.le_refl _) (Int.le_refl _)), E, zMm.wr E Mm ht t1 (by omega) (Int.le_refl _) (Int.le_refl _) he hrd S.2.1 (b := 0) rfl S.1, L, S.2.2, zFm.wr ht he hrd (zcv_ok c9 (Int.le_refl _) (Int.le_refl _))⟩
  · unfold zo_put
    dsimp only
    rw [he]
    dsimp only
    rw [if_pos ⟨c5, by omega, zfit_ok c7 hgv⟩]
  · unfold z_sh
    rw [c4]
    exact ⟨rfl, by rw [List.length_set]; exact hlen⟩
noncomputable def zq_ast (kd : Nat) (P : zA → Bool) (g : zA → zA) : zQop := fun tt _ ms _ _ _ q => match q.2.2.2 with
  | v :: j :: r :: stk => if (zav q.1 r).1 = 2 ∧ (zav q.1 r).2.1 = (zav q.1 r).2.2 ∧ 0 ≤ (zav q.1 r).2.1 ∧ (tt (zav q.1 r).2.1.toNat).1 = kd ∧ (zav q.1 j).1 = 0 ∧ 0 ≤ (zav q.1 j).2.1 ∧ (zav q.1 j).2.2 < ((tt (zav q.1 r).2.1.toNat).2.2.1 : Int) ∧ P (zav q.1 v) = true ∧ zst (tt (zav q.1 r).2.1.toNat).2.2.2 (zav q.1 j).2.1 (zav q.1 j).2.2 (g (zav q.1 v)) = true ∧ zcv ms (zav q.1 r).2.1.toNat (zav q.1 j).2.1 (zav q.1 j).2.2 = true
      then some (q.1 ++ [(g (zav q.1 v), 0, 0)], (r, (zcn q.1 j).1, (zcn q.1 j).2, q.1.length) :: q.2.1.filter (zkp q.1 (zav q.1 r).2.1 (zav q.1 r).2.1 (zav q.1 j).2.1 (zav q.1 j).2.2), q.2.2.1, stk) else none
  | _ => none
theorem zSd_ast {op : zNop} {kd : Nat} {P : zA → Bool} {g : zA → zA} (hop : ∀ (sx : zX) (d a b : Nat) (c : Int) (k : Nat) (lo : zL) (st : List Value) (h : zH) (ty : List Nat) (ad : Nat) (T : zTy) (e : zE) (j : Int32) (V : zA) (v : Value), h[ad]? = some e → z_sh T e → T.1 = kd → z_in j T.2.2.1 = true → j.toNatClampNeg < T.2.2.1 → zG ty V v → P V = true → ∃ e' v', z_sh T e' ∧ zG ty (g V) v' ∧ (∀ i, z_rd e' i = if i = j.toNatClampNeg then some v' else z_rd e i) ∧ op sx d a b c k lo (v :: .int j :: .ref ad :: st) h = zn (k + 1) lo st (h.set ad e')) : zSd op (zq_ast kd P g) := by
  intro tt sx dq d ms a b c k ty ρ q q' lo st h hd T E Mm L S hq
  unfold zq_ast at hq
  split at hq
  case h_2 => cases hq
  next iv ij r stk hs =>
  rw [hs] at S
  match st, S with
  | vv :: vj :: vr :: st, S =>
  obtain ⟨s1, s2, s3, s4⟩ := S
  split at hq
  case isFalse => cases hq
  next hc =>
  cases hq
  obtain ⟨c1, c2, c3, c4, c5, c6, c7, c8, c9, c10⟩ := hc
  obtain ⟨ad, t, rfl, ht, t1, t2⟩ := zG2 (E.at s3) c1
  obtain ⟨j, rfl, j1, j2⟩ := zG0 (E.at s2) c5
  have et : (zav q.1 r).2.1.toNat = t := by omega
  rw [et] at c4 c7 c9 c10
  have hl : ad < h.length := by rw [← T.1]; exact (List.getElem?_eq_some_iff.mp ht).1
  have he : h[ad]? = some h[ad] := List.getElem?_eq_getElem hl
  have hn : (j.toNatClampNeg : Int) = j.toInt := by
    have : j.toNatClampNeg = j.toInt.toNat := rfl
    omega
  obtain ⟨zi, zl, -⟩ := z_inn (i := j) (n := (tt t).2.2.1) (by omega) (by omega)
  obtain ⟨e', v', sh', gv', hrd, ho⟩ := hop sx d a b c k lo st h ty ad (tt t) h[ad] j _ vv he (T.2.2 ad t _ ht he).1 c4 zi zl (E.at s1) c8
  have E' := E.push0 gv'
  have hw : zMm (h.set ad e') (ρ ++ [v']) ((r, (zcn q.1 ij).1, (zcn q.1 ij).2, q.1.length) :: q.2.1.filter (zkp q.1 (zav q.1 r).2.1 (zav q.1 r).2.1 (zav q.1 ij).2.1 (zav q.1 ij).2.2)) := by
    intro m hm
    rcases List.mem_cons.mp hm with rfl | hm
    · exact ⟨ad, e', j.toNatClampNeg, v', zRx.app _ _ s3, List.getElem?_set_self hl, (zcn_ok E s2 c5 hn).mono zRx.app, by rw [hrd _, if_pos rfl], E.new v'⟩
    · obtain ⟨hm1, hm2⟩ := List.mem_filter.mp hm
      obtain ⟨a9, e9, i9, v9, k1, k2, k3, k4, k5⟩ := Mm m hm1
      by_cases ha : a9 = ad
      · subst ha
        rw [he] at k2
        cases k2
        have hne : i9 ≠ j.toNatClampNeg := fun z => by
          rcases zkp_ok E hm2 k1 k3 with z9 | z9
          · exact z9 t ht ⟨t1, by omega⟩
          · exact z9 ⟨by omega, by omega⟩
        exact ⟨a9, e', i9, v9, zRx.app _ _ k1, List.getElem?_set_self hl, k3.mono zRx.app, by rw [hrd i9, if_neg hne]; exact k4, zRx.app _ _ k5⟩
      · exact ⟨a9, e9, i9, v9, zRx.app _ _ k1, by rw [List.getElem?_set_ne (fun z => ha z.symm)]; exact k2, k3.mono zRx.app, k4, zRx.app _ _ k5⟩
  exact ⟨ρ ++ [v'], lo, st, h.set ad e', ho, zRx.app, T.wr ht he sh' hrd (zst_ok c9 gv' (by omega) (by omega)), E', hw, L.mono zRx.app, s4.mono zRx.app, zFm.wr ht he hrd (zcv_ok c10 (by omega) (by omega))⟩
theorem zSd_iast : zSd zo_iast (zq_ast 1 zisI id) := zSd_ast (fun sx d a b c k lo st h ty ad T e j V v he sh k0 hin hl g hP => by
  obtain ⟨x, rfl, x1, x2⟩ := zG0 g (of_decide_eq_true hP)
  obtain ⟨f, rfl⟩ := zsh1 sh k0
  refine ⟨_, .int x, ?_, g, fun i => z_rd_int hl i, ?_⟩
  · unfold z_sh
    rw [k0]
    exact rfl
  · unfold zo_iast
    dsimp only
    rw [he]
    exact if_pos hin)
theorem zSd_bast : zSd zo_bast (zq_ast 2 zisI (fun _ => zFull)) := zSd_ast (fun sx d a b c k lo st h ty ad T e j V v he sh k0 hin hl g hP => by
  obtain ⟨x, rfl, x1, x2⟩ := zG0 g (of_decide_eq_true hP)
  obtain ⟨f, rfl⟩ := zsh2 sh k0
  refine ⟨_, .int (vp_nar .byte x), ?_, zFull_ok _, fun i => z_rd_byte hl i, ?_⟩
  · unfold z_sh
    rw [k0]
    exact rfl
  · unfold zo_bast
    dsimp only
    rw [he]
    exact if_pos hin)
theorem zSd_last : zSd zo_last (zq_ast 3 zisJ id) := zSd_ast (fun sx d a b c k lo st h ty ad T e j V v he sh k0 hin hl g hP => by
  obtain ⟨x, rfl, x1, x2⟩ := zG1 g (of_decide_eq_true hP)
  obtain ⟨f, rfl⟩ := zsh3 sh k0
  refine ⟨_, .long x, ?_, g, fun i => z_rd_long hl i, ?_⟩
  · unfold z_sh
    rw [k0]
    exact rfl
  · unfold zo_last
    dsimp only
    rw [he]
    exact if_pos hin)
end
section
/-! lengths, texts, min and max, whole copies -/
noncomputable def zq_alen : zQop := fun tt _ _ _ _ _ q => match q.2.2.2 with
  | r :: stk => if (zav q.1 r).1 = 2 ∧ (zav q.1 r).2.1 = (zav q.1 r).2.2 ∧ 0 ≤ (zav q.1 r).2.1 ∧ 1 ≤ (tt (zav q.1 r).2.1.toNat).1 ∧ (tt (zav q.1 r).2.1.toNat).1 ≤ 4 ∧ ((tt (zav q.1 r).2.1.toNat).2.2.1 : Int) ≤ zMx
      then some (zPu q stk ((0, ((tt (zav q.1 r).2.1.toNat).2.2.1 : Int), ((tt (zav q.1 r).2.1.toNat).2.2.1 : Int)), 0, 0)) else none
  | _ => none
theorem zof_nat {n : Nat} (h : (n : Int) ≤ zMx) : (Int32.ofNat n).toInt = (n : Int) := Int32.toInt_ofNat_of_lt (by have e2 : zMx = 2147483647 := rfl; omega)
theorem zSd_alen : zSd zo_alen zq_alen := by
  intro tt sx dq d ms a b c k ty ρ q q' lo st h hd T E Mm L S hq
  unfold zq_alen at hq
  split at hq
  case h_2 => cases hq
  next r stk hs =>
  rw [hs] at S
  match st, S with
  | vr :: st, S =>
  split at hq
  case isFalse => cases hq
  next hc =>
  cases hq
  obtain ⟨c1, c2, c3, c4, c5, c6⟩ := hc
  obtain ⟨ad, t, rfl, ht, t1, t2⟩ := zG2 (E.at S.1) c1
  have et : (zav q.1 r).2.1.toNat = t := by omega
  rw [et] at c4 c5 c6 ⊢
  have hl : ad < h.length := by rw [← T.1]; exact (List.getElem?_eq_some_iff.mp ht).1
  have he : h[ad]? = some h[ad] := List.getElem?_eq_getElem hl
  have sh := (T.2.2 ad t _ ht he).1
  have hn := zof_nat c6
  obtain ⟨r1, r2, r3, r4, r5⟩ := zPu0 (v := .int (Int32.ofNat (tt t).2.2.1)) (q := q) (stk := stk) E Mm L S.2 (a := (0, ((tt t).2.2.1 : Int), ((tt t).2.2.1 : Int))) ⟨_, rfl, by rw [hn]; exact Int.le_refl _, by rw [hn]; exact Int.le_refl _⟩
  refine ⟨_, lo, _, h, ?_, r1, T, r2, r3, r4, r5, zFm.rf⟩
  have hk : (tt t).1 = 1 ∨ (tt t).1 = 2 ∨ (tt t).1 = 3 ∨ (tt t).1 = 4 := by omega
  unfold zo_alen
  dsimp only
  rw [he]
  rcases hk with k0 | k0 | k0 | k0
  · obtain ⟨f, e9⟩ := zsh1 sh k0; rw [e9]; rfl
  · obtain ⟨f, e9⟩ := zsh2 sh k0; rw [e9]; rfl
  · obtain ⟨f, e9⟩ := zsh3 sh k0; rw [e9]; rfl
  · obtain ⟨f, e9⟩ := zsh4 sh k0; rw [e9]; rfl
theorem zadd_sub (b k : Nat) : b ≤ b + k ∧ b + k - b = k := ⟨Nat.le_add_right _ _, Nat.add_sub_cancel_left _ _⟩
theorem zG5i {ty : List Nat} {a : zA} {v : Value} (g : zG ty a v) (h : a.1 = 5) : ∃ i : Nat, v = .ref i ∧ zB ≤ i ∧ i - zB = a.2.1.toNat := ⟨_, zG5 g h, (zadd_sub zB _).1, (zadd_sub zB _).2⟩
theorem zo_slength_at {sx : zX} {d a b : Nat} {c : Int} {k : Nat} {lo : zL} {st st0 : List Value} {h : zH} {i : Nat} {w : String × Nat × String × List Int32} (hc : zB ≤ i ∧ 6 ≤ d ∧ z_cat st ≤ 8) (hw : z_strs[i - zB]? = some w) (e : st0 = .ref i :: st) : zo_slength sx d a b c k lo st0 h = zn (k + 1) lo (.int (Int32.ofNat w.2.2.2.length) :: st) h := by
  unfold zo_slength
  split
  · next i9 st9 =>
    cases e
    rw [if_pos hc]
    split
    · next q hq => rw [hw] at hq; cases hq; rfl
    · next hq => rw [hw] at hq; cases hq
  · next hne => exact absurd e (hne i st)
theorem zo_scharAt_at {sx : zX} {d a b : Nat} {c : Int} {k : Nat} {lo : zL} {st st0 : List Value} {h : zH} {i : Nat} {j : Int32} {w : String × Nat × String × List Int32} (hc : zB ≤ i ∧ 6 ≤ d ∧ z_cat st ≤ 8) (hw : z_strs[i - zB]? = some w) (hj : z_in j w.2.2.2.length = true) (e : st0 = .int j :: .ref i :: st) : zo_scharAt sx d a b c k lo st0 h = zn (k + 1) lo (.int ((w.2.2.2.getD j.toNatClampNeg 0) &&& 255) :: st) h := by
  unfold zo_scharAt
  split
  · next j9 i9 st9 =>
    cases e
    rw [if_pos hc]
    split
    · next q hq => rw [hw] at hq; cases hq; exact if_pos hj
    · next hq => rw [hw] at hq; cases hq
  · next hne => exact absurd e (hne j i st)
noncomputable def zq_slength : zQop := fun _ dq _ _ _ _ q => match q.2.2.2 with
  | r :: stk => if (zav q.1 r).1 = 5 ∧ 6 ≤ dq ∧ zct q.1 stk ≤ 8 then (match z_strs[(zav q.1 r).2.1.toNat]? with
      | some w => if (w.2.2.2.length : Int) ≤ zMx then some (zPu q stk ((0, (w.2.2.2.length : Int), (w.2.2.2.length : Int)), 0, 0)) else none
      | none => none) else none
  | _ => none
theorem zSd_slength : zSd zo_slength zq_slength := by
  intro tt sx dq d ms a b c k ty ρ q q' lo st h hd T E Mm L S hq
  unfold zq_slength at hq
  split at hq
  case h_2 => cases hq
  next r stk hs =>
  rw [hs] at S
  match st, S with
  | vr :: st, S =>
  split at hq
  case isFalse => cases hq
  next hc =>
  split at hq
  case h_2 => cases hq
  next w hw =>
  split at hq
  case isFalse => cases hq
  next hl =>
  cases hq
  obtain ⟨i, rfl, b1, b2⟩ := zG5i (E.at S.1) hc.1
  have hn := zof_nat hl
  obtain ⟨r1, r2, r3, r4, r5⟩ := zPu0 (v := .int (Int32.ofNat w.2.2.2.length)) (q := q) (stk := stk) E Mm L S.2 (a := (0, (w.2.2.2.length : Int), (w.2.2.2.length : Int))) ⟨_, rfl, by rw [hn]; exact Int.le_refl _, by rw [hn]; exact Int.le_refl _⟩
  refine ⟨_, lo, _, h, ?_, r1, T, r2, r3, r4, r5, zFm.rf⟩
  rw [← b2] at hw
  exact zo_slength_at ⟨b1, Nat.le_trans hc.2.1 hd, by rw [zct_ok E S.2]; exact hc.2.2⟩ hw rfl
noncomputable def zq_scharAt : zQop := fun _ dq _ _ _ _ q => match q.2.2.2 with
  | j :: r :: stk => if (zav q.1 r).1 = 5 ∧ 6 ≤ dq ∧ zct q.1 stk ≤ 8 ∧ (zav q.1 j).1 = 0 ∧ 0 ≤ (zav q.1 j).2.1 then (match z_strs[(zav q.1 r).2.1.toNat]? with
      | some w => if (zav q.1 j).2.2 < (w.2.2.2.length : Int) then some (zPu q stk (zFull, 0, 0)) else none
      | none => none) else none
  | _ => none
theorem zSd_scharAt : zSd zo_scharAt zq_scharAt := by
  intro tt sx dq d ms a b c k ty ρ q q' lo st h hd T E Mm L S hq
  unfold zq_scharAt at hq
  split at hq
  case h_2 => cases hq
  next ij r stk hs =>
  rw [hs] at S
  match st, S with
  | vj :: vr :: st, S =>
  split at hq
  case isFalse => cases hq
  next hc =>
  split at hq
  case h_2 => cases hq
  next w hw =>
  split at hq
  case isFalse => cases hq
  next hl =>
  cases hq
  obtain ⟨i, rfl, b1, b2⟩ := zG5i (E.at S.2.1) hc.1
  obtain ⟨j, rfl, j1, j2⟩ := zG0 (E.at S.1) hc.2.2.2.1
  have zi := (z_inn (i := j) (n := w.2.2.2.length) (by omega) (by omega)).1
  obtain ⟨r1, r2, r3, r4, r5⟩ := zPu0 (v := .int ((w.2.2.2.getD j.toNatClampNeg 0) &&& 255)) (q := q) (stk := stk) E Mm L S.2.2 (a := zFull) (zFull_ok _)
  refine ⟨_, lo, _, h, ?_, r1, T, r2, r3, r4, r5, zFm.rf⟩
  rw [← b2] at hw
  exact zo_scharAt_at ⟨b1, Nat.le_trans hc.2.1 hd, by rw [zct_ok E S.2.2]; exact hc.2.2.1⟩ hw zi rfl
noncomputable def zq_mm (f : Int → Int → Int) : zQop := fun _ dq _ _ _ _ q => match q.2.2.2 with
  | y :: x :: stk => if (zav q.1 x).1 = 0 ∧ (zav q.1 y).1 = 0 ∧ 6 ≤ dq ∧ zct q.1 stk ≤ 8 then some (zPu q stk ((0, f (zav q.1 x).2.1 (zav q.1 y).2.1, f (zav q.1 x).2.2 (zav q.1 y).2.2), 0, 0)) else none
  | _ => none
theorem zSd_mm {op : zNop} {f : Int → Int → Int} {g : Int32 → Int32 → Int32} (hg : ∀ (x y : Int32) (a b c d : Int), a ≤ x.toInt → x.toInt ≤ b → c ≤ y.toInt → y.toInt ≤ d → f a c ≤ (g x y).toInt ∧ (g x y).toInt ≤ f b d) (hop : ∀ (sx : zX) (d a b : Nat) (c : Int) (k : Nat) (lo : zL) (x y : Int32) (st : List Value) (h : zH), 6 ≤ d → z_cat st ≤ 8 → op sx d a b c k lo (.int y :: .int x :: st) h = zn (k + 1) lo (.int (g x y) :: st) h) : zSd op (zq_mm f) := by
  intro tt sx dq d ms a b c k ty ρ q q' lo st h hd T E Mm L S hq
  unfold zq_mm at hq
  split at hq
  case h_2 => cases hq
  next iy ix stk hs =>
  rw [hs] at S
  match st, S with
  | vy :: vx :: st, S =>
  split at hq
  case isFalse => cases hq
  next hc =>
  cases hq
  obtain ⟨x, rfl, x1, x2⟩ := zG0 (E.at S.2.1) hc.1
  obtain ⟨y, rfl, y1, y2⟩ := zG0 (E.at S.1) hc.2.1
  obtain ⟨g1, g2⟩ := hg x y _ _ _ _ x1 x2 y1 y2
  obtain ⟨r1, r2, r3, r4, r5⟩ := zPu0 (v := .int (g x y)) (q := q) (stk := stk) E Mm L S.2.2 (a := (0, f (zav q.1 ix).2.1 (zav q.1 iy).2.1, f (zav q.1 ix).2.2 (zav q.1 iy).2.2)) ⟨_, rfl, g1, g2⟩
  exact ⟨_, lo, _, h, hop sx d a b c k lo x y st h (by omega) (by rw [zct_ok E S.2.2]; exact hc.2.2.2), r1, T, r2, r3, r4, r5, zFm.rf⟩
theorem zSd_min : zSd zo_min (zq_mm min) := zSd_mm (g := fun x y => if y < x then y else x) (fun x y a b c d h1 h2 h3 h4 => by
  by_cases h : y < x
  · rw [if_pos h]
    rw [Int32.lt_iff_toInt_lt] at h
    omega
  · rw [if_neg h]
    rw [Int32.lt_iff_toInt_lt] at h
    omega) (fun sx d a b c k lo x y st h hd hc => by unfold zo_min; exact if_pos ⟨hd, hc⟩)
theorem zSd_max : zSd zo_max (zq_mm max) := zSd_mm (g := fun x y => if x < y then y else x) (fun x y a b c d h1 h2 h3 h4 => by
  by_cases h : x < y
  · rw [if_pos h]
    rw [Int32.lt_iff_toInt_lt] at h
    omega
  · rw [if_neg h]
    rw [Int32.lt_iff_toInt_lt] at h
    omega) (fun sx d a b c k lo x y st h hd hc => by unfold zo_max; exact if_pos ⟨hd, hc⟩)
/-- a row copied into a row: both of one region -/
noncomputable def zq_acopy : zQop := fun tt dq ms _ _ _ q => match q.2.2.2 with
  | n :: dp :: r1 :: sp :: r0 :: stk =>
    if (zav q.1 r1).1 = 2 ∧ (zav q.1 r1).2.1 = (zav q.1 r1).2.2 ∧ 0 ≤ (zav q.1 r1).2.1 ∧ (zav q.1 r0).1 = 2 ∧ (zav q.1 r0).2.1 = (zav q.1 r0).2.2 ∧ 0 ≤ (zav q.1 r0).2.1 ∧ (zav q.1 n).1 = 0 ∧ (zav q.1 dp).1 = 0 ∧ (zav q.1 sp).1 = 0 ∧ 0 ≤ (zav q.1 n).2.1 ∧ 0 ≤ (zav q.1 dp).2.1 ∧ 0 ≤ (zav q.1 sp).2.1 ∧ (tt (zav q.1 r0).2.1.toNat).1 = 1 ∧ (tt (zav q.1 r1).2.1.toNat).1 = 1 ∧
      (zav q.1 sp).2.2 + (zav q.1 n).2.2 ≤ ((tt (zav q.1 r0).2.1.toNat).2.2.1 : Int) ∧ (zav q.1 dp).2.2 + (zav q.1 n).2.2 ≤ ((tt (zav q.1 r1).2.1.toNat).2.2.1 : Int) ∧ 6 ≤ dq ∧ zct q.1 stk ≤ 8 ∧ zcv ms (zav q.1 r1).2.1.toNat 0 (((tt (zav q.1 r1).2.1.toNat).2.2.1 : Int) - 1) = true
    then (match (tt (zav q.1 r0).2.1.toNat).2.2.2 with
      | [ra] => if ra.1 ≤ 0 ∧ ((tt (zav q.1 r0).2.1.toNat).2.2.1 : Int) ≤ ra.2.1 + 1 ∧ (tt (zav q.1 r1).2.1.toNat).2.2.2.all (fun rb => zLe ra.2.2 rb.2.2) = true then some (q.1, q.2.1.filter (zkp q.1 (zav q.1 r1).2.1 (zav q.1 r1).2.1 0 ((tt (zav q.1 r1).2.1.toNat).2.2.1 : Int)), q.2.2.1, stk) else none
      | _ => none) else none
  | _ => none
theorem zclamp {x : Int32} (h : 0 ≤ x.toInt) : (x.toNatClampNeg : Int) = x.toInt ∧ ¬ x < 0 := by
  have e : x.toNatClampNeg = x.toInt.toNat := rfl
  refine ⟨by omega, ?_⟩
  rw [Int32.lt_iff_toInt_lt]
  show ¬ x.toInt < (0 : Int32).toInt
  rw [show (0 : Int32).toInt = 0 from rfl]
  omega
theorem zSd_acopy : zSd zo_acopy zq_acopy := by
  intro tt sx dq d ms a b c k ty ρ q q' lo st h hd T E Mm L S hq
  unfold zq_acopy at hq
  split at hq
  case h_2 => cases hq
  next xn xdp x1 xsp x0 stk hs =>
  rw [hs] at S
  match st, S with
  | vn :: vdp :: v1 :: vsp :: v0 :: st, S =>
  obtain ⟨s1, s2, s3, s4, s5, s6⟩ := S
  split at hq
  case isFalse => cases hq
  next hc =>
  obtain ⟨c1, c2, c3, c4, c5, c6, c7, c8, c9, c10, c11, c12, c13, c14, c15, c16, c17, c18, c19⟩ := hc
  split at hq
  case h_2 => cases hq
  next ra hra =>
  split at hq
  case isFalse => cases hq
  next hcc =>
  cases hq
  obtain ⟨a1, t1, rfl, ht1, t11, t12⟩ := zG2 (E.at s3) c1
  obtain ⟨a0, t0, rfl, ht0, t01, t02⟩ := zG2 (E.at s5) c4
  obtain ⟨n, rfl, n1, n2⟩ := zG0 (E.at s1) c7
  obtain ⟨dp, rfl, dp1, dp2⟩ := zG0 (E.at s2) c8
  obtain ⟨sp, rfl, sp1, sp2⟩ := zG0 (E.at s4) c9
  have e1 : (zav q.1 x1).2.1.toNat = t1 := by omega
  have e0 : (zav q.1 x0).2.1.toNat = t0 := by omega
  rw [e0] at c13 c15 hra hcc
  rw [e1] at c14 c16 c19 hcc
  have hl1 : a1 < h.length := by rw [← T.1]; exact (List.getElem?_eq_some_iff.mp ht1).1
  have hl0 : a0 < h.length := by rw [← T.1]; exact (List.getElem?_eq_some_iff.mp ht0).1
  have he1 : h[a1]? = some h[a1] := List.getElem?_eq_getElem hl1
  have he0 : h[a0]? = some h[a0] := List.getElem?_eq_getElem hl0
  obtain ⟨g, hg⟩ := zsh1 (T.2.2 a1 t1 _ ht1 he1).1 c14
  obtain ⟨f, hf⟩ := zsh1 (T.2.2 a0 t0 _ ht0 he0).1 c13
  have hval := (T.2.2 a0 t0 _ ht0 he0).2
  have hval1 := (T.2.2 a1 t1 _ ht1 he1).2
  rw [hg] at he1 hval1
  rw [hf] at he0 hval
  obtain ⟨kn, kn2⟩ := zclamp (x := n) (by omega)
  obtain ⟨kd, kd2⟩ := zclamp (x := dp) (by omega)
  obtain ⟨ks, ks2⟩ := zclamp (x := sp) (by omega)
  refine ⟨ρ, lo, st, h.set a1 (.inl (0, ((tt t1).2.2.1, .inl (va_cpy f g sp.toNatClampNeg dp.toNatClampNeg n.toNatClampNeg)))), ?_, zRx.rf, ?_, E, ?_, L, s6, ?_⟩
  · unfold zo_acopy
    dsimp only
    rw [he0, he1]
    exact if_pos ⟨by omega, by rw [zct_ok E s6]; exact c18, ks2, kd2, kn2, by omega, by omega⟩
  · refine ⟨by rw [List.length_set]; exact T.1, by rw [List.length_set]; exact T.2.1, fun b s e hs1 he => ?_⟩
    by_cases hb : b = a1
    · subst hb
      rw [List.getElem?_set_self hl1] at he
      cases he
      rw [ht1] at hs1
      cases hs1
      refine ⟨by unfold z_sh; rw [c14]; exact rfl, fun i v hv r hr g1 g2 => ?_⟩
      rw [z_rd0] at hv
      split at hv
      case isFalse => cases hv
      next hi =>
      cases hv
      unfold va_cpy
      by_cases hcp : dp.toNatClampNeg ≤ i ∧ i < dp.toNatClampNeg + n.toNatClampNeg
      · rw [if_pos hcp]
        have hz := hval (sp.toNatClampNeg + (i - dp.toNatClampNeg)) (.int (f (sp.toNatClampNeg + (i - dp.toNatClampNeg)))) (by rw [z_rd0, if_pos (by omega)]) ra (by rw [hra]; exact List.mem_singleton.mpr rfl) (by omega) (by omega)
        exact zLe_ok (List.all_eq_true.mp hcc.2.2 r hr) hz
      · rw [if_neg hcp]
        exact hval1 i (.int (g i)) (by rw [z_rd0, if_pos hi]) r hr g1 g2
    · rw [List.getElem?_set_ne (fun z => hb z.symm)] at he
      exact T.2.2 b s e hs1 he
  · intro m hm
    obtain ⟨hm1, hm2⟩ := List.mem_filter.mp hm
    obtain ⟨a9, e9, i9, v9, k1, k2, k3, k4, k5⟩ := Mm m hm1
    rcases zkp_ok E hm2 k1 k3 with z9 | z9
    · have ha : a9 ≠ a1 := fun z => by subst z; exact z9 t1 ht1 ⟨t11, by omega⟩
      exact ⟨a9, e9, i9, v9, k1, by rw [List.getElem?_set_ne (fun z => ha z.symm)]; exact k2, k3, k4, k5⟩
    · by_cases ha : a9 = a1
      · subst ha
        rw [he1] at k2
        cases k2
        rw [z_rd0] at k4
        split at k4
        · exact absurd ⟨by omega, by rw [e1]; omega⟩ z9
        · cases k4
      · exact ⟨a9, e9, i9, v9, k1, by rw [List.getElem?_set_ne (fun z => ha z.symm)]; exact k2, k3, k4, k5⟩
  · refine ⟨by rw [List.length_set]; exact Nat.le_refl _, fun b s e e' hs1 he he' i hi => ?_⟩
    by_cases hb : b = a1
    · subst hb
      rw [List.getElem?_set_self hl1] at he'
      cases he'
      rw [he1] at he
      cases he
      rw [ht1] at hs1
      cases hs1
      rw [z_rd0, z_rd0]
      by_cases hin : i < (tt t1).2.2.1
      · exact absurd (zcv_ok c19 (by omega) (by omega)) hi
      · rw [if_neg hin, if_neg hin]
    · rw [List.getElem?_set_ne (fun z => hb z.symm), he] at he'
      cases he'
      rfl
/-! all of them by their numbers -/
noncomputable def zqs : List zQop := [zq_const, zq_load zisI, zq_load zisR, zq_load zisJ, zq_sto1 zisI, zq_sto1 zisR, zq_lstore, zq_iinc, zq_bin 8, zq_bin 9, zq_bin 10, zq_bin 11, zq_bin 12, zq_bin 13, zq_bin 14, zq_bin 15, zq_bin 16, zq_bin 17, zq_bin 18, zq_un zf_i2l, zq_un zf_l2i, zq_un zf_i2b, zq_bi zf_ladd, zq_bi zf_lmul, zq_bi zf_ldiv, zq_lconst, zq_bi zf_lcmp, zq_dup, zq_dup2, zq_pop, zq_no, zq_no, zq_no, zq_no, zq_no, zq_no, zq_no, zq_get, zq_put, zq_ald 1, zq_ast 1 zisI id, zq_ald 2, zq_ast 2 zisI (fun _ => zFull), zq_ast 3 zisJ id, zq_ald 4, zq_no, zq_alen, zq_no, zq_no, zq_no, zq_no, zq_no, zq_no, zq_no, zq_no, zq_no, zq_no, zq_no, zq_ldcs, zq_slength, zq_scharAt, zq_acopy, zq_no, zq_null, zq_no, zq_no, zq_no, zq_mm min, zq_mm max]
theorem zSd_all : ∀ o, zSd (z_ops.getD o z_no) (zqs.getD o zq_no)
  | 0 => zSd_const | 1 => zSd_iload | 2 => zSd_aload | 3 => zSd_lload | 4 => zSd_istore | 5 => zSd_astore | 6 => zSd_lstore | 7 => zSd_iinc
  | 8 => zSd_iadd | 9 => zSd_isub | 10 => zSd_imul | 11 => zSd_idiv | 12 => zSd_irem | 13 => zSd_ishl | 14 => zSd_ishr | 15 => zSd_iushr
  | 16 => zSd_iand | 17 => zSd_ior | 18 => zSd_ixor | 19 => zSd_i2l | 20 => zSd_l2i | 21 => zSd_i2b | 22 => zSd_ladd | 23 => zSd_lmul
  | 24 => zSd_ldiv | 25 => zSd_lconst | 26 => zSd_lcmp | 27 => zSd_dup | 28 => zSd_dup2 | 29 => zSd_pop | 30 => zSd_no _ | 31 => zSd_no _
  | 32 => zSd_no _ | 33 => zSd_no _ | 34 => zSd_no _ | 35 => zSd_no _ | 36 => zSd_no _ | 37 => zSd_get | 38 => zSd_put | 39 => zSd_iald
  | 40 => zSd_iast | 41 => zSd_bald | 42 => zSd_bast | 43 => zSd_last | 44 => zSd_aald | 45 => zSd_no _ | 46 => zSd_alen | 47 => zSd_no _
  | 48 => zSd_no _ | 49 => zSd_no _ | 50 => zSd_no _ | 51 => zSd_no _ | 52 => zSd_no _ | 53 => zSd_no _ | 54 => zSd_no _ | 55 => zSd_no _
  | 56 => zSd_no _ | 57 => zSd_no _ | 58 => zSd_ldcs | 59 => zSd_slength | 60 => zSd_scharAt | 61 => zSd_acopy | 62 => zSd_no _ | 63 => zSd_null
  | 64 => zSd_no _ | 65 => zSd_no _ | 66 => zSd_no _ | 67 => zSd_min | 68 => zSd_max
  | n + 69 => zSd_no _
end
section
/-! what a branch tells -/
theorem zGi {ty : List Nat} {a : zA} {x : Int32} (g : zG ty a (.int x)) : a.1 = 0 ∧ a.2.1 ≤ x.toInt ∧ x.toInt ≤ a.2.2 := by
  unfold zG at g
  split at g
  · obtain ⟨y, e, g1, g2⟩ := g; cases e; exact ⟨rfl, g1, g2⟩
  · obtain ⟨y, e, -⟩ := g; cases e
  · obtain ⟨y, t, e, -⟩ := g; cases e
  · rcases g with e | ⟨y, t, e, -⟩ <;> cases e
  · cases g
  · cases g
  · cases g
noncomputable def zref1 (env : List zEn) (i : Nat) (lo hi : Int) : Option (List zEn) := match env[i]? with
  | some e => if max e.1.2.1 lo ≤ min e.1.2.2 hi then some (env.set i ((e.1.1, max e.1.2.1 lo, min e.1.2.2 hi), e.2)) else none
  | none => none
theorem zref1_ok {ty : List Nat} {ρ : List Value} {env : List zEn} {i : Nat} {x : Int32} {lo hi : Int} (E : zEv ty ρ env) (hx : ρ[i]? = some (.int x)) (h1 : lo ≤ x.toInt) (h2 : x.toInt ≤ hi) : ∃ env', zref1 env i lo hi = some env' ∧ zEv ty ρ env' := by
  obtain ⟨e, he, -⟩ := E.ex hx
  obtain ⟨g1, g2⟩ := E.2 i e _ he hx
  obtain ⟨k0, k1, k2⟩ := zGi g1
  have hm : max e.1.2.1 lo ≤ min e.1.2.2 hi := by omega
  refine ⟨env.set i ((e.1.1, max e.1.2.1 lo, min e.1.2.2 hi), e.2), by unfold zref1; rw [he]; exact if_pos hm, by rw [List.length_set]; exact E.1, fun j e9 v9 hj hv => ?_⟩
  by_cases hji : j = i
  · subst hji
    rw [List.getElem?_set_self (List.getElem?_eq_some_iff.mp he).1] at hj
    cases hj
    rw [hx] at hv
    cases hv
    refine ⟨?_, g2⟩
    dsimp only
    rw [k0]
    exact ⟨x, rfl, by omega, by omega⟩
  · rw [List.getElem?_set_ne (fun z => hji z.symm)] at hj
    exact E.2 j e9 v9 hj hv
noncomputable def zref (env : List zEn) (i : Nat) (lo hi : Int) : Option (List zEn) := match env[i]? with
  | some e => (match zref1 env i lo hi with
    | some env1 => if e.2.1 = 0 then some env1 else zref1 env1 (e.2.1 - 1) (max e.1.2.1 lo - e.2.2) (min e.1.2.2 hi - e.2.2)
    | none => none)
  | none => none
theorem zref_ok {ty : List Nat} {ρ : List Value} {env : List zEn} {i : Nat} {x : Int32} {lo hi : Int} (E : zEv ty ρ env) (hx : ρ[i]? = some (.int x)) (h1 : lo ≤ x.toInt) (h2 : x.toInt ≤ hi) : ∃ env', zref env i lo hi = some env' ∧ zEv ty ρ env' := by
  obtain ⟨e, he, -⟩ := E.ex hx
  obtain ⟨g1, g2⟩ := E.2 i e _ he hx
  obtain ⟨k0, k1, k2⟩ := zGi g1
  obtain ⟨env1, e1, E1⟩ := zref1_ok E hx h1 h2
  unfold zref
  rw [he]
  dsimp only
  rw [e1]
  dsimp only
  by_cases hb : e.2.1 = 0
  · rw [if_pos hb]
    exact ⟨env1, rfl, E1⟩
  · rw [if_neg hb]
    obtain ⟨x9, y, q1, q2, q3⟩ := g2 (e.2.1 - 1) (by omega)
    cases q1
    exact zref1_ok E1 q2 (by omega) (by omega)
noncomputable def zlt (env : List zEn) (x y : Nat) : Option (List zEn) := if (zav env x).2.1 < (zav env y).2.2 then (match zref env x (zav env x).2.1 ((zav env y).2.2 - 1) with
  | some e => zref e y ((zav env x).2.1 + 1) (zav env y).2.2
  | none => none) else none
noncomputable def zle (env : List zEn) (x y : Nat) : Option (List zEn) := if (zav env x).2.1 ≤ (zav env y).2.2 then (match zref env x (zav env x).2.1 (zav env y).2.2 with
  | some e => zref e y (zav env x).2.1 (zav env y).2.2
  | none => none) else none
noncomputable def zeq (env : List zEn) (x y : Nat) : Option (List zEn) := match zref env x (max (zav env x).2.1 (zav env y).2.1) (min (zav env x).2.2 (zav env y).2.2) with
  | some e => zref e y (max (zav env x).2.1 (zav env y).2.1) (min (zav env x).2.2 (zav env y).2.2)
  | none => none
noncomputable def zne (env : List zEn) (x y : Nat) : Option (List zEn) :=
  if x = y then none else if (zav env y).2.1 = (zav env y).2.2 then (if (zav env x).2.1 = (zav env y).2.1 then zref env x ((zav env x).2.1 + 1) (zav env x).2.2 else if (zav env x).2.2 = (zav env y).2.1 then zref env x (zav env x).2.1 ((zav env x).2.2 - 1) else some env)
  else if (zav env x).2.1 = (zav env x).2.2 then (if (zav env y).2.1 = (zav env x).2.1 then zref env y ((zav env y).2.1 + 1) (zav env y).2.2 else if (zav env y).2.2 = (zav env x).2.1 then zref env y (zav env y).2.1 ((zav env y).2.2 - 1) else some env) else some env
noncomputable def zcmp (env : List zEn) (b x y : Nat) : Option (List zEn) := match b with
  | 0 => zeq env x y
  | 1 => zne env x y
  | 2 => zlt env x y
  | 3 => zle env y x
  | 4 => zlt env y x
  | _ => zle env x y
section ZCMP
variable {ty : List Nat} {ρ : List Value} {env : List zEn} {x y : Nat} {u w : Int32}
theorem zlt_ok (E : zEv ty ρ env) (hx : ρ[x]? = some (.int u)) (hy : ρ[y]? = some (.int w)) (h : u.toInt < w.toInt) : ∃ env', zlt env x y = some env' ∧ zEv ty ρ env' := by
  obtain ⟨-, x1, x2⟩ := zGi (E.at hx)
  obtain ⟨-, y1, y2⟩ := zGi (E.at hy)
  unfold zlt
  rw [if_pos (by omega)]
  obtain ⟨e1, q1, E1⟩ := zref_ok (lo := (zav env x).2.1) (hi := (zav env y).2.2 - 1) E hx (by omega) (by omega)
  rw [q1]
  exact zref_ok E1 hy (by omega) (by omega)
theorem zle_ok (E : zEv ty ρ env) (hx : ρ[x]? = some (.int u)) (hy : ρ[y]? = some (.int w)) (h : u.toInt ≤ w.toInt) : ∃ env', zle env x y = some env' ∧ zEv ty ρ env' := by
  obtain ⟨-, x1, x2⟩ := zGi (E.at hx)
  obtain ⟨-, y1, y2⟩ := zGi (E.at hy)
  unfold zle
  rw [if_pos (by omega)]
  obtain ⟨e1, q1, E1⟩ := zref_ok (lo := (zav env x).2.1) (hi := (zav env y).2.2) E hx (by omega) (by omega)
  rw [q1]
  exact zref_ok E1 hy (by omega) (by omega)
theorem zeq_ok (E : zEv ty ρ env) (hx : ρ[x]? = some (.int u)) (hy : ρ[y]? = some (.int w)) (h : u.toInt = w.toInt) : ∃ env', zeq env x y = some env' ∧ zEv ty ρ env' := by
  obtain ⟨-, x1, x2⟩ := zGi (E.at hx)
  obtain ⟨-, y1, y2⟩ := zGi (E.at hy)
  unfold zeq
  obtain ⟨e1, q1, E1⟩ := zref_ok (lo := max (zav env x).2.1 (zav env y).2.1) (hi := min (zav env x).2.2 (zav env y).2.2) E hx (by omega) (by omega)
  rw [q1]
  exact zref_ok E1 hy (by omega) (by omega)
theorem zne_ok (E : zEv ty ρ env) (hx : ρ[x]? = some (.int u)) (hy : ρ[y]? = some (.int w)) (h : u.toInt ≠ w.toInt) : ∃ env', zne env x y = some env' ∧ zEv ty ρ env' := by
  obtain ⟨-, x1, x2⟩ := zGi (E.at hx)
  obtain ⟨-, y1, y2⟩ := zGi (E.at hy)
  unfold zne
  rw [if_neg (fun e => by subst e; rw [hx] at hy; cases hy; exact h rfl)]
  split
  · split
    · exact zref_ok E hx (by omega) (by omega)
    · split
      · exact zref_ok E hx (by omega) (by omega)
      · exact ⟨env, rfl, E⟩
  · split
    · split
      · exact zref_ok E hy (by omega) (by omega)
      · split
        · exact zref_ok E hy (by omega) (by omega)
        · exact ⟨env, rfl, E⟩
    · exact ⟨env, rfl, E⟩
theorem zcmp_ok {b : Nat} (E : zEv ty ρ env) (hx : ρ[x]? = some (.int u)) (hy : ρ[y]? = some (.int w)) (h : z_cmp b u w = true) : ∃ env', zcmp env b x y = some env' ∧ zEv ty ρ env' := by
  unfold zcmp
  unfold z_cmp at h
  split at h
  · have e := of_decide_eq_true h
    exact zeq_ok E hx hy (by rw [e])
  · have e : ¬ u = w := by simpa using h
    exact zne_ok E hx hy (fun q => e (Int32.toInt_inj.mp q))
  · have e := of_decide_eq_true h
    rw [Int32.lt_iff_toInt_lt] at e
    exact zlt_ok E hx hy e
  · have e : ¬ u < w := by simpa using h
    rw [Int32.lt_iff_toInt_lt] at e
    exact zle_ok E hy hx (by omega)
  · have e := of_decide_eq_true h
    rw [Int32.lt_iff_toInt_lt] at e
    exact zlt_ok E hy hx e
  · next n0 n1 n2 n3 n4 =>
    have e : ¬ w < u := by simpa using h
    rw [Int32.lt_iff_toInt_lt] at e
    split
    · exact absurd rfl n0
    · exact absurd rfl n1
    · exact absurd rfl n2
    · exact absurd rfl n3
    · exact absurd rfl n4
    · exact zle_ok E hx hy (by omega)
end ZCMP
noncomputable def zneg (b : Nat) : Nat := match b with
  | 0 => 1
  | 1 => 0
  | 2 => 3
  | 3 => 2
  | 4 => 5
  | _ => 4
theorem zneg_ok {b : Nat} {u w : Int32} (h : ¬ z_cmp b u w = true) : z_cmp (zneg b) u w = true := by
  unfold zneg
  unfold z_cmp at h
  split at h
  · unfold z_cmp; simpa using h
  · unfold z_cmp; simpa using h
  · unfold z_cmp; simpa using h
  · unfold z_cmp; simpa using h
  · unfold z_cmp; simpa using h
  · next n0 n1 n2 n3 n4 =>
    split
    · exact absurd rfl n0
    · exact absurd rfl n1
    · exact absurd rfl n2
    · exact absurd rfl n3
    · exact absurd rfl n4
    · unfold z_cmp; simpa using h
end
section
/-! contracts of methods, as data and as said -/
abbrev zCut : Type := Nat × List (Nat × zA) × List (Nat × Int × zA) × List (Nat × Nat × Int × Int)
abbrev zCt : Type := Nat × List zA × List zA × List Nat × List zMod × Nat × (Nat × Nat × Nat × Nat) × List zCut
noncomputable def zcJ (c : zCt) : Nat := c.1
noncomputable def zcA (c : zCt) : List zA := c.2.1
noncomputable def zcR (c : zCt) : List zA := c.2.2.1
noncomputable def zcE (c : zCt) : List Nat := c.2.2.2.1
noncomputable def zcM (c : zCt) : List zMod := c.2.2.2.2.1
noncomputable def zcD (c : zCt) : Nat := c.2.2.2.2.2.1
noncomputable def zcK (c : zCt) : Nat × Nat × Nat × Nat := c.2.2.2.2.2.2.1
noncomputable def zcC (c : zCt) : List zCut := c.2.2.2.2.2.2.2
noncomputable def zAg (ty : List Nat) : List zA → List Value → Prop
  | [], [] => True
  | a :: as, v :: vs => zG ty a v ∧ zAg ty as vs
  | _, _ => False
noncomputable def zRt (ty : List Nat) (ret : List zA) (v : Option Value) : Prop := match ret, v with
  | [], none => True
  | [a], some w => zG ty a w
  | _, _ => False
noncomputable def zPo (tt : Nat → zTy) (Ex : List Nat → zH → Prop) (c : zCt) (ty : List Nat) (h : zH) : zO → zH → Nat → Nat → Prop := fun o h' x y => ∃ ty', zExt ty ty' ∧ zTY tt ty' h' ∧ Ex ty' h' ∧ zFm (zcM c) ty h h' ∧ (match o with
  | .inl v => zRt ty' (zcR c) v ∧ x ≤ (zcK c).1 ∧ y ≤ (zcK c).2.1
  | .inr E => E ∈ zcE c ∧ x ≤ (zcK c).2.2.1 ∧ y ≤ (zcK c).2.2.2)
/-- the contract holds -/
noncomputable def zVd (tt : Nat → zTy) (Ex : List Nat → zH → Prop) (c : zCt) : Prop := ∀ (sx : zX) (d : Nat) (ty : List Nat) (h : zH) (as : List Value), zcD c ≤ d → zTY tt ty h → Ex ty h → zAg ty (zcA c) as → z_ok sx d (zcJ c) 0 (lv_args 0 as) [] h (zPo tt Ex c ty h)
/-! frames -/
noncomputable def zFs (ρ : List Value) : List zAf → List zCf → Prop
  | [], [] => True
  | f :: fs, c :: cs => f.1 = c.1 ∧ f.2.1 = c.2.1 ∧ zLo ρ f.2.2.1 c.2.2.1 ∧ zSk ρ f.2.2.2 c.2.2.2 ∧ zFs ρ fs cs
  | _, _ => False
theorem zFs.mono {ρ ρ' : List Value} (hx : zRx ρ ρ') : ∀ {fs : List zAf} {cs : List zCf}, zFs ρ fs cs → zFs ρ' fs cs
  | [], [], _ => trivial
  | _ :: _, _ :: _, h => ⟨h.1, h.2.1, h.2.2.1.mono hx, h.2.2.2.1.mono hx, zFs.mono hx h.2.2.2.2⟩
theorem zFs.len {ρ : List Value} : ∀ {fs : List zAf} {cs : List zCf}, zFs ρ fs cs → cs.length = fs.length
  | [], [], _ => rfl
  | _ :: _, _ :: _, h => by rw [List.length_cons, List.length_cons, zFs.len h.2.2.2.2]
theorem zSk.len {ρ : List Value} : ∀ {is : List Nat} {vs : List Value}, zSk ρ is vs → vs.length = is.length
  | [], [], _ => rfl
  | _ :: _, _ :: _, h => by rw [List.length_cons, List.length_cons, zSk.len h.2]
theorem zSk.take {ρ : List Value} : ∀ (n : Nat) {is : List Nat} {vs : List Value}, zSk ρ is vs → zSk ρ (is.take n) (vs.take n)
  | 0, _, _, _ => by rw [List.take_zero, List.take_zero]; trivial
  | n + 1, [], [], _ => trivial
  | n + 1, _ :: _, _ :: _, h => ⟨h.1, zSk.take n h.2⟩
theorem zSk.drop {ρ : List Value} : ∀ (n : Nat) {is : List Nat} {vs : List Value}, zSk ρ is vs → zSk ρ (is.drop n) (vs.drop n)
  | 0, _, _, h => h
  | n + 1, [], [], _ => trivial
  | n + 1, _ :: _, _ :: _, h => zSk.drop n h.2
theorem zSk.app {ρ : List Value} : ∀ {is js : List Nat} {vs ws : List Value}, zSk ρ is vs → zSk ρ js ws → zSk ρ (is ++ js) (vs ++ ws)
  | [], _, [], _, _, h => h
  | _ :: _, _, _ :: _, _, h, h2 => ⟨h.1, zSk.app h.2 h2⟩
theorem zSk.rev {ρ : List Value} : ∀ {is : List Nat} {vs : List Value}, zSk ρ is vs → zSk ρ is.reverse vs.reverse
  | [], [], _ => trivial
  | i :: is, v :: vs, h => by
    rw [List.reverse_cons, List.reverse_cons]
    exact (zSk.rev h.2).app ⟨h.1, trivial⟩
abbrev zSt : Type := List zEn × List zMe × List zAf × Nat × Nat
/-- a state of the checker and one of the machine -/
noncomputable def zRl (tt : Nat → zTy) (Ex : List Nat → zH → Prop) (c : zCt) (ty0 : List Nat) (h0 : zH) (ρ0 : List Value) (s : zSt) (cf : List zCf) (h : zH) (X Y : Nat) : Prop := ∃ (ty : List Nat) (ρ : List Value), zRx ρ0 ρ ∧ zExt ty0 ty ∧ zTY tt ty h ∧ Ex ty h ∧ zFm (zcM c) ty0 h0 h ∧ zEv ty ρ s.1 ∧ zMm h ρ s.2.1 ∧ zFs ρ s.2.2.1 cf ∧ X ≤ s.2.2.2.1 ∧ Y ≤ s.2.2.2.2
/-- what the checker's successors owe -/
noncomputable def zTo (tt : Nat → zTy) (Ex : List Nat → zH → Prop) (c : zCt) (ty0 : List Nat) (h0 : zH) (ρ0 : List Value) (sx : zX) (d0 : Nat) (Φ : zO → zH → Nat → Nat → Prop) (l : List zSt) : Prop := (∀ o h x y, zPo tt Ex c ty0 h0 o h x y → Φ o h x y) ∧ ∀ s ∈ l, ∀ (cf : List zCf) (h : zH) (X Y : Nat), zRl tt Ex c ty0 h0 ρ0 s cf h X Y → zGo sx d0 Φ cf h X Y
noncomputable def zStable (tt : Nat → zTy) (Ex : List Nat → zH → Prop) (ms : List zMod) : Prop := ∀ (ty : List Nat) (h h' : zH), zTY tt ty h → zTY tt ty h' → h.length = h'.length → zFm ms ty h h' → Ex ty h → Ex ty h'
theorem zTY.len {tt : Nat → zTy} {ty : List Nat} {h h' : zH} (T : zTY tt ty h) (T' : zTY tt ty h') : h.length = h'.length := by rw [← T.1, T'.1]
theorem zqs_no {o : Nat} (ho : o = 50 ∨ o = 51 ∨ o = 52 ∨ o = 53 ∨ o = 62 ∨ o = 54 ∨ o = 55 ∨ o = 72 ∨ o = 56 ∨ o = 73) : zqs.getD o zq_no = zq_no := by
  rcases ho with rfl | rfl | rfl | rfl | rfl | rfl | rfl | rfl | rfl | rfl <;> rfl
section ZSTEP
variable {tt : Nat → zTy} {Ex : List Nat → zH → Prop} {ct : zCt} {ty0 : List Nat} {h0 : zH} {ρ0 : List Value} {sx : zX} {d0 : Nat} {j k : Nat} {loc : zLs} {stk : List Nat} {fs : List zAf} {X9 Y9 X Y : Nat} {env : List zEn} {me : List zMe} {lo : zL} {st : List Value} {cfs : List zCf} {h : zH} {ty : List Nat} {ρ : List Value} {M : zMi} {cs : List zI} {hs : List zHd} {i : zI} {l : List zSt} {Φ : zO → zH → Nat → Nat → Prop}
/-- a plain step -/
noncomputable def zt_op (tt : Nat → zTy) (ct : zCt) (i : zI) (env : List zEn) (me : List zMe) (j k : Nat) (loc : zLs) (stk : List Nat) (fs : List zAf) (X Y : Nat) : Option (List zSt) := match (zqs.getD i.1 zq_no) tt (zcD ct - fs.length) (zcM ct) i.2.1 i.2.2.1 i.2.2.2 (env, me, loc, stk) with
  | some q => some [(q.1, q.2.1, (j, k + 1, q.2.2.1, q.2.2.2) :: fs, X, Y)]
  | none => none
theorem zt_op_ok (hst : zStable tt Ex (zcM ct)) (hd : zcD ct ≤ d0) (hM : z_ms[j]? = some M) (hC : z_cs[j]? = some cs) (hH : z_hs[j]? = some hs) (hi : cs[k]? = some i) (a1 : zRx ρ0 ρ) (a2 : zExt ty0 ty) (a3 : zTY tt ty h) (a4 : Ex ty h) (a5 : zFm (zcM ct) ty0 h0 h) (a6 : zEv ty ρ env) (a7 : zMm h ρ me) (a8 : zLo ρ loc lo) (a9 : zSk ρ stk st) (a10 : zFs ρ fs cfs) (a11 : X ≤ X9) (a12 : Y ≤ Y9)
    (hq : zt_op tt ct i env me j k loc stk fs X9 Y9 = some l) (hl : zTo tt Ex ct ty0 h0 ρ0 sx d0 Φ l) : zGo sx d0 Φ ((j, k, lo, st) :: cfs) h X Y := by
  unfold zt_op at hq
  split at hq
  case h_2 => cases hq
  next q hq1 =>
  cases hq
  have hno : ¬ (i.1 = 50 ∨ i.1 = 51 ∨ i.1 = 52 ∨ i.1 = 53 ∨ i.1 = 62 ∨ i.1 = 54 ∨ i.1 = 55 ∨ i.1 = 72 ∨ i.1 = 56 ∨ i.1 = 73) := fun h9 => by
    rw [zqs_no h9] at hq1; cases hq1
  obtain ⟨ρ', lo', st', h', ho, r1, r2, r3, r4, r5, r6, r7⟩ := zSd_all i.1 tt sx _ (d0 - cfs.length) _ _ _ _ k ty ρ _ q lo st h (by rw [a10.len]; omega) a3 a6 a7 a8 a9 hq1
  refine zGo.step hM hC hH hi (by omega) ho ?_
  refine hl.2 _ (List.mem_singleton.mpr rfl) _ h' X Y ⟨ty, ρ', a1.tr r1, a2, r2, hst ty h h' a3 r2 (a3.len r2) r7 a4, a5.tr a2 r7, r3, r4, ?_, a11, a12⟩
  exact ⟨rfl, rfl, r5, r6, a10.mono r1⟩
/-- a step that goes on elsewhere -/
theorem zt_jump {k' : Nat} {env' : List zEn} {loc' : zLs} {stk' : List Nat} {lo' : zL} {st' : List Value} {ρ' : List Value} (hM : z_ms[j]? = some M) (hC : z_cs[j]? = some cs) (hH : z_hs[j]? = some hs) (hi : cs[k]? = some i) (hn : i.1 ≠ 50 ∧ i.1 ≠ 51 ∧ i.1 ≠ 52 ∧ i.1 ≠ 53 ∧ i.1 ≠ 62 ∧ i.1 ≠ 54 ∧ i.1 ≠ 55 ∧ i.1 ≠ 72 ∧ i.1 ≠ 56 ∧ i.1 ≠ 73) (ho : (z_ops.getD i.1 z_no) sx (d0 - cfs.length) i.2.1 i.2.2.1 i.2.2.2 k lo st h = zn k' lo' st' h) (a1 : zRx ρ0 ρ) (a2 : zExt ty0 ty) (a3 : zTY tt ty h) (a4 : Ex ty h) (a5 : zFm (zcM ct) ty0 h0 h) (a7 : zMm h ρ me) (a10 : zFs ρ fs cfs) (a11 : X ≤ X9) (a12 : Y ≤ Y9)
    (r1 : zRx ρ ρ') (r3 : zEv ty ρ' env') (r5 : zLo ρ' loc' lo') (r6 : zSk ρ' stk' st') (hm : (env', me, (j, k', loc', stk') :: fs, X9, Y9) ∈ l) (hl : zTo tt Ex ct ty0 h0 ρ0 sx d0 Φ l) : zGo sx d0 Φ ((j, k, lo, st) :: cfs) h X Y := by
  refine zGo.step hM hC hH hi hn ho ?_
  exact hl.2 _ hm _ h X Y ⟨ty, ρ', a1.tr r1, a2, a3, a4, a5, r3, a7.mono r1, ⟨rfl, rfl, r5, r6, a10.mono r1⟩, a11, a12⟩
noncomputable def zt_br (b : Nat) (a : Nat) (env : List zEn) (me : List zMe) (j k : Nat) (loc : zLs) (x y : Nat) (stk : List Nat) (fs : List zAf) (X Y : Nat) : List zSt :=
  (match zcmp env b x y with
  | some e => [(e, me, (j, a, loc, stk) :: fs, X, Y)]
  | none => []) ++ (match zcmp env (zneg b) x y with
  | some e => [(e, me, (j, k + 1, loc, stk) :: fs, X, Y)]
  | none => [])
noncomputable def zt_if (i : zI) (env : List zEn) (me : List zMe) (j k : Nat) (loc : zLs) (stk : List Nat) (fs : List zAf) (X Y : Nat) : Option (List zSt) := match i.1, stk with
  | 30, _ => some [(env, me, (j, i.2.1, loc, stk) :: fs, X, Y)]
  | 31, x :: stk => if (zav env x).1 = 0 then some (zt_br i.2.2.1 i.2.1 (env ++ [((0, 0, 0), 0, 0)]) me j k loc x env.length stk fs X Y) else none
  | 32, y :: x :: stk => if (zav env x).1 = 0 ∧ (zav env y).1 = 0 then some (zt_br i.2.2.1 i.2.1 env me j k loc x y stk fs X Y) else none
  | 33, x :: stk => if zisR (zav env x) = true then some [(env, me, (j, i.2.1, loc, stk) :: fs, X, Y)] else if (zav env x).1 = 4 then some [(env, me, (j, k + 1, loc, stk) :: fs, X, Y)] else if (zav env x).1 = 3 then some [(env.set x ((2, (zav env x).2.1, (zav env x).2.2), 0, 0), me, (j, i.2.1, loc, stk) :: fs, X, Y), (env.set x ((4, 0, 0), 0, 0), me, (j, k + 1, loc, stk) :: fs, X, Y)] else none
  | _, _ => none
theorem zEv.set0 {e : zEn} {v : Value} {x : Nat} (E : zEv ty ρ env) (hx : ρ[x]? = some v) (hg : zG ty e.1 v) (h0 : e.2.1 = 0) : zEv ty ρ (env.set x e) := by
  refine ⟨by rw [List.length_set]; exact E.1, fun q e9 v9 hq hv => ?_⟩
  by_cases hqx : q = x
  · subst hqx
    obtain ⟨e8, he8, -⟩ := E.ex hx
    rw [List.getElem?_set_self (List.getElem?_eq_some_iff.mp he8).1] at hq
    cases hq
    rw [hx] at hv
    cases hv
    exact ⟨hg, fun b hb => by rw [h0] at hb; cases hb⟩
  · rw [List.getElem?_set_ne (fun z => hqx z.symm)] at hq
    exact E.2 q e9 v9 hq hv
theorem zt_if_ok (hM : z_ms[j]? = some M) (hC : z_cs[j]? = some cs) (hH : z_hs[j]? = some hs) (hi : cs[k]? = some i) (a1 : zRx ρ0 ρ) (a2 : zExt ty0 ty) (a3 : zTY tt ty h) (a4 : Ex ty h) (a5 : zFm (zcM ct) ty0 h0 h) (a6 : zEv ty ρ env) (a7 : zMm h ρ me) (a8 : zLo ρ loc lo) (a9 : zSk ρ stk st) (a10 : zFs ρ fs cfs) (a11 : X ≤ X9) (a12 : Y ≤ Y9)
    (hq : zt_if i env me j k loc stk fs X9 Y9 = some l) (hl : zTo tt Ex ct ty0 h0 ρ0 sx d0 Φ l) : zGo sx d0 Φ ((j, k, lo, st) :: cfs) h X Y := by
  unfold zt_if at hq
  split at hq
  · next hi1 =>
    cases hq
    exact zt_jump (ρ' := ρ) (k' := i.2.1) hM hC hH hi (by omega) (by rw [hi1]; rfl) a1 a2 a3 a4 a5 a7 a10 a11 a12 zRx.rf a6 a8 a9 (List.mem_singleton.mpr rfl) hl
  · next x stk hi1 =>
    match st, a9 with
    | v :: st, a9 =>
    split at hq
    case isFalse => cases hq
    next hz =>
    cases hq
    obtain ⟨u, rfl, u1, u2⟩ := zG0 (a6.at a9.1) hz
    have E' : zEv ty (ρ ++ [.int 0]) (env ++ [((0, 0, 0), 0, 0)]) := a6.push0 (a := (0, 0, 0)) (v := .int 0) ⟨0, rfl, by decide, by decide⟩
    have hop : ∀ k', (if z_cmp i.2.2.1 u 0 = true then i.2.1 else k + 1) = k' → (z_ops.getD i.1 z_no) sx (d0 - cfs.length) i.2.1 i.2.2.1 i.2.2.2 k lo (.int u :: st) h = zn k' lo st h := fun k' e => by rw [hi1, ← e]; rfl
    by_cases hcm : z_cmp i.2.2.1 u 0 = true
    · obtain ⟨e1, q1, E1⟩ := zcmp_ok E' (zRx.app _ _ a9.1) (a6.new (.int 0)) hcm
      refine zt_jump (ρ' := ρ ++ [.int 0]) (k' := i.2.1) hM hC hH hi (by omega) (hop _ (if_pos hcm)) a1 a2 a3 a4 a5 a7 a10 a11 a12 zRx.app E1 (a8.mono zRx.app) (a9.2.mono zRx.app) (List.mem_append_left _ ?_) hl
      rw [q1]
      exact List.mem_singleton.mpr rfl
    · obtain ⟨e1, q1, E1⟩ := zcmp_ok E' (zRx.app _ _ a9.1) (a6.new (.int 0)) (zneg_ok hcm)
      refine zt_jump (ρ' := ρ ++ [.int 0]) (k' := k + 1) hM hC hH hi (by omega) (hop _ (if_neg hcm)) a1 a2 a3 a4 a5 a7 a10 a11 a12 zRx.app E1 (a8.mono zRx.app) (a9.2.mono zRx.app) (List.mem_append_right _ ?_) hl
      rw [q1]
      exact List.mem_singleton.mpr rfl
  · next y x stk hi1 =>
    match st, a9 with
    | w :: v :: st, a9 =>
    split at hq
    case isFalse => cases hq
    next hz =>
    cases hq
    obtain ⟨u, rfl, u1, u2⟩ := zG0 (a6.at a9.2.1) hz.1
    obtain ⟨z, rfl, z1, z2⟩ := zG0 (a6.at a9.1) hz.2
    have hop : ∀ k', (if z_cmp i.2.2.1 u z = true then i.2.1 else k + 1) = k' → (z_ops.getD i.1 z_no) sx (d0 - cfs.length) i.2.1 i.2.2.1 i.2.2.2 k lo (.int z :: .int u :: st) h = zn k' lo st h := fun k' e => by rw [hi1, ← e]; rfl
    by_cases hcm : z_cmp i.2.2.1 u z = true
    · obtain ⟨e1, q1, E1⟩ := zcmp_ok a6 a9.2.1 a9.1 hcm
      refine zt_jump (ρ' := ρ) (k' := i.2.1) hM hC hH hi (by omega) (hop _ (if_pos hcm)) a1 a2 a3 a4 a5 a7 a10 a11 a12 zRx.rf E1 a8 a9.2.2 (List.mem_append_left _ ?_) hl
      rw [q1]
      exact List.mem_singleton.mpr rfl
    · obtain ⟨e1, q1, E1⟩ := zcmp_ok a6 a9.2.1 a9.1 (zneg_ok hcm)
      refine zt_jump (ρ' := ρ) (k' := k + 1) hM hC hH hi (by omega) (hop _ (if_neg hcm)) a1 a2 a3 a4 a5 a7 a10 a11 a12 zRx.rf E1 a8 a9.2.2 (List.mem_append_right _ ?_) hl
      rw [q1]
      exact List.mem_singleton.mpr rfl
  · next x stk hi1 =>
    match st, a9 with
    | v :: st, a9 =>
    split at hq
    · next hz =>
      cases hq
      obtain ⟨r, rfl⟩ := zGr (a6.at a9.1) hz
      exact zt_jump (ρ' := ρ) (k' := i.2.1) hM hC hH hi (by omega) (by rw [hi1]; rfl) a1 a2 a3 a4 a5 a7 a10 a11 a12 zRx.rf a6 a8 a9.2 (List.mem_singleton.mpr rfl) hl
    · split at hq
      · next hz =>
        cases hq
        have e := zG4 (a6.at a9.1) hz
        subst e
        exact zt_jump (ρ' := ρ) (k' := k + 1) hM hC hH hi (by omega) (by rw [hi1]; rfl) a1 a2 a3 a4 a5 a7 a10 a11 a12 zRx.rf a6 a8 a9.2 (List.mem_singleton.mpr rfl) hl
      · split at hq
        · next hz =>
          cases hq
          rcases zG3 (a6.at a9.1) hz with rfl | ⟨r, t, rfl, g1, g2, g3⟩
          · exact zt_jump (ρ' := ρ) (k' := k + 1) hM hC hH hi (by omega) (by rw [hi1]; rfl) a1 a2 a3 a4 a5 a7 a10 a11 a12 zRx.rf (a6.set0 (e := ((4, 0, 0), 0, 0)) a9.1 rfl rfl) a8 a9.2 (List.mem_cons_of_mem _ (List.mem_singleton.mpr rfl)) hl
          · exact zt_jump (ρ' := ρ) (k' := i.2.1) hM hC hH hi (by omega) (by rw [hi1]; rfl) a1 a2 a3 a4 a5 a7 a10 a11 a12 zRx.rf (a6.set0 (e := ((2, (zav env x).2.1, (zav env x).2.2), 0, 0)) a9.1 ⟨r, t, rfl, g1, g2, g3⟩ rfl) a8 a9.2 List.mem_cons_self hl
        · cases hq
  · cases hq
end ZSTEP
end
section
/-! switches, returns, throws, calls -/
noncomputable def zt_cs (env : List zEn) (me : List zMe) (j : Nat) (loc : zLs) (x : Nat) (stk : List Nat) (fs : List zAf) (X Y : Nat) (lo hi : Int) (tg : Nat) : List zSt := match zref env x lo hi with
  | some e => [(e, me, (j, tg, loc, stk) :: fs, X, Y)]
  | none => []
noncomputable def zt_tab (env : List zEn) (me : List zMe) (j : Nat) (loc : zLs) (x : Nat) (stk : List Nat) (fs : List zAf) (X Y : Nat) : Int → List Nat → List zSt
  | _, [] => []
  | v, tg :: tgs => zt_cs env me j loc x stk fs X Y v v tg ++ zt_tab env me j loc x stk fs X Y (v + 1) tgs
noncomputable def zt_lk (env : List zEn) (me : List zMe) (j : Nat) (loc : zLs) (x : Nat) (stk : List Nat) (fs : List zAf) (X Y : Nat) : List (Int × Nat) → List zSt
  | [] => []
  | p :: ps => zt_cs env me j loc x stk fs X Y p.1 p.1 p.2 ++ zt_lk env me j loc x stk fs X Y ps
noncomputable def zt_sw (i : zI) (env : List zEn) (me : List zMe) (j : Nat) (loc : zLs) (stk : List Nat) (fs : List zAf) (X Y : Nat) : Option (List zSt) := match i.1, stk with
  | 35, x :: stk => (match z_sw[i.2.1]? with
    | some t => if (zav env x).1 = 0 then some (zt_tab env me j loc x stk fs X Y t.1 t.2.1 ++ (zt_cs env me j loc x stk fs X Y zMn (t.1 - 1) t.2.2 ++ zt_cs env me j loc x stk fs X Y (t.1 + (t.2.1.length : Int)) zMx t.2.2)) else none
    | none => none)
  | 36, x :: stk => (match z_lk[i.2.1]? with
    | some t => if (zav env x).1 = 0 then some ((env, me, (j, t.2, loc, stk) :: fs, X, Y) :: zt_lk env me j loc x stk fs X Y t.1) else none
    | none => none)
  | _, _ => none
theorem zt_tab_mem {env env' : List zEn} {me : List zMe} {j : Nat} {loc : zLs} {x : Nat} {stk : List Nat} {fs : List zAf} {X Y : Nat} : ∀ {v : Int} {tgs : List Nat} {n tg : Nat}, tgs[n]? = some tg → zref env x (v + (n : Int)) (v + (n : Int)) = some env' → (env', me, (j, tg, loc, stk) :: fs, X, Y) ∈ zt_tab env me j loc x stk fs X Y v tgs
  | _, [], n, _, h, _ => by simp at h
  | v, t0 :: tgs, 0, tg, h, h2 => by
    simp only [List.getElem?_cons_zero, Option.some.injEq] at h
    subst h
    rw [zt_tab]
    refine List.mem_append_left _ ?_
    unfold zt_cs
    rw [show v + ((0 : Nat) : Int) = v by omega] at h2
    rw [h2]
    exact List.mem_singleton.mpr rfl
  | v, t0 :: tgs, n + 1, tg, h, h2 => by
    rw [zt_tab]
    refine List.mem_append_right _ (zt_tab_mem (n := n) (by simpa using h) ?_)
    rw [show v + 1 + (n : Int) = v + ((n + 1 : Nat) : Int) by omega]
    exact h2
theorem zt_cs_mem {env env' : List zEn} {me : List zMe} {j : Nat} {loc : zLs} {x : Nat} {stk : List Nat} {fs : List zAf} {X Y : Nat} {lo hi : Int} {tg : Nat} (h : zref env x lo hi = some env') : (env', me, (j, tg, loc, stk) :: fs, X, Y) ∈ zt_cs env me j loc x stk fs X Y lo hi tg := by
  unfold zt_cs
  rw [h]
  exact List.mem_singleton.mpr rfl
section ZCTL
variable {tt : Nat → zTy} {Ex : List Nat → zH → Prop} {ct : zCt} {ty0 : List Nat} {h0 : zH} {ρ0 : List Value} {sx : zX} {d0 : Nat} {j k : Nat} {loc : zLs} {stk : List Nat} {fs : List zAf} {X9 Y9 X Y : Nat} {env : List zEn} {me : List zMe} {lo : zL} {st : List Value} {cfs : List zCf} {h : zH} {ty : List Nat} {ρ : List Value} {M : zMi} {cs : List zI} {hs : List zHd} {i : zI} {l : List zSt} {Φ : zO → zH → Nat → Nat → Prop}
theorem zt_lk_mem {u : Int32} {x : Nat} (E : zEv ty ρ env) (hx : ρ[x]? = some (.int u)) : ∀ {ps : List (Int × Nat)} {d : Nat}, z_lkr ps d u.toInt = d ∨ ∃ env', zEv ty ρ env' ∧ (env', me, (j, z_lkr ps d u.toInt, loc, stk) :: fs, X9, Y9) ∈ zt_lk env me j loc x stk fs X9 Y9 ps
  | [], d => Or.inl rfl
  | p :: ps, d => by
    rw [zt_lk]
    obtain ⟨pa, pn⟩ := p
    rw [z_lkr]
    by_cases hp : pa = u.toInt
    · rw [if_pos hp]
      obtain ⟨e1, q1, E1⟩ := zref_ok (lo := pa) (hi := pa) E hx (by omega) (by omega)
      exact Or.inr ⟨e1, E1, List.mem_append_left _ (zt_cs_mem q1)⟩
    · rw [if_neg hp]
      rcases zt_lk_mem E hx (ps := ps) (d := d) with q | ⟨e1, E1, q⟩
      · exact Or.inl q
      · exact Or.inr ⟨e1, E1, List.mem_append_right _ q⟩
theorem zt_sw_ok (hM : z_ms[j]? = some M) (hC : z_cs[j]? = some cs) (hH : z_hs[j]? = some hs) (hi : cs[k]? = some i) (a1 : zRx ρ0 ρ) (a2 : zExt ty0 ty) (a3 : zTY tt ty h) (a4 : Ex ty h) (a5 : zFm (zcM ct) ty0 h0 h) (a6 : zEv ty ρ env) (a7 : zMm h ρ me) (a8 : zLo ρ loc lo) (a9 : zSk ρ stk st) (a10 : zFs ρ fs cfs) (a11 : X ≤ X9) (a12 : Y ≤ Y9)
    (hq : zt_sw i env me j loc stk fs X9 Y9 = some l) (hl : zTo tt Ex ct ty0 h0 ρ0 sx d0 Φ l) : zGo sx d0 Φ ((j, k, lo, st) :: cfs) h X Y := by
  unfold zt_sw at hq
  split at hq
  · next x stk hi1 =>
    match st, a9 with
    | v :: st, a9 =>
    split at hq
    case h_2 => cases hq
    next t ht =>
    split at hq
    case isFalse => cases hq
    next hz =>
    cases hq
    obtain ⟨u, rfl, u1, u2⟩ := zG0 (a6.at a9.1) hz
    have ub := zb32 u
    have e1 : zMn = -2147483648 := rfl
    have e2 : zMx = 2147483647 := rfl
    have hop : ∀ k', z_swt t u = k' → (z_ops.getD i.1 z_no) sx (d0 - cfs.length) i.2.1 i.2.2.1 i.2.2.2 k lo (.int u :: st) h = zn k' lo st h := fun k' e => by
      rw [hi1, ← e]
      show zo_tsw sx (d0 - cfs.length) i.2.1 i.2.2.1 i.2.2.2 k lo (.int u :: st) h = zn (z_swt t u) lo st h
      unfold zo_tsw
      dsimp only
      rw [ht]
    by_cases hlow : u.toInt < t.1
    · obtain ⟨e1, q1, E1⟩ := zref_ok (lo := zMn) (hi := t.1 - 1) a6 a9.1 (by omega) (by omega)
      exact zt_jump (ρ' := ρ) (k' := t.2.2) hM hC hH hi (by omega) (hop _ (by unfold z_swt; exact if_pos hlow)) a1 a2 a3 a4 a5 a7 a10 a11 a12 zRx.rf E1 a8 a9.2 (List.mem_append_right _ (List.mem_append_left _ (zt_cs_mem q1))) hl
    · cases hg : t.2.1[(u.toInt - t.1).toNat]? with
      | some tg =>
        obtain ⟨e1, q1, E1⟩ := zref_ok (lo := t.1 + ((u.toInt - t.1).toNat : Int)) (hi := t.1 + ((u.toInt - t.1).toNat : Int)) a6 a9.1 (by omega) (by omega)
        exact zt_jump (ρ' := ρ) (k' := tg) hM hC hH hi (by omega) (hop _ (by unfold z_swt; rw [if_neg hlow, hg]; rfl)) a1 a2 a3 a4 a5 a7 a10 a11 a12 zRx.rf E1 a8 a9.2 (List.mem_append_left _ (zt_tab_mem hg q1)) hl
      | none =>
        have hlen := List.getElem?_eq_none_iff.mp hg
        obtain ⟨e1, q1, E1⟩ := zref_ok (lo := t.1 + (t.2.1.length : Int)) (hi := zMx) a6 a9.1 (by omega) (by omega)
        exact zt_jump (ρ' := ρ) (k' := t.2.2) hM hC hH hi (by omega) (hop _ (by unfold z_swt; rw [if_neg hlow, hg]; rfl)) a1 a2 a3 a4 a5 a7 a10 a11 a12 zRx.rf E1 a8 a9.2 (List.mem_append_right _ (List.mem_append_right _ (zt_cs_mem q1))) hl
  · next x stk hi1 =>
    match st, a9 with
    | v :: st, a9 =>
    split at hq
    case h_2 => cases hq
    next t ht =>
    split at hq
    case isFalse => cases hq
    next hz =>
    cases hq
    obtain ⟨u, rfl, u1, u2⟩ := zG0 (a6.at a9.1) hz
    have hop : (z_ops.getD i.1 z_no) sx (d0 - cfs.length) i.2.1 i.2.2.1 i.2.2.2 k lo (.int u :: st) h = zn (z_lkr t.1 t.2 u.toInt) lo st h := by
      rw [hi1]
      show zo_lsw2 sx (d0 - cfs.length) i.2.1 i.2.2.1 i.2.2.2 k lo (.int u :: st) h = zn (z_lkr t.1 t.2 u.toInt) lo st h
      unfold zo_lsw2
      dsimp only
      rw [ht]
    rcases zt_lk_mem (me := me) (loc := loc) (stk := stk) (fs := fs) (j := j) (X9 := X9) (Y9 := Y9) a6 a9.1 (ps := t.1) (d := t.2) with q | ⟨e1, E1, q⟩
    · rw [q] at hop
      exact zt_jump (ρ' := ρ) (k' := t.2) hM hC hH hi (by omega) hop a1 a2 a3 a4 a5 a7 a10 a11 a12 zRx.rf a6 a8 a9.2 List.mem_cons_self hl
    · exact zt_jump (ρ' := ρ) hM hC hH hi (by omega) hop a1 a2 a3 a4 a5 a7 a10 a11 a12 zRx.rf E1 a8 a9.2 (List.mem_cons_of_mem _ q) hl
  · cases hq
/-! returns -/
theorem z_fin50 {M : zMi} {i : zI} {d : Nat} {r : Int32} (h : i.1 = 50) : z_fin M i d [.int r] = (match M.2.2.2.2.1 with | some ty => if narrow ty (.int r) = .int r then some (.inl (some (.int r)), 0, 0) else none | none => none) := by
  unfold z_fin
  rw [h]
  rfl
theorem z_fin62 {M : zMi} {i : zI} {d : Nat} {st : List Value} (h : i.1 = 62) : z_fin M i d st = if 6 ≤ d ∧ z_cat st ≤ 8 then some (.inr i.2.1, 1, 6) else none := by
  unfold z_fin
  rw [h]
  all_goals rfl
noncomputable def zt_ro (ct : zCt) (env : List zEn) (v : Option Nat) : Bool := match zcR ct, v with
  | [], none => true
  | [a], some x => zLe (zav env x) a
  | _, _ => false
noncomputable def zt_rk (ct : zCt) (env : List zEn) (me : List zMe) (fs : List zAf) (X Y : Nat) (v : Option Nat) : Option (List zSt) := match fs with
  | [] => if zt_ro ct env v = true ∧ X ≤ (zcK ct).1 ∧ Y ≤ (zcK ct).2.1 then some [] else none
  | f :: fs => match (z_cs.getD f.1 [])[f.2.1]?, z_hs[f.1]? with
    | some _, some _ => some [(env, me, (f.1, f.2.1 + 1, f.2.2.1, v.toList ++ f.2.2.2) :: fs, X, Y)]
    | _, _ => none
theorem zt_rk_ok {v : Option Nat} {w : Option Value} (hv : (v = none ∧ w = none) ∨ ∃ x u, v = some x ∧ w = some u ∧ ρ[x]? = some u) (a1 : zRx ρ0 ρ) (a2 : zExt ty0 ty) (a3 : zTY tt ty h) (a4 : Ex ty h) (a5 : zFm (zcM ct) ty0 h0 h) (a6 : zEv ty ρ env) (a7 : zMm h ρ me) (a10 : zFs ρ fs cfs) (a11 : X ≤ X9) (a12 : Y ≤ Y9)
    (hq : zt_rk ct env me fs X9 Y9 v = some l) (hl : zTo tt Ex ct ty0 h0 ρ0 sx d0 Φ l) : zKx sx d0 Φ cfs (.inl w) h X Y := by
  unfold zt_rk at hq
  cases fs with
  | nil =>
    cases cfs with
    | cons c cfs => exact a10.elim
    | nil =>
    dsimp only at hq
    split at hq
    case isFalse => cases hq
    next hc =>
    refine hl.1 _ _ _ _ ⟨ty, a2, a3, a4, a5, ?_, Nat.le_trans a11 hc.2.1, Nat.le_trans a12 hc.2.2⟩
    have h1 := hc.1
    unfold zt_ro at h1
    rcases hv with ⟨rfl, rfl⟩ | ⟨x, u, rfl, rfl, hx⟩
    · split at h1
      · next e1 e2 => rw [e1]; trivial
      · next e2 => cases e2
      · cases h1
    · split at h1
      · next e2 => cases e2
      · next a x9 e1 e2 =>
        cases e2
        rw [e1]
        exact zLe_ok h1 (a6.at hx)
      · cases h1
  | cons f fs =>
    cases cfs with
    | nil => exact a10.elim
    | cons c cfs =>
    dsimp only at hq
    obtain ⟨b1, b2, b3, b4, b5⟩ := a10
    obtain ⟨cj, ck, clo, cst⟩ := c
    dsimp only at b1 b2 b3 b4
    split at hq
    case h_2 => cases hq
    next i hs w3 w2 =>
    cases hq
    rw [b1, b2] at w3
    rw [b1] at w2
    obtain ⟨cs, w1⟩ : ∃ cs, z_cs[cj]? = some cs := by
      cases hC : z_cs[cj]? with
      | none => rw [List.getD_eq_getElem?_getD, hC] at w3; simp at w3
      | some cs => exact ⟨cs, rfl⟩
    rw [List.getD_eq_getElem?_getD, w1, Option.getD_some] at w3
    refine zKx.ret w1 w2 w3 (hl.2 _ (List.mem_singleton.mpr rfl) _ h X Y ⟨ty, ρ, a1, a2, a3, a4, a5, a6, a7, ⟨b1, by rw [b2], b3, ?_, b5⟩, a11, a12⟩)
    rcases hv with ⟨rfl, rfl⟩ | ⟨x, u, rfl, rfl, hx⟩
    · exact b4
    · exact ⟨hx, b4⟩
noncomputable def zt_ret (ct : zCt) (M : zMi) (i : zI) (env : List zEn) (me : List zMe) (stk : List Nat) (fs : List zAf) (X Y : Nat) : Option (List zSt) := match i.1, stk with
  | 50, [x] => if (zav env x).1 = 0 ∧ (M.2.2.2.2.1 = some .int ∨ (M.2.2.2.2.1 = some .boolean ∧ 0 ≤ (zav env x).2.1 ∧ (zav env x).2.2 ≤ 1)) then zt_rk ct env me fs X Y (some x) else none
  | 51, [x] => if (zav env x).1 = 1 then zt_rk ct env me fs X Y (some x) else none
  | 52, [x] => if zisR (zav env x) = true then zt_rk ct env me fs X Y (some x) else none
  | 53, [] => zt_rk ct env me fs X Y none
  | _, _ => none
theorem zt_ret_ok (hM : z_ms[j]? = some M) (hC : z_cs[j]? = some cs) (hH : z_hs[j]? = some hs) (hi : cs[k]? = some i) (a1 : zRx ρ0 ρ) (a2 : zExt ty0 ty) (a3 : zTY tt ty h) (a4 : Ex ty h) (a5 : zFm (zcM ct) ty0 h0 h) (a6 : zEv ty ρ env) (a7 : zMm h ρ me) (a9 : zSk ρ stk st) (a10 : zFs ρ fs cfs) (a11 : X ≤ X9) (a12 : Y ≤ Y9)
    (hq : zt_ret ct M i env me stk fs X9 Y9 = some l) (hl : zTo tt Ex ct ty0 h0 ρ0 sx d0 Φ l) : zGo sx d0 Φ ((j, k, lo, st) :: cfs) h X Y := by
  unfold zt_ret at hq
  split at hq
  · next x hi1 =>
    match st, a9 with
    | [v], a9 =>
    split at hq
    case isFalse => cases hq
    next hc =>
    obtain ⟨u, rfl, u1, u2⟩ := zG0 (a6.at a9.1) hc.1
    have hfin : z_fin M i (d0 - cfs.length) [.int u] = some (.inl (some (.int u)), 0, 0) := by
      rw [z_fin50 hi1]
      rcases hc.2 with e | ⟨e, e1, e2⟩
      · rw [e]
        exact if_pos rfl
      · rw [e]
        have hx : u.toInt = 0 ∨ u.toInt = 1 := by omega
        have : u = 0 ∨ u = 1 := hx.imp (fun e => Int32.toInt_inj.mp (by rw [e]; rfl)) (fun e => Int32.toInt_inj.mp (by rw [e]; rfl))
        rcases this with rfl | rfl
        · exact if_pos rfl
        · exact if_pos rfl
    refine zGo.fin hM hC hH hi hfin ?_
    rw [Nat.zero_add, Nat.zero_add]
    exact zt_rk_ok (Or.inr ⟨x, _, rfl, rfl, a9.1⟩) a1 a2 a3 a4 a5 a6 a7 a10 a11 a12 hq hl
  · next x hi1 =>
    match st, a9 with
    | [v], a9 =>
    split at hq
    case isFalse => cases hq
    next hc =>
    obtain ⟨u, rfl, u1, u2⟩ := zG1 (a6.at a9.1) hc
    refine zGo.fin hM hC hH hi (o := .inl (some (.long u))) (x := 0) (y := 0) (by unfold z_fin; rw [hi1]; rfl) ?_
    rw [Nat.zero_add, Nat.zero_add]
    exact zt_rk_ok (Or.inr ⟨x, _, rfl, rfl, a9.1⟩) a1 a2 a3 a4 a5 a6 a7 a10 a11 a12 hq hl
  · next x hi1 =>
    match st, a9 with
    | [v], a9 =>
    split at hq
    case isFalse => cases hq
    next hc =>
    obtain ⟨u, rfl⟩ := zGr (a6.at a9.1) hc
    refine zGo.fin hM hC hH hi (o := .inl (some (.ref u))) (x := 0) (y := 0) (by unfold z_fin; rw [hi1]; rfl) ?_
    rw [Nat.zero_add, Nat.zero_add]
    exact zt_rk_ok (Or.inr ⟨x, _, rfl, rfl, a9.1⟩) a1 a2 a3 a4 a5 a6 a7 a10 a11 a12 hq hl
  · next hi1 =>
    match st, a9 with
    | [], a9 =>
    refine zGo.fin hM hC hH hi (o := .inl none) (x := 0) (y := 0) (by unfold z_fin; rw [hi1]; rfl) ?_
    rw [Nat.zero_add, Nat.zero_add]
    exact zt_rk_ok (Or.inl ⟨rfl, rfl⟩) a1 a2 a3 a4 a5 a6 a7 a10 a11 a12 hq hl
  · cases hq
/-! throws -/
noncomputable def zt_un (ct : zCt) (env : List zEn) (me : List zMe) (X Y E : Nat) : List zAf → Option (List zSt)
  | [] => if E ∈ zcE ct ∧ X ≤ (zcK ct).2.2.1 ∧ Y ≤ (zcK ct).2.2.2 then some [] else none
  | f :: fs => match (z_cs.getD f.1 [])[f.2.1]?, z_hs[f.1]? with
    | some i, some hs => if i.1 = 54 then (match hs.find? (fun q => q.2.2.2.2.1 == E) with
      | some q => some [(env, me, (f.1, q.2.2.2.2.2.1, zdrop env f.2.2.1 q.2.2.2.2.2.2, []) :: fs, X, Y)]
      | none => if hs.isEmpty = true then zt_un ct env me X Y E fs else none) else none
    | _, _ => none
theorem zt_un_ok {E : Nat} (a1 : zRx ρ0 ρ) (a2 : zExt ty0 ty) (a3 : zTY tt ty h) (a4 : Ex ty h) (a5 : zFm (zcM ct) ty0 h0 h) (a6 : zEv ty ρ env) (a7 : zMm h ρ me) (a11 : X ≤ X9) (a12 : Y ≤ Y9) (hl : zTo tt Ex ct ty0 h0 ρ0 sx d0 Φ l) : ∀ (fs : List zAf) (cfs : List zCf), zFs ρ fs cfs → zt_un ct env me X9 Y9 E fs = some l → zKx sx d0 Φ cfs (.inr E) h X Y
  | [], [], _, hq => by
    rw [zt_un] at hq
    split at hq
    case isFalse => cases hq
    next hc =>
    exact hl.1 _ _ _ _ ⟨ty, a2, a3, a4, a5, hc.1, Nat.le_trans a11 hc.2.1, Nat.le_trans a12 hc.2.2⟩
  | f :: fs, c :: cfs, hf, hq => by
    rw [zt_un] at hq
    obtain ⟨b1, b2, b3, b4, b5⟩ := hf
    obtain ⟨cj, ck, clo, cst⟩ := c
    dsimp only at b1 b2 b3 b4
    split at hq
    case h_2 => cases hq
    next i hs hi hh =>
    rw [b1, b2] at hi
    rw [b1] at hh
    cases hC : z_cs[cj]? with
    | none => rw [List.getD_eq_getElem?_getD, hC] at hi; simp at hi
    | some cs =>
    rw [List.getD_eq_getElem?_getD, hC, Option.getD_some] at hi
    split at hq
    case isFalse => cases hq
    next h54 =>
    split at hq
    · next q hfd =>
      cases hq
      refine zKx.caught hC hh hi h54 hfd (hl.2 _ (List.mem_singleton.mpr rfl) _ h X Y ⟨ty, ρ, a1, a2, a3, a4, a5, a6, a7, ⟨b1, rfl, zdrop_ok a6 b3, trivial, b5⟩, a11, a12⟩)
    · split at hq
      case isFalse => cases hq
      next he =>
      have he2 : hs = [] := List.isEmpty_iff.mp he
      subst he2
      exact zKx.out hC hh hi h54 (zt_un_ok a1 a2 a3 a4 a5 a6 a7 a11 a12 hl fs cfs b5 hq)
noncomputable def zt_thr (ct : zCt) (i : zI) (env : List zEn) (me : List zMe) (stk : List Nat) (fs : List zAf) (X Y : Nat) : Option (List zSt) := if i.1 = 62 ∧ 6 ≤ zcD ct - fs.length ∧ zct env stk ≤ 8 then zt_un ct env me (X + 1) (Y + 6) i.2.1 fs else none
theorem zt_thr_ok (hd : zcD ct ≤ d0) (hM : z_ms[j]? = some M) (hC : z_cs[j]? = some cs) (hH : z_hs[j]? = some hs) (hi : cs[k]? = some i) (a1 : zRx ρ0 ρ) (a2 : zExt ty0 ty) (a3 : zTY tt ty h) (a4 : Ex ty h) (a5 : zFm (zcM ct) ty0 h0 h) (a6 : zEv ty ρ env) (a7 : zMm h ρ me) (a9 : zSk ρ stk st) (a10 : zFs ρ fs cfs) (a11 : X ≤ X9) (a12 : Y ≤ Y9)
    (hq : zt_thr ct i env me stk fs X9 Y9 = some l) (hl : zTo tt Ex ct ty0 h0 ρ0 sx d0 Φ l) : zGo sx d0 Φ ((j, k, lo, st) :: cfs) h X Y := by
  unfold zt_thr at hq
  split at hq
  case isFalse => cases hq
  next hc =>
  refine zGo.fin hM hC hH hi (o := .inr i.2.1) (x := 1) (y := 6) ?_ (zt_un_ok (X := 1 + X) (Y := 6 + Y) a1 a2 a3 a4 a5 a6 a7 (by omega) (by omega) hl fs cfs a10 hq)
  rw [z_fin62 hc.1]
  exact if_pos ⟨by rw [a10.len]; omega, by rw [zct_ok a6 a9]; exact hc.2.2⟩
end ZCTL
end
section
/-! calls: by a contract, or the callee's frame on top -/
noncomputable def zargs (env : List zEn) : Nat → List Nat → zLs
  | _, [] => []
  | p, i :: is => (p, i) :: zargs env (if (zav env i).1 = 1 then p + 2 else p + 1) is
theorem zargs_ge {env : List zEn} : ∀ {is : List Nat} {p : Nat} {q : Nat × Nat}, q ∈ zargs env p is → p ≤ q.1
  | [], _, _, h => by cases h
  | i :: is, p, q, h => by
    rcases List.mem_cons.mp h with rfl | h
    · exact Nat.le_refl _
    · have := zargs_ge h
      split at this <;> omega
theorem zargs_ok {ty : List Nat} {ρ : List Value} {env : List zEn} (E : zEv ty ρ env) : ∀ {is : List Nat} {vs : List Value} (p : Nat), zSk ρ is vs → zLo ρ (zargs env p is) (lv_args p vs)
  | [], [], _, _ => fun q h => by cases h
  | i :: is, v :: vs, p, h => by
    intro q hq
    have hc := zGcat (E.at h.1)
    have e : (if v.category = 2 then p + 2 else p + 1) = (if (zav env i).1 = 1 then p + 2 else p + 1) := by
      rw [hc]
      by_cases h1 : (zav env i).1 = 1
      · rw [if_pos h1, if_pos rfl, if_pos h1]
      · rw [if_neg h1, if_neg (by decide), if_neg h1]
    rw [show lv_args p (v :: vs) = (p, v) :: lv_args (if v.category = 2 then p + 2 else p + 1) vs from rfl, e]
    rcases List.mem_cons.mp hq with rfl | hq
    · exact ⟨v, h.1, zget_self⟩
    · obtain ⟨w, h1, h2⟩ := zargs_ok E (if (zav env i).1 = 1 then p + 2 else p + 1) h.2 q hq
      refine ⟨w, h1, zget_cons h2 ?_⟩
      have := zargs_ge hq
      split at this <;> omega
noncomputable def zles (env : List zEn) : List Nat → List zA → Bool
  | [], [] => true
  | i :: is, a :: as => zLe (zav env i) a && zles env is as
  | _, _ => false
theorem zles_ok {ty : List Nat} {ρ : List Value} {env : List zEn} (E : zEv ty ρ env) : ∀ {is : List Nat} {vs : List Value} {as : List zA}, zSk ρ is vs → zles env is as = true → zAg ty as vs
  | [], [], [], _, _ => trivial
  | [], [], _ :: _, _, h => by cases h
  | _ :: _, _ :: _, [], _, h => by cases h
  | i :: is, v :: vs, a :: as, h, h2 => by
    rw [zles, Bool.and_eq_true] at h2
    exact ⟨zLe_ok h2.1 (E.at h.1), zles_ok E h.2 h2.2⟩
theorem zlgl : ∀ vs : List Value, (lg_sl vs).length = z_cat vs
  | [] => rfl
  | v :: vs => by
    have ih := zlgl vs
    unfold lg_sl z_cat at ih ⊢
    rw [List.flatMap_cons, List.length_append, ih, List.map_cons, List.sum_cons]
    cases v <;> rfl
noncomputable def zkps (env : List zEn) (ms : List zMod) (m : zMe) : Bool := ms.all (fun x => zkp env (x.1 : Int) (x.1 : Int) x.2.1 x.2.2 m)
/-- what the memo holds behind a call -/
theorem zMm.call {tt : Nat → zTy} {ty ty' : List Nat} {ρ : List Value} {env : List zEn} {me : List zMe} {h h' : zH} {ms : List zMod} (T : zTY tt ty h) (E : zEv ty ρ env) (Mm : zMm h ρ me) (F : zFm ms ty h h') : zMm h' ρ (me.filter (zkps env ms)) := by
  intro m hm
  obtain ⟨hm1, hm2⟩ := List.mem_filter.mp hm
  obtain ⟨a, e, i, v, k1, k2, k3, k4, k5⟩ := Mm m hm1
  have hl := (List.getElem?_eq_some_iff.mp k2).1
  have hl2 : a < h'.length := Nat.lt_of_lt_of_le hl F.1
  have hlt : a < ty.length := by rw [T.1]; exact hl
  have ht : ty[a]? = some ty[a] := List.getElem?_eq_getElem hlt
  have he' : h'[a]? = some h'[a] := List.getElem?_eq_getElem hl2
  refine ⟨a, h'[a], i, v, k1, he', k3, ?_, k5⟩
  rw [F.2 a ty[a] e h'[a] ht k2 he' i (fun hin => ?_)]
  · exact k4
  · obtain ⟨x, hx, x1, x2, x3⟩ := hin
    rcases zkp_ok E (List.all_eq_true.mp hm2 x hx) k1 k3 with z | z
    · exact z ty[a] ht ⟨by omega, by omega⟩
    · exact z ⟨x2, x3⟩
noncomputable def zpick (env : List zEn) (cts : List zCt) (own : Nat) (as : List Nat) : List Nat → Option zCt
  | [] => none
  | c :: cs => match cts[c]? with
    | some c' => if c < own ∧ zles env as (zcA c') = true then some c' else zpick env cts own as cs
    | none => zpick env cts own as cs
theorem zpick_ok {env : List zEn} {cts : List zCt} {own : Nat} {as : List Nat} {c' : zCt} : ∀ {l : List Nat}, zpick env cts own as l = some c' → (∃ c, c < own ∧ cts[c]? = some c') ∧ zles env as (zcA c') = true
  | [], h => by cases h
  | c :: cs, h => by
    rw [zpick] at h
    split at h
    · next c9 hc =>
      split at h
      · next hh => cases h; exact ⟨⟨c, hh.1, hc⟩, hh.2⟩
      · exact zpick_ok h
    · exact zpick_ok h
noncomputable def zt_ex (ct : zCt) (env : List zEn) (me : List zMe) (X Y : Nat) (fs : List zAf) : List Nat → Option (List zSt)
  | [] => some []
  | E :: Es => match zt_un ct env me X Y E fs, zt_ex ct env me X Y fs Es with
    | some a, some b => some (a ++ b)
    | _, _ => none
theorem zt_ex_at {ct : zCt} {env : List zEn} {me : List zMe} {X Y : Nat} {fs : List zAf} {E : Nat} : ∀ {Es : List Nat} {l : List zSt}, zt_ex ct env me X Y fs Es = some l → E ∈ Es → ∃ l', zt_un ct env me X Y E fs = some l' ∧ ∀ s ∈ l', s ∈ l
  | [], _, _, h => by cases h
  | E0 :: Es, l, h, hE => by
    rw [zt_ex] at h
    split at h
    case h_2 => cases h
    next a b ha hb =>
    cases h
    rcases List.mem_cons.mp hE with rfl | hE
    · exact ⟨a, ha, fun s hs => List.mem_append_left _ hs⟩
    · obtain ⟨l', h1, h2⟩ := zt_ex_at hb hE
      exact ⟨l', h1, fun s hs => List.mem_append_right _ (h2 s hs)⟩
noncomputable def zt_cn (c' : zCt) (env : List zEn) (me : List zMe) (j k : Nat) (loc : zLs) (rest : List Nat) (fs : List zAf) (X Y : Nat) : zSt := match zcR c' with
  | [] => (env, me, (j, k + 1, loc, rest) :: fs, X, Y)
  | a :: _ => (env ++ [(a, 0, 0)], me, (j, k + 1, loc, env.length :: rest) :: fs, X, Y)
noncomputable def zt_cw (cts : List zCt) (cand : List (List Nat)) (own : Nat) (ct : zCt) (a : Nat) (env : List zEn) (me : List zMe) (j k : Nat) (loc : zLs) (as rest : List Nat) (fs : List zAf) (X Y : Nat) : Option (List zSt) := match z_ms[a]? with
  | none => none
  | some M' => if zct env as ≤ M'.2.2.2.1 ∧ zct env rest ≤ 8 ∧ 1 ≤ zcD ct - fs.length then (match zpick env cts own as (cand.getD a []) with
    | some c' => if zcJ c' = a ∧ zcD c' + 1 ≤ zcD ct - fs.length ∧ (zcM c').all (fun m => zcv (zcM ct) m.1 m.2.1 m.2.2) = true then (match zt_ex ct env (me.filter (zkps env (zcM c'))) (X + (zcK c').2.2.1) (Y + (zcK c').2.2.2) ((j, k, loc, rest) :: fs) (zcE c') with
      | some ls => some (zt_cn c' env (me.filter (zkps env (zcM c'))) j k loc rest fs (X + (zcK c').1) (Y + (zcK c').2.1) :: ls)
      | none => none) else none
    | none => some [(env, me, (a, 0, zargs env 0 as, []) :: (j, k, loc, rest) :: fs, X, Y)]) else none
section ZCALL
variable {tt : Nat → zTy} {Ex : List Nat → zH → Prop} {cts : List zCt} {cand : List (List Nat)} {own : Nat} {ct : zCt} {ty0 : List Nat} {h0 : zH} {ρ0 : List Value} {sx : zX} {d0 : Nat} {j k : Nat} {loc : zLs} {stk : List Nat} {fs : List zAf} {X9 Y9 X Y : Nat} {env : List zEn} {me : List zMe} {lo : zL} {st : List Value} {cfs : List zCf} {h : zH} {ty : List Nat} {ρ : List Value} {M : zMi} {cs : List zI} {hs : List zHd} {i : zI} {l : List zSt} {Φ : zO → zH → Nat → Nat → Prop}
theorem zt_cw_ok {as rest : List Nat} {asv restv : List Value} (hd : zcD ct ≤ d0) (hcts : ∀ c, c < own → ∀ c', cts[c]? = some c' → zVd tt Ex c') (hM : z_ms[j]? = some M) (hC : z_cs[j]? = some cs) (hH : z_hs[j]? = some hs) (hi : cs[k]? = some i) (hop : i.1 = 54 ∨ i.1 = 55 ∨ i.1 = 72) (a1 : zRx ρ0 ρ) (a2 : zExt ty0 ty) (a3 : zTY tt ty h) (a4 : Ex ty h) (a5 : zFm (zcM ct) ty0 h0 h) (a6 : zEv ty ρ env) (a7 : zMm h ρ me) (a8 : zLo ρ loc lo) (a10 : zFs ρ fs cfs) (a11 : X ≤ X9) (a12 : Y ≤ Y9)
    (b1 : zSk ρ as asv) (b2 : zSk ρ rest restv) (hcal : ∀ M', z_ms[i.2.1]? = some M' → 1 ≤ d0 - cfs.length → z_cat restv ≤ 8 → (lg_sl asv).length ≤ M'.2.2.2.1 → z_cal i (d0 - cfs.length) st h = some (i.2.1, asv, restv))
    (hq : zt_cw cts cand own ct i.2.1 env me j k loc as rest fs X9 Y9 = some l) (hl : zTo tt Ex ct ty0 h0 ρ0 sx d0 Φ l) : zGo sx d0 Φ ((j, k, lo, st) :: cfs) h X Y := by
  unfold zt_cw at hq
  split at hq
  case h_1 => cases hq
  next M' hM' =>
  split at hq
  case isFalse => cases hq
  next hc =>
  have hlen := a10.len
  have hz := hcal M' hM' (by rw [hlen]; omega) (by rw [zct_ok a6 b2]; exact hc.2.1) (by rw [zlgl, zct_ok a6 b1]; exact hc.1)
  refine zGo.call hM hC hH hi (by omega) hz ?_
  split at hq
  · next c' hp =>
    split at hq
    case isFalse => cases hq
    next hcc =>
    split at hq
    case h_2 => cases hq
    next ls hls =>
    cases hq
    obtain ⟨⟨cn, hcn, hc9⟩, hles⟩ := zpick_ok hp
    have hv := hcts cn hcn c' hc9 sx (d0 - (cfs.length + 1)) ty h asv (by omega) a3 a4 (zles_ok a6 b1 hles)
    rw [hcc.1] at hv
    refine z_ok.imp hv (fun o h' x y hpo => ?_)
    obtain ⟨ty', p1, p2, p3, p4, p5⟩ := hpo
    have hcov : zFm (zcM ct) ty h h' := p4.mono (fun t n hin => by
      obtain ⟨m, hm, m1, m2, m3⟩ := hin
      have := zcv_ok (List.all_eq_true.mp hcc.2.2 m hm) m2 m3
      rw [← m1]
      exact this)
    have hmem : zMm h' ρ (me.filter (zkps env (zcM c'))) := zMm.call (ty' := ty') a3 a6 a7 p4
    cases o with
    | inl v =>
      obtain ⟨q1, q2, q3⟩ := p5
      refine zKx.ret hC hH hi ?_
      have hs9 := hl.2 _ List.mem_cons_self
      unfold zt_cn at hs9
      cases hret : zcR c' with
      | nil =>
        rw [hret] at q1 hs9
        cases v with
        | some w => exact q1.elim
        | none => exact hs9 _ h' (x + X) (y + Y) ⟨ty', ρ, a1, a2.tr p1, p2, p3, a5.tr a2 hcov, a6.ext p1, hmem, ⟨rfl, rfl, a8, b2, a10⟩, by show x + X ≤ X9 + (zcK c').1; omega, by show y + Y ≤ Y9 + (zcK c').2.1; omega⟩
      | cons r rs =>
        rw [hret] at q1 hs9
        cases v with
        | none => cases rs <;> exact q1.elim
        | some w =>
        have gw : zG ty' r w := by
          cases rs with
          | nil => exact q1
          | cons _ _ => exact q1.elim
        exact hs9 _ h' (x + X) (y + Y) ⟨ty', ρ ++ [w], a1.tr zRx.app, a2.tr p1, p2, p3, a5.tr a2 hcov, (a6.ext p1).push0 gw, hmem.mono zRx.app, ⟨rfl, rfl, a8.mono zRx.app, ⟨a6.new w, b2.mono zRx.app⟩, a10.mono zRx.app⟩, by show x + X ≤ X9 + (zcK c').1; omega, by show y + Y ≤ Y9 + (zcK c').2.1; omega⟩
    | inr E =>
      obtain ⟨q1, q2, q3⟩ := p5
      obtain ⟨l', g1, g2⟩ := zt_ex_at hls q1
      exact zt_un_ok (ty := ty') (X := x + X) (Y := y + Y) a1 (a2.tr p1) p2 p3 (a5.tr a2 hcov) (a6.ext p1) hmem (by omega) (by omega) ⟨hl.1, fun s hs => hl.2 s (List.mem_cons_of_mem _ (g2 s hs))⟩ ((j, k, loc, rest) :: fs) ((j, k, lo, restv) :: cfs) ⟨rfl, rfl, a8, b2, a10⟩ g1
  · cases hq
    exact hl.2 _ (List.mem_singleton.mpr rfl) _ h X Y ⟨ty, ρ, a1, a2, a3, a4, a5, a6, a7, ⟨rfl, rfl, zargs_ok a6 0 b1, trivial, rfl, rfl, a8, b2, a10⟩, a11, a12⟩
noncomputable def zt_call (tt : Nat → zTy) (cts : List zCt) (cand : List (List Nat)) (own : Nat) (ct : zCt) (i : zI) (env : List zEn) (me : List zMe) (j k : Nat) (loc : zLs) (stk : List Nat) (fs : List zAf) (X Y : Nat) : Option (List zSt) :=
  if stk.length < i.2.2.1 then none else if i.1 = 54 then (match stk.drop i.2.2.1 with
    | r :: rest => if (zav env r).1 = 2 ∧ 0 ≤ (zav env r).2.1 ∧ (ztl (zav env r).2.1 (zav env r).2.2).all (fun t => decide ((tt t).1 = 0) && decide (((tt t).2.1 : Int) = i.2.2.2)) = true then zt_cw cts cand own ct i.2.1 env me j k loc (r :: (stk.take i.2.2.1).reverse) rest fs X Y else none
    | [] => none) else if i.1 = 55 ∨ i.1 = 72 then zt_cw cts cand own ct i.2.1 env me j k loc (stk.take i.2.2.1).reverse (stk.drop i.2.2.1) fs X Y else none
theorem z_cal0_54 {i : zI} {d : Nat} {st : List Value} {h : zH} (hi : i.1 = 54) : z_cal0 i d st h = if d = 0 ∨ st.length < i.2.2.1 then none else (match st.drop i.2.2.1 with
    | .ref r :: rest => (match h[r]? with
      | some (.inr (c, _)) => if (c : Int) = i.2.2.2 ∧ z_cat rest ≤ 8 then some (i.2.1, .ref r :: (st.take i.2.2.1).reverse, rest) else none
      | _ => none)
    | _ => none) := by
  unfold z_cal0
  rw [hi]
  all_goals rfl
theorem z_cal0_55 {i : zI} {d : Nat} {st : List Value} {h : zH} (hi : i.1 = 55 ∨ i.1 = 72) : z_cal0 i d st h = if d = 0 ∨ st.length < i.2.2.1 then none else if z_cat (st.drop i.2.2.1) ≤ 8 then some (i.2.1, (st.take i.2.2.1).reverse, st.drop i.2.2.1) else none := by
  unfold z_cal0
  rcases hi with hi | hi <;> rw [hi]
  all_goals rfl
theorem zt_call_ok (hd : zcD ct ≤ d0) (hcts : ∀ c, c < own → ∀ c', cts[c]? = some c' → zVd tt Ex c') (hM : z_ms[j]? = some M) (hC : z_cs[j]? = some cs) (hH : z_hs[j]? = some hs) (hi : cs[k]? = some i) (a1 : zRx ρ0 ρ) (a2 : zExt ty0 ty) (a3 : zTY tt ty h) (a4 : Ex ty h) (a5 : zFm (zcM ct) ty0 h0 h) (a6 : zEv ty ρ env) (a7 : zMm h ρ me) (a8 : zLo ρ loc lo) (a9 : zSk ρ stk st) (a10 : zFs ρ fs cfs) (a11 : X ≤ X9) (a12 : Y ≤ Y9)
    (hq : zt_call tt cts cand own ct i env me j k loc stk fs X9 Y9 = some l) (hl : zTo tt Ex ct ty0 h0 ρ0 sx d0 Φ l) : zGo sx d0 Φ ((j, k, lo, st) :: cfs) h X Y := by
  unfold zt_call at hq
  split at hq
  case isTrue => cases hq
  next hlen =>
  have hsl := a9.len
  split at hq
  · next h54 =>
    split at hq
    case h_2 => cases hq
    next r rest hdr =>
    split at hq
    case isFalse => cases hq
    next hc =>
    have hdrop := a9.drop i.2.2.1
    rw [hdr] at hdrop
    cases hdv : st.drop i.2.2.1 with
    | nil => rw [hdv] at hdrop; exact hdrop.elim
    | cons vr restv =>
    rw [hdv] at hdrop
    obtain ⟨ad, t, rfl, ht, t1, t2⟩ := zG2 (a6.at hdrop.1) hc.1
    have hl0 : ad < h.length := by rw [← a3.1]; exact (List.getElem?_eq_some_iff.mp ht).1
    have he : h[ad]? = some h[ad] := List.getElem?_eq_getElem hl0
    have hty := List.all_eq_true.mp hc.2.2 t (ztl_mem hc.2.1 t1 t2)
    rw [Bool.and_eq_true, decide_eq_true_eq, decide_eq_true_eq] at hty
    obtain ⟨fs9, hfs, -⟩ := zsh0 (a3.2.2 ad t _ ht he).1 hty.1
    refine zt_cw_ok (as := r :: (stk.take i.2.2.1).reverse) (asv := .ref ad :: (st.take i.2.2.1).reverse) (restv := restv) hd hcts hM hC hH hi (Or.inl h54) a1 a2 a3 a4 a5 a6 a7 a8 a10 a11 a12 ⟨hdrop.1, (a9.take i.2.2.1).rev⟩ hdrop.2 (fun M' hM' c1 c2 c3 => ?_) hq hl
    unfold z_cal
    have hcal0 : z_cal0 i (d0 - cfs.length) st h = some (i.2.1, .ref ad :: (st.take i.2.2.1).reverse, restv) := by
      rw [z_cal0_54 h54, if_neg (by omega), hdv]
      dsimp only
      rw [he, hfs]
      exact if_pos ⟨hty.2, c2⟩
    rw [hcal0]
    dsimp only
    rw [hM']
    exact if_pos c3
  · split at hq
    case isFalse => cases hq
    next h55 =>
    refine zt_cw_ok (asv := (st.take i.2.2.1).reverse) (restv := st.drop i.2.2.1) hd hcts hM hC hH hi (Or.inr h55) a1 a2 a3 a4 a5 a6 a7 a8 a10 a11 a12 (a9.take i.2.2.1).rev (a9.drop i.2.2.1) (fun M' hM' c1 c2 c3 => ?_) hq hl
    unfold z_cal
    have hcal0 : z_cal0 i (d0 - cfs.length) st h = some (i.2.1, (st.take i.2.2.1).reverse, st.drop i.2.2.1) := by
      rw [z_cal0_55 h55, if_neg (by omega)]
      exact if_pos c2
    rw [hcal0]
    dsimp only
    rw [hM']
    exact if_pos c3
/-! one step of the checker -/
noncomputable def zstep (tt : Nat → zTy) (cts : List zCt) (cand : List (List Nat)) (own : Nat) (ct : zCt) (s : zSt) : Option (List zSt) := match s.2.2.1 with
  | [] => none
  | f :: fs => match z_ms[f.1]?, z_cs[f.1]?, z_hs[f.1]? with
    | some M, some cs, some _ => (match cs[f.2.1]? with
      | none => none
      | some i => if i.1 = 54 ∨ i.1 = 55 ∨ i.1 = 72 then zt_call tt cts cand own ct i s.1 s.2.1 f.1 f.2.1 f.2.2.1 f.2.2.2 fs s.2.2.2.1 s.2.2.2.2
        else if 30 ≤ i.1 ∧ i.1 ≤ 33 then zt_if i s.1 s.2.1 f.1 f.2.1 f.2.2.1 f.2.2.2 fs s.2.2.2.1 s.2.2.2.2
        else if i.1 = 35 ∨ i.1 = 36 then zt_sw i s.1 s.2.1 f.1 f.2.2.1 f.2.2.2 fs s.2.2.2.1 s.2.2.2.2
        else if 50 ≤ i.1 ∧ i.1 ≤ 53 then zt_ret ct M i s.1 s.2.1 f.2.2.2 fs s.2.2.2.1 s.2.2.2.2
        else if i.1 = 62 then zt_thr ct i s.1 s.2.1 f.2.2.2 fs s.2.2.2.1 s.2.2.2.2
        else zt_op tt ct i s.1 s.2.1 f.1 f.2.1 f.2.2.1 f.2.2.2 fs s.2.2.2.1 s.2.2.2.2)
    | _, _, _ => none
theorem zstep_ok {s : zSt} {cf : List zCf} (hst : zStable tt Ex (zcM ct)) (hd : zcD ct ≤ d0) (hcts : ∀ c, c < own → ∀ c', cts[c]? = some c' → zVd tt Ex c') (R : zRl tt Ex ct ty0 h0 ρ0 s cf h X Y) (hq : zstep tt cts cand own ct s = some l) (hl : zTo tt Ex ct ty0 h0 ρ0 sx d0 Φ l) : zGo sx d0 Φ cf h X Y := by
  obtain ⟨ty, ρ, a1, a2, a3, a4, a5, a6, a7, a10, a11, a12⟩ := R
  unfold zstep at hq
  split at hq
  case h_1 => cases hq
  next f fs hfr =>
  rw [hfr] at a10
  match cf, a10 with
  | (j, k, lo, st) :: cfs, a10 =>
  obtain ⟨b1, b2, a8, a9, a10⟩ := a10
  dsimp only at b1 b2 a8 a9
  rw [b1, b2] at hq
  split at hq
  case h_2 => cases hq
  next M cs hs hM hC hH =>
  split at hq
  case h_1 => cases hq
  next i hi =>
  split at hq
  · exact zt_call_ok hd hcts hM hC hH hi a1 a2 a3 a4 a5 a6 a7 a8 a9 a10 a11 a12 hq hl
  · split at hq
    · exact zt_if_ok hM hC hH hi a1 a2 a3 a4 a5 a6 a7 a8 a9 a10 a11 a12 hq hl
    · split at hq
      · exact zt_sw_ok hM hC hH hi a1 a2 a3 a4 a5 a6 a7 a8 a9 a10 a11 a12 hq hl
      · split at hq
        · exact zt_ret_ok hM hC hH hi a1 a2 a3 a4 a5 a6 a7 a9 a10 a11 a12 hq hl
        · split at hq
          · exact zt_thr_ok hd hM hC hH hi a1 a2 a3 a4 a5 a6 a7 a9 a10 a11 a12 hq hl
          · exact zt_op_ok hst hd hM hC hH hi a1 a2 a3 a4 a5 a6 a7 a8 a9 a10 a11 a12 hq hl
end ZCALL
end
section
/-! cut points: what holds there, and that something falls -/
abbrev zRk : Type := Nat × Nat × Int × Int
noncomputable def zc_env (c : zCut) : List zEn := c.2.1.map (fun p => (p.2, 0, 0)) ++ c.2.2.1.map (fun m => (m.2.2, 0, 0))
noncomputable def zc_loc0 : Nat → List (Nat × zA) → zLs
  | _, [] => []
  | n, p :: ps => (p.1, n) :: zc_loc0 (n + 1) ps
noncomputable def zc_loc (c : zCut) : zLs := zc_loc0 0 c.2.1
noncomputable def zc_me0 (loc : zLs) : Nat → List (Nat × Int × zA) → List zMe
  | _, [] => []
  | n, m :: ms => (match zlk loc m.1 with
    | some r => (r, 0, m.2.1, n) :: zc_me0 loc (n + 1) ms
    | none => zc_me0 loc (n + 1) ms)
noncomputable def zc_me (c : zCut) : List zMe := zc_me0 (zc_loc c) c.2.1.length c.2.2.1
noncomputable def zVl (ty : List Nat) (lo : zL) : List (Nat × zA) → List Value → Prop
  | [], [] => True
  | p :: ps, v :: vs => z_get lo p.1 = some v ∧ zG ty p.2 v ∧ zVl ty lo ps vs
  | _, _ => False
noncomputable def zVm (ty : List Nat) (lo : zL) (h : zH) : List (Nat × Int × zA) → List Value → Prop
  | [], [] => True
  | m :: ms, v :: vs => (∃ (a : Nat) (e : zE) (i : Nat), z_get lo m.1 = some (.ref a) ∧ h[a]? = some e ∧ m.2.1 = (i : Int) ∧ z_rd e i = some v) ∧ zG ty m.2.2 v ∧ zVm ty lo h ms vs
  | _, _ => False
theorem zVl.len {ty : List Nat} {lo : zL} : ∀ {ps : List (Nat × zA)} {vs : List Value}, zVl ty lo ps vs → vs.length = ps.length
  | [], [], _ => rfl
  | _ :: _, _ :: _, h => by rw [List.length_cons, List.length_cons, zVl.len h.2.2]
theorem zVm.len {ty : List Nat} {lo : zL} {h : zH} : ∀ {ps : List (Nat × Int × zA)} {vs : List Value}, zVm ty lo h ps vs → vs.length = ps.length
  | [], [], _ => rfl
  | _ :: _, _ :: _, h => by rw [List.length_cons, List.length_cons, zVm.len h.2.2]
theorem zc_ev1 {ty : List Nat} {ρ : List Value} {env : List zEn} : ∀ {vs : List Value} {es : List zEn}, vs.length = es.length → (∀ (i : Nat) (v : Value) (e : zEn), vs[i]? = some v → es[i]? = some e → zG ty e.1 v ∧ e.2.1 = 0) → zEv ty ρ env → zEv ty (ρ ++ vs) (env ++ es)
  | [], [], _, _, E => by rw [List.append_nil, List.append_nil]; exact E
  | [], _ :: _, h, _, _ => by cases h
  | _ :: _, [], h, _, _ => by cases h
  | v :: vs, e :: es, hl, hg, E => by
    have h0 := hg 0 v e rfl rfl
    have E1 := E.push (e := e) (v := v) h0.1 (fun b hb => by rw [h0.2] at hb; cases hb)
    have := zc_ev1 (vs := vs) (es := es) (by simpa using hl) (fun i w f hi hf => hg (i + 1) w f (by simpa using hi) (by simpa using hf)) E1
    rw [List.append_assoc, List.append_assoc] at this
    exact this
theorem zVl.at {ty : List Nat} {lo : zL} : ∀ {ps : List (Nat × zA)} {vs : List Value}, zVl ty lo ps vs → ∀ (i : Nat) (v : Value) (p : Nat × zA), vs[i]? = some v → ps[i]? = some p → z_get lo p.1 = some v ∧ zG ty p.2 v
  | [], [], _, i, v, p, h, _ => by simp at h
  | p0 :: ps, v0 :: vs, H, 0, v, p, h1, h2 => by
    simp only [List.getElem?_cons_zero, Option.some.injEq] at h1 h2
    subst h1; subst h2
    exact ⟨H.1, H.2.1⟩
  | p0 :: ps, v0 :: vs, H, i + 1, v, p, h1, h2 => zVl.at H.2.2 i v p (by simpa using h1) (by simpa using h2)
theorem zVm.at {ty : List Nat} {lo : zL} {h : zH} : ∀ {ps : List (Nat × Int × zA)} {vs : List Value}, zVm ty lo h ps vs → ∀ (i : Nat) (v : Value) (p : Nat × Int × zA), vs[i]? = some v → ps[i]? = some p → zG ty p.2.2 v
  | [], [], _, i, v, p, h, _ => by simp at h
  | p0 :: ps, v0 :: vs, H, 0, v, p, h1, h2 => by
    simp only [List.getElem?_cons_zero, Option.some.injEq] at h1 h2
    subst h1; subst h2
    exact H.2.1
  | p0 :: ps, v0 :: vs, H, i + 1, v, p, h1, h2 => zVm.at H.2.2 i v p (by simpa using h1) (by simpa using h2)
theorem zc_ev {ty : List Nat} {lo : zL} {h : zH} {c : zCut} {vl vm : List Value} (H1 : zVl ty lo c.2.1 vl) (H2 : zVm ty lo h c.2.2.1 vm) : zEv ty (vl ++ vm) (zc_env c) := by
  have E0 : zEv ty [] [] := ⟨rfl, fun i e v h => by simp at h⟩
  have E1 := zc_ev1 (ty := ty) (ρ := []) (env := []) (vs := vl) (es := c.2.1.map (fun p => (p.2, 0, 0))) (by rw [List.length_map]; exact H1.len) (fun i v e hi he => by
    rw [List.getElem?_map] at he
    cases hp : c.2.1[i]? with
    | none => rw [hp] at he; cases he
    | some p =>
      rw [hp] at he
      cases he
      exact ⟨(H1.at i v p hi hp).2, rfl⟩) E0
  exact zc_ev1 (vs := vm) (es := c.2.2.1.map (fun m => (m.2.2, 0, 0))) (by rw [List.length_map]; exact H2.len) (fun i v e hi he => by
    rw [List.getElem?_map] at he
    cases hp : c.2.2.1[i]? with
    | none => rw [hp] at he; cases he
    | some p =>
      rw [hp] at he
      cases he
      exact ⟨H2.at i v p hi hp, rfl⟩) E1
theorem zc_lo0 {ty : List Nat} {ρ : List Value} {lo : zL} : ∀ {n : Nat} {ps : List (Nat × zA)} {vs : List Value}, zVl ty lo ps vs → (∀ (i : Nat) (v : Value), vs[i]? = some v → ρ[n + i]? = some v) → zLo ρ (zc_loc0 n ps) lo
  | _, [], [], _, _ => fun p hp => by cases hp
  | n, p0 :: ps, v0 :: vs, H, hρ => by
    intro p hp
    rcases List.mem_cons.mp hp with rfl | hp
    · exact ⟨v0, hρ 0 v0 rfl, H.1⟩
    · exact zc_lo0 H.2.2 (fun i v hi => by rw [show n + 1 + i = n + (i + 1) by omega]; exact hρ (i + 1) v (by simpa using hi)) p hp
theorem zc_mm0 {ty : List Nat} {ρ : List Value} {lo : zL} {h : zH} {loc : zLs} (L : zLo ρ loc lo) : ∀ {n : Nat} {ps : List (Nat × Int × zA)} {vs : List Value}, zVm ty lo h ps vs → (∀ (i : Nat) (v : Value), vs[i]? = some v → ρ[n + i]? = some v) → zMm h ρ (zc_me0 loc n ps)
  | _, [], [], _, _ => fun p hp => by cases hp
  | n, p0 :: ps, v0 :: vs, H, hρ => by
    have ih := zc_mm0 L (n := n + 1) H.2.2 (fun i v hi => by rw [show n + 1 + i = n + (i + 1) by omega]; exact hρ (i + 1) v (by simpa using hi))
    rw [zc_me0]
    split
    · next r hr =>
      intro m hm
      rcases List.mem_cons.mp hm with rfl | hm
      · obtain ⟨a, e, i, h1, h2, h3, h4⟩ := H.1
        obtain ⟨w, w1, w2⟩ := zlk_ok L hr
        rw [h1] at w2
        cases w2
        exact ⟨a, e, i, v0, w1, h2, h3, h4, hρ 0 v0 rfl⟩
      · exact ih m hm
    · exact ih
theorem zc_lo {ty : List Nat} {lo : zL} {c : zCut} {vl vm : List Value} (H1 : zVl ty lo c.2.1 vl) : zLo (vl ++ vm) (zc_loc c) lo := zc_lo0 H1 (fun i v hi => by rw [Nat.zero_add]; exact zRx.app i v hi)
theorem zc_mm {ty : List Nat} {lo : zL} {h : zH} {c : zCut} {vl vm : List Value} (H1 : zVl ty lo c.2.1 vl) (H2 : zVm ty lo h c.2.2.1 vm) : zMm h (vl ++ vm) (zc_me c) := zc_mm0 (zc_lo H1) H2 (fun i v hi => by
  rw [← H1.len, List.getElem?_append_right (by omega), Nat.add_sub_cancel_left]; exact hi)
/-! arriving -/
noncomputable def za_l (env : List zEn) (loc : zLs) : List (Nat × zA) → Bool
  | [] => true
  | p :: ps => (match zlk loc p.1 with
    | some i => zLe (zav env i) p.2
    | none => false) && za_l env loc ps
theorem za_l_ok {ty : List Nat} {ρ : List Value} {env : List zEn} {loc : zLs} {lo : zL} (E : zEv ty ρ env) (L : zLo ρ loc lo) : ∀ {ps : List (Nat × zA)}, za_l env loc ps = true → ∃ vl, zVl ty lo ps vl
  | [], _ => ⟨[], trivial⟩
  | p :: ps, h => by
    rw [za_l, Bool.and_eq_true] at h
    obtain ⟨vl, hv⟩ := za_l_ok E L h.2
    have h1 := h.1
    split at h1
    · next i hi =>
      obtain ⟨v, v1, v2⟩ := zlk_ok L hi
      exact ⟨v :: vl, v2, zLe_ok h1 (E.at v1), hv⟩
    · cases h1
noncomputable def za_m (tt : Nat → zTy) (env : List zEn) (me : List zMe) (loc : zLs) : List (Nat × Int × zA) → Bool
  | [] => true
  | m :: ms => (match zlk loc m.1 with
    | some r => (match zml me r 0 m.2.1 with
      | some v => zLe (zav env v) m.2.2
      | none => decide ((zav env r).1 = 2) && (decide ((zav env r).2.1 = (zav env r).2.2) && (decide (0 ≤ (zav env r).2.1) && (match zone tt 0 (tt (zav env r).2.1.toNat).2.1 m.2.1 m.2.1 (zav env r).2.1.toNat with
        | some a => zLe a m.2.2
        | none => false))))
    | none => false) && za_m tt env me loc ms
theorem za_m_ok {tt : Nat → zTy} {ty : List Nat} {ρ : List Value} {env : List zEn} {me : List zMe} {loc : zLs} {lo : zL} {h : zH} (T : zTY tt ty h) (E : zEv ty ρ env) (Mm : zMm h ρ me) (L : zLo ρ loc lo) : ∀ {ps : List (Nat × Int × zA)}, za_m tt env me loc ps = true → ∃ vm, zVm ty lo h ps vm
  | [], _ => ⟨[], trivial⟩
  | m :: ms, hq => by
    rw [za_m, Bool.and_eq_true] at hq
    obtain ⟨vm, hv⟩ := za_m_ok T E Mm L hq.2
    have h1 := hq.1
    split at h1
    case h_2 => cases h1
    next r hr =>
    obtain ⟨vr, r1, r2⟩ := zlk_ok L hr
    split at h1
    · next v hml =>
      obtain ⟨a, e, i, w, k1, k2, k3, k4, k5⟩ := Mm _ (zml_ok hml)
      dsimp only at k1 k3 k5
      rw [r1] at k1
      cases k1
      exact ⟨w :: vm, ⟨a, e, i, r2, k2, k3, k4⟩, zLe_ok h1 (E.at k5), hv⟩
    · rw [Bool.and_eq_true, Bool.and_eq_true, Bool.and_eq_true, decide_eq_true_eq, decide_eq_true_eq, decide_eq_true_eq] at h1
      obtain ⟨c1, c2, c3, c4⟩ := h1
      obtain ⟨a, t, rfl, ht, t1, t2⟩ := zG2 (E.at r1) c1
      have et : (zav env r).2.1.toNat = t := by omega
      rw [et] at c4
      split at c4
      case h_2 => cases c4
      next a9 hz =>
      unfold zone at hz
      split at hz
      case isFalse => cases hz
      next hz2 =>
      have hl : a < h.length := by rw [← T.1]; exact (List.getElem?_eq_some_iff.mp ht).1
      have he : h[a]? = some h[a] := List.getElem?_eq_getElem hl
      obtain ⟨sh, vals⟩ := T.2.2 a t h[a] ht he
      have hi : m.2.1 = ((m.2.1.toNat : Nat) : Int) := by omega
      obtain ⟨v, hv9⟩ := zsh_rd (i := m.2.1.toNat) sh (by omega) (by rw [hz2.1]; decide)
      obtain ⟨rg, m1, m2, m3, m4⟩ := zrg_ok _ _ _ _ hz m.2.1 (Int.le_refl _) (Int.le_refl _)
      exact ⟨v :: vm, ⟨a, h[a], m.2.1.toNat, r2, he, hi, hv9⟩, zLe_ok c4 (m4 ty v (vals _ v hv9 rg m1 (by omega) (by omega))), hv⟩
/-! what falls -/
noncomputable def zcv2 (lo : zL) (h : zH) (r : zRk) : Int := if r.1 ≤ 2 then (match z_get lo r.2.1 with
    | some (.int x) => x.toInt
    | _ => 0) else (match z_get lo r.2.1 with
    | some (.ref a) => (match h[a]? with
      | some e => (match z_rd e r.2.2.1.toNat with
        | some (.int x) => x.toInt
        | _ => 0)
      | none => 0)
    | _ => 0)
noncomputable def zmc (lo : zL) (h : zH) (r : zRk) : Nat := if r.1 = 0 then r.2.2.2.toNat else if r.1 = 1 ∨ r.1 = 3 then (r.2.2.2 - zcv2 lo h r).toNat else (zcv2 lo h r - r.2.2.2).toNat
noncomputable def zvid (loc : zLs) (me : List zMe) (r : zRk) : Option Nat := if r.1 ≤ 2 then zlk loc r.2.1 else (match zlk loc r.2.1 with
  | some q => zml me q 0 r.2.2.1
  | none => none)
theorem zvid_ok {ρ : List Value} {loc : zLs} {me : List zMe} {lo : zL} {h : zH} {r : zRk} {i : Nat} {x : Int32} (L : zLo ρ loc lo) (Mm : zMm h ρ me) (hv : zvid loc me r = some i) (hx : ρ[i]? = some (.int x)) : zcv2 lo h r = x.toInt := by
  unfold zvid at hv
  unfold zcv2
  split at hv
  · next h2 =>
    rw [if_pos h2]
    obtain ⟨v, v1, v2⟩ := zlk_ok L hv
    rw [hx] at v1
    cases v1
    rw [v2]
  · next h2 =>
    rw [if_neg h2]
    split at hv
    case h_2 => cases hv
    next q hq =>
    obtain ⟨v, v1, v2⟩ := zlk_ok L hq
    obtain ⟨a, e, n, w, k1, k2, k3, k4, k5⟩ := Mm _ (zml_ok hv)
    dsimp only at k1 k3 k5
    rw [v1] at k1
    cases k1
    rw [hx] at k5
    cases k5
    have e9 : r.2.2.1 = (n : Int) := k3
    rw [v2]
    dsimp only
    rw [k2]
    dsimp only
    rw [show r.2.2.1.toNat = n by omega, k4]
noncomputable def zdel (env : List zEn) (a b : Nat) : Option Int := if a = b then some 0 else (match env[b]? with
  | some e => if e.2.1 = a + 1 then some e.2.2 else none
  | none => none)
theorem zdel_ok {ty : List Nat} {ρ : List Value} {env : List zEn} {a b : Nat} {δ : Int} {x : Int32} (E : zEv ty ρ env) (hx : ρ[b]? = some (.int x)) (h : zdel env a b = some δ) : ∃ y : Int32, ρ[a]? = some (.int y) ∧ x.toInt = y.toInt + δ := by
  unfold zdel at h
  split at h
  · next e => cases h; subst e; exact ⟨x, hx, by omega⟩
  · split at h
    · next e he =>
      split at h
      · next hb =>
        cases h
        obtain ⟨x9, y, q1, q2, q3⟩ := (E.2 b e _ he hx).2 a hb
        cases q1
        exact ⟨y, q2, q3⟩
      · cases h
    · cases h
noncomputable def zrk (env : List zEn) (loc : zLs) (me : List zMe) (sloc : zLs) (sme : List zMe) : List zRk → List zRk → Bool
  | s :: ss, t :: ts => if s.1 = 0 ∧ t.1 = 0 then decide (0 ≤ t.2.2.2) && (decide (t.2.2.2 < s.2.2.2) || (decide (t.2.2.2 = s.2.2.2) && zrk env loc me sloc sme ss ts))
    else if s = t then (match zvid sloc sme s, zvid loc me t with
      | some a, some b => decide ((zav env b).1 = 0) && (match zdel env a b with
        | some δ => if s.1 = 1 ∨ s.1 = 3 then (decide (0 < δ) && decide ((zav env b).2.2 ≤ t.2.2.2)) || (decide (δ = 0) && zrk env loc me sloc sme ss ts) else (decide (δ < 0) && decide (t.2.2.2 ≤ (zav env b).2.1)) || (decide (δ = 0) && zrk env loc me sloc sme ss ts)
        | none => false)
      | _, _ => false) else false
  | _, _ => false
noncomputable def zlex : List Nat → List Nat → Prop
  | a :: as, b :: bs => a < b ∨ (a = b ∧ zlex as bs)
  | _, _ => False
theorem zlex_ind : ∀ (n : Nat) (P : List Nat → Prop), (∀ l, l.length = n → (∀ l', l'.length = n → zlex l' l → P l') → P l) → ∀ l, l.length = n → P l
  | 0, P, H, l, hl => H l hl (fun l' hl' h => by
    have : l' = [] := List.length_eq_zero_iff.mp hl'
    subst this
    cases h)
  | n + 1, P, H, l, hl => by
    have key : ∀ a, ∀ t : List Nat, t.length = n → P (a :: t) := by
      intro a
      induction a using Nat.strongRecOn with
      | ind a iha =>
        refine zlex_ind n (fun t => P (a :: t)) (fun t ht iht => ?_)
        refine H (a :: t) (by rw [List.length_cons, ht]) (fun l' hl' hlt => ?_)
        match l', hl', hlt with
        | b :: u, hl2, hlt2 =>
          have hu : u.length = n := by simpa using hl2
          rcases hlt2 with q | ⟨q1, q2⟩
          · exact iha b q u hu
          · rw [q1]; exact iht u hu q2
    match l, hl with
    | a :: t, hl => exact key a t (by simpa using hl)
theorem zrk_ok {ty : List Nat} {ρ ρ1 : List Value} {env : List zEn} {loc sloc : zLs} {me sme : List zMe} {lo lo1 : zL} {h h1 : zH} (E : zEv ty ρ env) (L : zLo ρ loc lo) (Mm : zMm h ρ me) (hx : zRx ρ1 ρ) (L1 : zLo ρ1 sloc lo1) (M1 : zMm h1 ρ1 sme) : ∀ {ss ts : List zRk}, (∀ s ∈ ss, ∀ a, zvid sloc sme s = some a → a < ρ1.length) → zrk env loc me sloc sme ss ts = true → zlex (ts.map (zmc lo h)) (ss.map (zmc lo1 h1))
  | [], ts, _, hq => by cases ts <;> cases hq
  | _ :: _, [], _, hq => by cases hq
  | s :: ss, t :: ts, hb, hq => by
    rw [zrk] at hq
    rw [List.map_cons, List.map_cons]
    split at hq
    · next h0 =>
      rw [Bool.and_eq_true, Bool.or_eq_true, Bool.and_eq_true, decide_eq_true_eq, decide_eq_true_eq, decide_eq_true_eq] at hq
      have e1 : zmc lo h t = t.2.2.2.toNat := by unfold zmc; rw [if_pos h0.2]
      have e2 : zmc lo1 h1 s = s.2.2.2.toNat := by unfold zmc; rw [if_pos h0.1]
      rcases hq.2 with q | ⟨q1, q2⟩
      · exact Or.inl (by rw [e1, e2]; omega)
      · exact Or.inr ⟨by rw [e1, e2, q1], zrk_ok E L Mm hx L1 M1 (fun s9 hs9 => hb s9 (List.mem_cons_of_mem _ hs9)) q2⟩
    · next h0 =>
      split at hq
      case isFalse => cases hq
      next hst =>
      subst hst
      have hs0 : s.1 ≠ 0 := fun e => h0 ⟨e, e⟩
      split at hq
      case h_2 => cases hq
      next a b ha hb9 =>
      rw [Bool.and_eq_true, decide_eq_true_eq] at hq
      obtain ⟨hz, hq⟩ := hq
      split at hq
      case h_2 => cases hq
      next δ hδ =>
      have hlt := hb s List.mem_cons_self a ha
      -- the value at the end
      obtain ⟨w, hw⟩ : ∃ w, ρ[b]? = some w := by
        unfold zvid at hb9
        split at hb9
        · obtain ⟨v, v1, -⟩ := zlk_ok L hb9; exact ⟨v, v1⟩
        · split at hb9
          · obtain ⟨a9, e9, n9, w9, -, -, -, -, k5⟩ := Mm _ (zml_ok hb9); exact ⟨w9, k5⟩
          · cases hb9
      obtain ⟨x, rfl, x1, x2⟩ := zG0 (E.at hw) hz
      obtain ⟨y, y1, y2⟩ := zdel_ok E hw hδ
      have y3 : ρ1[a]? = some (.int y) := by
        have := hx a ρ1[a] (List.getElem?_eq_getElem hlt)
        rw [y1] at this
        rw [List.getElem?_eq_getElem hlt, ← Option.some.inj this]
      have v1 := zvid_ok L Mm hb9 hw
      have v2 := zvid_ok L1 M1 ha y3
      have ih := fun q2 => zrk_ok E L Mm hx L1 M1 (ss := ss) (ts := ts) (fun s9 hs9 => hb s9 (List.mem_cons_of_mem _ hs9)) q2
      by_cases hup : s.1 = 1 ∨ s.1 = 3
      · rw [if_pos hup, Bool.or_eq_true, Bool.and_eq_true, Bool.and_eq_true, decide_eq_true_eq, decide_eq_true_eq, decide_eq_true_eq] at hq
        have e1 : zmc lo h s = (s.2.2.2 - x.toInt).toNat := by unfold zmc; rw [if_neg hs0, if_pos hup, v1]
        have e2 : zmc lo1 h1 s = (s.2.2.2 - y.toInt).toNat := by unfold zmc; rw [if_neg hs0, if_pos hup, v2]
        rcases hq with ⟨q1, q2⟩ | ⟨q1, q2⟩
        · exact Or.inl (by rw [e1, e2]; omega)
        · exact Or.inr ⟨by rw [e1, e2]; omega, ih q2⟩
      · rw [if_neg hup, Bool.or_eq_true, Bool.and_eq_true, Bool.and_eq_true, decide_eq_true_eq, decide_eq_true_eq, decide_eq_true_eq] at hq
        have e1 : zmc lo h s = (x.toInt - s.2.2.2).toNat := by unfold zmc; rw [if_neg hs0, if_neg hup, v1]
        have e2 : zmc lo1 h1 s = (y.toInt - s.2.2.2).toNat := by unfold zmc; rw [if_neg hs0, if_neg hup, v2]
        rcases hq with ⟨q1, q2⟩ | ⟨q1, q2⟩
        · exact Or.inl (by rw [e1, e2]; omega)
        · exact Or.inr ⟨by rw [e1, e2]; omega, ih q2⟩
end
section
/-! THE CHECKER, and that a contract it passes holds -/
noncomputable def zat (ct : zCt) (s : zSt) : Bool := match s.2.2.1 with
  | [f] => (zcC ct).any (fun c => c.1 == f.2.1)
  | _ => false
noncomputable def zhit1 (tt : Nat → zTy) (ct : zCt) (src : Option zCut) (s : zSt) (f : zAf) (c : zCut) : Bool := decide (c.1 = f.2.1) && (decide (f.1 = zcJ ct) && (f.2.2.2.isEmpty && (decide (s.2.2.2.1 = 0) && (decide (s.2.2.2.2 = 0) && (za_l s.1 f.2.2.1 c.2.1 && (za_m tt s.1 s.2.1 f.2.2.1 c.2.2.1 && (match src with
  | none => true
  | some sc => zrk s.1 f.2.2.1 s.2.1 (zc_loc sc) (zc_me sc) sc.2.2.2 c.2.2.2)))))))
noncomputable def zhit (tt : Nat → zTy) (ct : zCt) (src : Option zCut) (s : zSt) : Bool := match s.2.2.1 with
  | [f] => (zcC ct).any (zhit1 tt ct src s f)
  | _ => false
noncomputable def zx (tt : Nat → zTy) (cts : List zCt) (cand : List (List Nat)) (own : Nat) (ct : zCt) (src : Option zCut) : Nat → zSt → Bool
  | 0, _ => false
  | n + 1, s => match zstep tt cts cand own ct s with
    | none => false
    | some l => l.all (fun s' => if zat ct s' = true then zhit tt ct src s' else zx tt cts cand own ct src n s')
noncomputable def zc_st (ct : zCt) (c : zCut) : zSt := (zc_env c, zc_me c, [(zcJ ct, c.1, zc_loc c, [])], 0, 0)
noncomputable def zsl : Nat → List zA → List (Nat × zA)
  | _, [] => []
  | p, a :: as => (p, a) :: zsl (if a.1 = 1 then p + 2 else p + 1) as
noncomputable def zc_0 (ct : zCt) : zCut := (0, zsl 0 (zcA ct), [], [])
noncomputable def zck (tt : Nat → zTy) (cts : List zCt) (cand : List (List Nat)) (own : Nat) (ct : zCt) (N fuel : Nat) : Bool :=
  (zcC ct).all (fun c => decide (c.2.2.2.length = N)) && ((if zat ct (zc_st ct (zc_0 ct)) = true then zhit tt ct none (zc_st ct (zc_0 ct)) else zx tt cts cand own ct none fuel (zc_st ct (zc_0 ct))) && (zcC ct).all (fun c => zx tt cts cand own ct (some c) fuel (zc_st ct c)))
theorem zsl_ge : ∀ {as : List zA} {p : Nat} {q : Nat × zA}, q ∈ zsl p as → p ≤ q.1
  | [], _, _, h => by cases h
  | a :: as, p, q, h => by
    rcases List.mem_cons.mp h with rfl | h
    · exact Nat.le_refl _
    · have := zsl_ge h
      split at this <;> omega
theorem zVl.cons {ty : List Nat} {lo : zL} {a : Nat} {w : Value} : ∀ {ps : List (Nat × zA)} {vs : List Value}, (∀ p ∈ ps, p.1 ≠ a) → zVl ty lo ps vs → zVl ty ((a, w) :: lo) ps vs
  | [], [], _, _ => trivial
  | _ :: _, _ :: _, hn, h => ⟨zget_cons h.1 (hn _ List.mem_cons_self), h.2.1, zVl.cons (fun p hp => hn p (List.mem_cons_of_mem _ hp)) h.2.2⟩
theorem zsl_ok {ty : List Nat} : ∀ {as : List zA} {vs : List Value} (p : Nat), zAg ty as vs → zVl ty (lv_args p vs) (zsl p as) vs
  | [], [], _, _ => trivial
  | a :: as, v :: vs, p, h => by
    have hc := zGcat h.1
    have e : (if v.category = 2 then p + 2 else p + 1) = (if a.1 = 1 then p + 2 else p + 1) := by
      rw [hc]
      by_cases h1 : a.1 = 1
      · rw [if_pos h1, if_pos rfl, if_pos h1]
      · rw [if_neg h1, if_neg (by decide), if_neg h1]
    rw [show lv_args p (v :: vs) = (p, v) :: lv_args (if v.category = 2 then p + 2 else p + 1) vs from rfl, e]
    refine ⟨zget_self, h.1, zVl.cons (fun q hq => ?_) (zsl_ok _ h.2)⟩
    have := zsl_ge hq
    split at this <;> omega
section ZCK
variable {tt : Nat → zTy} {Ex : List Nat → zH → Prop} {cts : List zCt} {cand : List (List Nat)} {own : Nat} {ct : zCt} {ty0 : List Nat} {h0 : zH} {ρ0 : List Value} {sx : zX} {d0 : Nat}
theorem zx_ok {src : Option zCut} (hst : zStable tt Ex (zcM ct)) (hd : zcD ct ≤ d0) (hcts : ∀ c, c < own → ∀ c', cts[c]? = some c' → zVd tt Ex c') (hcut : ∀ (s : zSt) (cf : List zCf) (h : zH) (X Y : Nat), zRl tt Ex ct ty0 h0 ρ0 s cf h X Y → zhit tt ct src s = true → zGo sx d0 (zPo tt Ex ct ty0 h0) cf h X Y) : ∀ (n : Nat) (s : zSt) (cf : List zCf) (h : zH) (X Y : Nat), zRl tt Ex ct ty0 h0 ρ0 s cf h X Y → zx tt cts cand own ct src n s = true → zGo sx d0 (zPo tt Ex ct ty0 h0) cf h X Y
  | 0, _, _, _, _, _, _, hq => by cases hq
  | n + 1, s, cf, h, X, Y, R, hq => by
    rw [zx] at hq
    split at hq
    case h_1 => cases hq
    next l hl =>
    refine zstep_ok hst hd hcts R hl ⟨fun _ _ _ _ q => q, fun s' hs' cf' h' X' Y' R' => ?_⟩
    have := List.all_eq_true.mp hq s' hs'
    split at this
    · exact hcut s' cf' h' X' Y' R' this
    · exact zx_ok hst hd hcts hcut n s' cf' h' X' Y' R' this
theorem zhit_ok {src : Option zCut} {s : zSt} {cf : List zCf} {h : zH} {X Y : Nat} (R : zRl tt Ex ct ty0 h0 ρ0 s cf h X Y) (hq : zhit tt ct src s = true) : ∃ c ∈ zcC ct, ∃ (ty : List Nat) (lo : zL) (vl vm : List Value), cf = [(zcJ ct, c.1, lo, [])] ∧ X = 0 ∧ Y = 0 ∧ zExt ty0 ty ∧ zTY tt ty h ∧ Ex ty h ∧ zFm (zcM ct) ty0 h0 h ∧ zVl ty lo c.2.1 vl ∧ zVm ty lo h c.2.2.1 vm ∧ ∀ sc, src = some sc → ∀ lo1 h1, zLo ρ0 (zc_loc sc) lo1 → zMm h1 ρ0 (zc_me sc) → zlex (c.2.2.2.map (zmc lo h)) (sc.2.2.2.map (zmc lo1 h1)) := by
  obtain ⟨ty, ρ, a1, a2, a3, a4, a5, a6, a7, a10, a11, a12⟩ := R
  unfold zhit at hq
  split at hq
  case h_2 => cases hq
  next f hf =>
  rw [hf] at a10
  match cf, a10 with
  | [(j, k, lo, st)], a10 =>
  obtain ⟨b1, b2, b3, b4, -⟩ := a10
  obtain ⟨c, hc, h9⟩ := List.any_eq_true.mp hq
  unfold zhit1 at h9
  simp only [Bool.and_eq_true, decide_eq_true_eq] at h9
  obtain ⟨c1, c2, c3, c4, c5, c6, c7, c8⟩ := h9
  obtain ⟨vl, hvl⟩ := za_l_ok a6 b3 c6
  obtain ⟨vm, hvm⟩ := za_m_ok a3 a6 a7 b3 c7
  have hst : st = [] := by
    rw [List.isEmpty_iff.mp c3] at b4
    cases st with
    | nil => rfl
    | cons _ _ => exact b4.elim
  subst hst
  dsimp only at b1 b2
  refine ⟨c, hc, ty, lo, vl, vm, by rw [← b1, ← b2, c1, c2], by omega, by omega, a2, a3, a4, a5, hvl, hvm, fun sc hsc lo1 h1 L1 M1 => ?_⟩
  subst hsc
  refine zrk_ok a6 b3 a7 a1 L1 M1 (fun s9 _ a ha => ?_) c8
  have : ∃ w, ρ0[a]? = some w := by
    unfold zvid at ha
    split at ha
    · obtain ⟨v, v1, -⟩ := zlk_ok L1 ha; exact ⟨v, v1⟩
    · split at ha
      · obtain ⟨a9, e9, n9, w9, -, -, -, -, k5⟩ := M1 _ (zml_ok ha); exact ⟨w9, k5⟩
      · cases ha
  obtain ⟨w, hw⟩ := this
  exact (List.getElem?_eq_some_iff.mp hw).1
theorem zc_start {ty : List Nat} {lo : zL} {h : zH} {c : zCut} {vl vm : List Value} (a2 : zExt ty0 ty) (a3 : zTY tt ty h) (a4 : Ex ty h) (a5 : zFm (zcM ct) ty0 h0 h) (H1 : zVl ty lo c.2.1 vl) (H2 : zVm ty lo h c.2.2.1 vm) : zRl tt Ex ct ty0 h0 (vl ++ vm) (zc_st ct c) [(zcJ ct, c.1, lo, [])] h 0 0 :=
  ⟨ty, vl ++ vm, zRx.rf, a2, a3, a4, a5, zc_ev H1 H2, zc_mm H1 H2, ⟨rfl, rfl, zc_lo H1, trivial, trivial⟩, Nat.le_refl _, Nat.le_refl _⟩
theorem zcut_ok {N fuel : Nat} (hst : zStable tt Ex (zcM ct)) (hd : zcD ct ≤ d0) (hcts : ∀ c, c < own → ∀ c', cts[c]? = some c' → zVd tt Ex c') (hN : ∀ c ∈ zcC ct, c.2.2.2.length = N) (hck : ∀ c ∈ zcC ct, zx tt cts cand own ct (some c) fuel (zc_st ct c) = true) : ∀ m : List Nat, m.length = N → ∀ c ∈ zcC ct, ∀ (ty : List Nat) (lo : zL) (h : zH) (vl vm : List Value), m = c.2.2.2.map (zmc lo h) → zExt ty0 ty → zTY tt ty h → Ex ty h → zFm (zcM ct) ty0 h0 h → zVl ty lo c.2.1 vl → zVm ty lo h c.2.2.1 vm → zGo sx d0 (zPo tt Ex ct ty0 h0) [(zcJ ct, c.1, lo, [])] h 0 0 := by
  refine zlex_ind N _ (fun m hm ih => ?_)
  intro c hc ty lo h vl vm hme a2 a3 a4 a5 H1 H2
  refine zx_ok (ρ0 := vl ++ vm) hst hd hcts (fun s cf h' X Y R hh => ?_) fuel (zc_st ct c) _ h 0 0 (zc_start a2 a3 a4 a5 H1 H2) (hck c hc)
  obtain ⟨c', hc', ty', lo', vl', vm', rfl, rfl, rfl, p2, p3, p4, p5, p6, p7, p8⟩ := zhit_ok R hh
  refine ih _ (by rw [List.length_map]; exact hN c' hc') ?_ c' hc' ty' lo' h' vl' vm' rfl p2 p3 p4 p5 p6 p7
  rw [hme]
  exact p8 c rfl lo h (zc_lo H1) (zc_mm H1 H2)
/-- what the checker passes holds -/
theorem zck_ok {N fuel : Nat} (hst : zStable tt Ex (zcM ct)) (hcts : ∀ c, c < own → ∀ c', cts[c]? = some c' → zVd tt Ex c') (hck : zck tt cts cand own ct N fuel = true) : zVd tt Ex ct := by
  unfold zck at hck
  rw [Bool.and_eq_true, Bool.and_eq_true] at hck
  obtain ⟨k1, k2, k3⟩ := hck
  have hN : ∀ c ∈ zcC ct, c.2.2.2.length = N := fun c hc => of_decide_eq_true (List.all_eq_true.mp k1 c hc)
  have hcuts := List.all_eq_true.mp k3
  intro sx d ty h as hd T hE hA
  have hgo : zGo sx d (zPo tt Ex ct ty h) [(zcJ ct, 0, lv_args 0 as, [])] h 0 0 := by
    have H1 : zVl ty (lv_args 0 as) (zc_0 ct).2.1 as := zsl_ok 0 hA
    have R := zc_start (tt := tt) (Ex := Ex) (ct := ct) (ty0 := ty) (h0 := h) (c := zc_0 ct) (vm := []) zExt.rf T hE zFm.rf H1 trivial
    have hcut : ∀ (s : zSt) (cf : List zCf) (h' : zH) (X Y : Nat), zRl tt Ex ct ty h (as ++ []) s cf h' X Y → zhit tt ct none s = true → zGo sx d (zPo tt Ex ct ty h) cf h' X Y := by
      intro s cf h' X Y R hh
      obtain ⟨c', hc', ty', lo', vl', vm', rfl, rfl, rfl, p2, p3, p4, p5, p6, p7, -⟩ := zhit_ok R hh
      exact zcut_ok (fuel := fuel) hst hd hcts hN hcuts _ (by rw [List.length_map]; exact hN c' hc') c' hc' ty' lo' h' vl' vm' rfl p2 p3 p4 p5 p6 p7
    split at k2
    · exact hcut _ _ h 0 0 R k2
    · exact zx_ok hst hd hcts hcut fuel _ _ h 0 0 R k2
  refine z_ok.imp hgo (fun o h' x y q => ?_)
  have q : zPo tt Ex ct ty h o h' (x + 0) (y + 0) := q
  exact q
/-- all contracts of a table -/
theorem zcts_ok (hck : ∀ (c : Nat) (ct : zCt), cts[c]? = some ct → (zStable tt Ex (zcM ct) ∧ ∃ N fuel, zck tt cts cand c ct N fuel = true) ∨ ((∀ c9, c9 < c → ∀ c', cts[c9]? = some c' → zVd tt Ex c') → zVd tt Ex ct)) : ∀ (c : Nat) (ct : zCt), cts[c]? = some ct → zVd tt Ex ct := by
  intro c
  induction c using Nat.strongRecOn with
  | ind c ih =>
    intro ct hct
    rcases hck c ct hct with ⟨hst, N, fuel, h⟩ | h
    · exact zck_ok hst (fun c9 h9 c' hc' => ih c9 h9 c' hc') h
    · exact h (fun c9 h9 c' hc' => ih c9 h9 c' hc')
end ZCK
end
