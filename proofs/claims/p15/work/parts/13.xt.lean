section
theorem z_xtl {L : List Cond} {f : Bool} (h : (L.all (fun w => vx_ot w && (if goodWord w then z_mk w lw_tbl else decide (w ∈ z_xw))) && f) = true) : (∀ w ∈ L.filter goodWord, w ∈ lw_tbl) ∧ (∀ w ∈ L.filter (fun w => !goodWord w), w ∈ z_xw) ∧ (∀ w ∈ L, vx_ot w = true) ∧ f = true := by
  rw [Bool.and_eq_true, List.all_eq_true] at h
  refine ⟨fun w hw => ?_, fun w hw => ?_, fun w hw => ?_, h.2⟩
  · obtain ⟨h1, h2⟩ := List.mem_filter.mp hw
    have h3 := h.1 w h1
    rw [Bool.and_eq_true, if_pos h2] at h3
    exact z_mk_ok h3.2
  · obtain ⟨h1, h2⟩ := List.mem_filter.mp hw
    have h3 := h.1 w h1
    have h2 : (!goodWord w) = true := h2
    have h4 : goodWord w = false := by
      cases q : goodWord w with
      | false => rfl
      | true => rw [q] at h2; cases h2
    rw [Bool.and_eq_true, if_neg (by rw [h4]; decide), decide_eq_true_eq] at h3
    exact h3.2
  · have h3 := h.1 w hw
    rw [Bool.and_eq_true] at h3
    exact h3.1
theorem z_xtb0 : ((z_atX RX11 72 "java/lang/IllegalArgumentException" 7 Bundle.six z_xn).all (fun w => vx_ot w && (if goodWord w then z_mk w lw_tbl else decide (w ∈ z_xw))) && Bundle.fit "java/lang/IllegalArgumentException") = true := by decide +kernel
theorem z_xtb1 : ((z_atX RX11 82 "java/lang/UnsupportedOperationException" 7 Bundle.six z_xn).all (fun w => vx_ot w && (if goodWord w then z_mk w lw_tbl else decide (w ∈ z_xw))) && Bundle.fit "java/lang/UnsupportedOperationException") = true := by decide +kernel
theorem z_xtb2 : ((z_atX RX11 355 "java/lang/IndexOutOfBoundsException" 7 Bundle.six z_xn).all (fun w => vx_ot w && (if goodWord w then z_mk w lw_tbl else decide (w ∈ z_xw))) && Bundle.fit "java/lang/IndexOutOfBoundsException") = true := by decide +kernel
theorem z_xtb3 : ((z_atX RX11 368 "java/util/NoSuchElementException" 13 z_six13 z_xn).all (fun w => vx_ot w && (if goodWord w then z_mk w lw_tbl else decide (w ∈ z_xw))) && Bundle.fit "java/util/NoSuchElementException") = true := by decide +kernel
theorem z_xtb4 : ((z_atX RX11 377 "java/lang/IllegalStateException" 7 Bundle.six z_xn).all (fun w => vx_ot w && (if goodWord w then z_mk w lw_tbl else decide (w ∈ z_xw))) && Bundle.fit "java/lang/IllegalStateException") = true := by decide +kernel
theorem z_xf : ∀ (a : Nat) (cls : String) (ic : Nat), z_excs[a]? = some cls → z_ics[a]? = some ic → ∃ ix rx, z_rxOk (ix, rx) ∧ (∀ w ∈ (z_atX RX11 ic cls ix rx z_xn).filter goodWord, w ∈ z_T) ∧ (∀ w ∈ (z_atX RX11 ic cls ix rx z_xn).filter (fun w => !goodWord w), w ∈ z_xw) ∧ (∀ w ∈ z_atX RX11 ic cls ix rx z_xn, vx_ot w = true) ∧ Bundle.fit cls = true
  | 0, _, _, h1, h2 => by cases h1; cases h2; exact ⟨7, Bundle.six, z_rx7, fun w hw => List.mem_filter.mpr ⟨(z_xtl z_xtb0).1 w hw, (List.mem_filter.mp hw).2⟩, (z_xtl z_xtb0).2.1, (z_xtl z_xtb0).2.2.1, (z_xtl z_xtb0).2.2.2⟩
  | 1, _, _, h1, h2 => by cases h1; cases h2; exact ⟨7, Bundle.six, z_rx7, fun w hw => List.mem_filter.mpr ⟨(z_xtl z_xtb1).1 w hw, (List.mem_filter.mp hw).2⟩, (z_xtl z_xtb1).2.1, (z_xtl z_xtb1).2.2.1, (z_xtl z_xtb1).2.2.2⟩
  | 2, _, _, h1, h2 => by cases h1; cases h2; exact ⟨7, Bundle.six, z_rx7, fun w hw => List.mem_filter.mpr ⟨(z_xtl z_xtb2).1 w hw, (List.mem_filter.mp hw).2⟩, (z_xtl z_xtb2).2.1, (z_xtl z_xtb2).2.2.1, (z_xtl z_xtb2).2.2.2⟩
  | 3, _, _, h1, h2 => by cases h1; cases h2; exact ⟨13, z_six13, z_rx13, fun w hw => List.mem_filter.mpr ⟨(z_xtl z_xtb3).1 w hw, (List.mem_filter.mp hw).2⟩, (z_xtl z_xtb3).2.1, (z_xtl z_xtb3).2.2.1, (z_xtl z_xtb3).2.2.2⟩
  | 4, _, _, h1, h2 => by cases h1; cases h2; exact ⟨7, Bundle.six, z_rx7, fun w hw => List.mem_filter.mpr ⟨(z_xtl z_xtb4).1 w hw, (List.mem_filter.mp hw).2⟩, (z_xtl z_xtb4).2.1, (z_xtl z_xtb4).2.2.1, (z_xtl z_xtb4).2.2.2⟩
  | n + 5, _, _, h1, _ => by simp [z_excs] at h1
end
section
noncomputable def z_HR (p : Program) (l : Launch) (e : Env) (R : Room) (s : State) (m : MethodId) (args : Array Value) (below : List Frame) (meth : Method) (c : Code) (Z : Nat) (D : va_G) (tc : Nat → ClassId) (M : zMi) (cs : List zI) (is : List zJ) (hs : List zHd) (ad0 : Nat → Nat) (n0 C S : Nat) (Q : State → Prop) (d : Nat) (o : zO) (hF : zH) : Prop :=
  ∀ (k : Nat) (i : zI) (q : zJ) (lo : zL) (st : List Value) (x y : Nat), cs[k]? = some i → is[k]? = some q → z_ckA M is hs i q k = true → z_fin M i d st = some (o, x, y) → z_W p l e R s m args below meth c Z D tc M (z_nxOf is) ad0 n0 C S Q k lo st hF x y
noncomputable def z_HX (p : Program) (l : Launch) (e : Env) (R : Room) (s : State) (m : MethodId) (args : Array Value) (below : List Frame) (meth : Method) (c : Code) (Z : Nat) (D : va_G) (tc : Nat → ClassId) (is : List zJ) (hs : List zHd) (ad0 : Nat → Nat) (n0 C S : Nat) (Q : State → Prop) (o : zO) (hF : zH) : Prop :=
  ∀ (x : Nat) (E : String), o = .inr x → z_excs[x]? = some E → hs = [] → ∀ (k : Nat) (ad : Nat → Nat) (H : Heap) (locs : List Loc) (ls : Array Slot) (cells slots : Nat) (rest : List Value) (q9 : Addr) (ce : Cell), z_R Z D tc ad hF H → z_ag n0 ad0 ad → n0 ≤ hF.length → va_S (fun q => Z ≤ q) s.heap H locs → H[q9]? = some ce → ce.vm = .none → s.vm.findClass E = some ce.cls → cells ≤ C → slots ≤ S → vx_W p l e R s m args below meth c H locs cells slots Q (F0 m (z_nxOf is k) ls rest) q9
/-- the run from here is the machine's, in every frame of this method -/
noncomputable def z_Bd (sx : zX) (d j k : Nat) (lo : zL) (st : List Value) (h : zH) (o : zO) (hF : zH) (kc ks : Nat) : Prop :=
  ∀ (p : Program) (l : Launch) (e : Env) (R : Room) (s : State) (m : MethodId) (args : Array Value) (below : List Frame) (meth : Method) (c : Code) (Z : Nat) (D : va_G) (tc : Nat → ClassId) (adK adV : Nat → Nat) (sb : Nat) (M : zMi) (cs : List zI) (is : List zJ) (hs : List zHd) (ad0 : Nat → Nat) (n0 C S : Nat) (Q : State → Prop),
    z_ms[j]? = some M → z_cs[j]? = some cs → z_is[j]? = some is → z_hs[j]? = some hs → z_Fr p s m args meth c M → z_K l Z D tc adK adV sb sx s → z_A0 adK sb ad0 → z_Rm R d C S → z_HR p l e R s m args below meth c Z D tc M cs is hs ad0 n0 C S Q d o hF → z_HX p l e R s m args below meth c Z D tc is hs ad0 n0 C S Q o hF →
    z_W p l e R s m args below meth c Z D tc M (z_nxOf is) ad0 n0 C S Q k lo st h kc ks
theorem z_lgl (ad : Nat → Nat) : ∀ vs : List Value, (lg_sl (vs.map (z_tr ad))).length = (lg_sl vs).length
  | [] => rfl
  | v :: vs => by
    have ih := z_lgl ad vs
    unfold lg_sl at ih ⊢
    rw [List.map_cons, List.flatMap_cons, List.flatMap_cons, List.length_append, List.length_append, ih, z_tr_cat]
    by_cases h : v.category = 2
    · rw [if_pos h, if_pos h]; rfl
    · rw [if_neg h, if_neg h]; rfl
theorem z_xn_fit : ∀ n ∈ z_xn, Bundle.fit n = true := by decide +kernel
theorem z_R.grown {Z : Nat} {D : va_G} {tc : Nat → ClassId} {ad : Nat → Nat} {h : zH} {H H1 : Heap} (hR : z_R Z D tc ad h H) (hk : ∀ q : Nat, q < H.size → H1[q]? = H[q]?) : z_R Z D tc ad h H1 := ⟨hR.1.kept (fun k x hx => hk x.1 ((hR.1 k x hx).lt)), hR.2⟩
set_option maxHeartbeats 4000000 in
/-- a method's own ends: returns and throws -/
theorem z_ends {p : Program} {l : Launch} {e : Env} {R : Room} {s : State} {m : MethodId} {args : Array Value} {below : List Frame} {meth : Method} {c : Code} {Z : Nat} {D : va_G} {tc : Nat → ClassId} {adK adV : Nat → Nat} {sb : Nat} {sx : zX} {M : zMi} {cs : List zI} {is : List zJ} {hs : List zHd} {ad0 : Nat → Nat} {n0 C S d : Nat} {o : zO} {hF : zH}
    (hFr : z_Fr p s m args meth c M) (hK : z_K l Z D tc adK adV sb sx s) (hA : z_A0 adK sb ad0) (hR : z_Rm R d C S) (hhs : M.2.2.2.2.2 = hs.map (fun x => (x.1, x.2.1, x.2.2.1, x.2.2.2.1))) : z_HR p l e R s m args below meth c Z D tc M cs is hs ad0 n0 C S (vx_MQ below (z_Qm Z D tc ad0 n0 hF o) (z_Xm Z D tc ad0 n0 hF o) args s C S (fun q => Z ≤ q)) d o hF := by
  intro k i q lo st x y hi hq hck hfin
  obtain ⟨hx, hb, hml, hr, hown, hts, hlocks, htab, hnm⟩ := hFr
  have hnx : z_nxOf is k = q.1 := by unfold z_nxOf; rw [hq]; rfl
  intro ad H locs ls cells slots q1 q2 q3 q4 q5 q6 q7 q8 q9
  rw [hnx]
  unfold z_ckA at hck
  rw [Bool.or_eq_true, Bool.and_eq_true] at hck
  unfold z_fin at hfin
  split at hfin
  · next r hi1 =>
    split at hfin
    case h_2 => cases hfin
    next ty hty =>
    by_cases hn : narrow ty (.int r) = .int r
    case neg => rw [if_neg hn] at hfin; cases hfin
    rw [if_pos hn] at hfin
    simp only [Option.some.injEq, Prod.mk.injEq] at hfin
    obtain ⟨rfl, rfl, rfl⟩ := hfin
    rcases hck with h99 | ⟨hd, hck⟩
    · rw [decide_eq_true_eq, hi1] at h99; cases h99
    have hd := of_decide_eq_true hd
    rw [z_ckB50 hi1] at hck
    split at hck
    case h_2 => cases hck
    next hins =>
    rw [hins, of_decide_eq_true hck] at hd
    subst q8; subst q9
    exact vx_ret (W.zret hx hb (hr.trans hty) hn (fun t ht _ => ⟨_, rfl, ad, q2, rfl, by rw [ht]; exact q1, q3, fun w hw => by cases hw; exact z_okV_int _ _, q4.F ht⟩) q4.2.2 hd)
  · next r hi1 =>
    simp only [Option.some.injEq, Prod.mk.injEq] at hfin
    obtain ⟨rfl, rfl, rfl⟩ := hfin
    rcases hck with h99 | ⟨hd, hck⟩
    · rw [decide_eq_true_eq, hi1] at h99; cases h99
    have hd := of_decide_eq_true hd
    rw [z_ckB51 hi1] at hck
    split at hck
    case h_2 => cases hck
    next hins =>
    rw [Bool.and_eq_true] at hck
    rw [hins, of_decide_eq_true hck.1] at hd
    subst q8; subst q9
    exact vx_ret (W.lret hx hb (hr.trans (of_decide_eq_true hck.2)) (fun t ht _ => ⟨_, rfl, ad, q2, rfl, by rw [ht]; exact q1, q3, fun w hw => by cases hw; exact z_okV_long _ _, q4.F ht⟩) q4.2.2 hd)
  · next r hi1 =>
    simp only [Option.some.injEq, Prod.mk.injEq] at hfin
    obtain ⟨rfl, rfl, rfl⟩ := hfin
    rcases hck with h99 | ⟨hd, hck⟩
    · rw [decide_eq_true_eq, hi1] at h99; cases h99
    have hd := of_decide_eq_true hd
    rw [z_ckB52 hi1] at hck
    split at hck
    case h_2 => cases hck
    next hins =>
    rw [Bool.and_eq_true] at hck
    rw [hins, of_decide_eq_true hck.1] at hd
    subst q8; subst q9
    have hck2 := hck.2
    split at hck2
    · next nmr hrt =>
      exact vx_ret (W.aret hx hb (hr.trans hrt) (Or.inl ⟨_, rfl⟩) (Or.inr ⟨_, rfl⟩) (fun t ht _ => ⟨_, rfl, ad, q2, rfl, by rw [ht]; exact q1, q3, fun w hw => by cases hw; exact z_ok1 q7, q4.F ht⟩) q4.2.2 hd)
    · next nmr hrt =>
      exact vx_ret (W.aret hx hb (hr.trans hrt) (Or.inr ⟨_, rfl⟩) (Or.inr ⟨_, rfl⟩) (fun t ht _ => ⟨_, rfl, ad, q2, rfl, by rw [ht]; exact q1, q3, fun w hw => by cases hw; exact z_ok1 q7, q4.F ht⟩) q4.2.2 hd)
    · cases hck2
  · next hi1 =>
    simp only [Option.some.injEq, Prod.mk.injEq] at hfin
    obtain ⟨rfl, rfl, rfl⟩ := hfin
    rcases hck with h99 | ⟨hd, hck⟩
    · rw [decide_eq_true_eq, hi1] at h99; cases h99
    have hd := of_decide_eq_true hd
    rw [z_ckB53 hi1] at hck
    split at hck
    case h_2 => cases hck
    next hins =>
    rw [Bool.and_eq_true] at hck
    rw [hins, of_decide_eq_true hck.1] at hd
    subst q8; subst q9
    exact vx_ret (W.vret hx hb (hr.trans (of_decide_eq_true hck.2)) (fun t ht _ => ⟨_, rfl, ad, q2, rfl, by rw [ht]; exact q1, q3, (fun w hw => by cases hw), q4.F ht⟩) q4.2.2 hd)
  · next st9 x8 st8 hi1 =>
    by_cases hc : 6 ≤ d ∧ z_cat st9 ≤ 8
    case neg => rw [if_neg hc] at hfin; cases hfin
    rw [if_pos hc] at hfin
    simp only [Option.some.injEq, Prod.mk.injEq] at hfin
    obtain ⟨rfl, rfl, rfl⟩ := hfin
    rcases hck with h99 | ⟨hd, hck⟩
    · rw [decide_eq_true_eq, hi1] at h99; cases h99
    have hd := of_decide_eq_true hd
    rw [z_ckB62 hi1] at hck
    split at hck
    case h_2 => cases hck
    next ik cls ic sq hins hcls hic hsq =>
    simp only [Bool.and_eq_true, Bool.or_eq_true, decide_eq_true_eq] at hck
    obtain ⟨⟨⟨⟨⟨⟨⟨c1, c2⟩, c3⟩, c4⟩, c5⟩, c6⟩, c7⟩, c8⟩ := hck
    rw [hins, c3] at hd
    obtain ⟨ix, rx, ⟨x0, x1, x2, x5⟩, f1, f2, f3, f4⟩ := z_xf i.2.1 cls ic hcls hic
    have htab0 : ∀ z ∈ c.exceptionTable.toList, covers z (q.1 + 9) = false := by
      rw [htab, hhs, c2]
      intro z hz
      cases hz
    have htab1 : ∀ z ∈ c.exceptionTable.toList, covers z (q.1 + 10) = false := by
      rw [htab, hhs, c2]
      intro z hz
      cases hz
    have hat : ∀ w ∈ z_atX M.1 ic cls ix rx z_xn, w.before args s = true := by
      rw [c1]
      refine vx_hat (fun w hw => hts w (f1 w hw)) f2 (fun w hw => ?_)
      refine va_Nw.use ?_ (hK.2.2.2.2.2.2.2.2.2.2.2.2.2.2 w hw)
      simp only [z_xw, List.mem_cons, List.not_mem_nil, or_false] at hw
      rcases hw with rfl | rfl | rfl | rfl | rfl | rfl | rfl | rfl <;> rfl
    have hgood : ∀ w ∈ Cond.classLink M.1 ik cls :: Cond.initialized cls :: z_atX M.1 ic cls ix rx z_xn, vx_ot w = true := by
      intro w hw
      rcases List.mem_cons.mp hw with rfl | hw
      · unfold vx_ot; rw [(List.mem_filter.mp (z_w_in c4)).2, Bool.or_true]
      rcases List.mem_cons.mp hw with rfl | hw
      · unfold vx_ot; rw [(List.mem_filter.mp (z_w_in c5)).2, Bool.or_true]
      · rw [c1] at hw; exact f3 w hw
    have hstr := (hK.2.2.1 i.2.2.1 sq hsq).1
    rw [c6] at hstr
    obtain ⟨r1, r2, r3, r4⟩ := hR
    have hz := z_cat_tr ad st9
    have hxc : ∀ t : State, s.vm.Alike t.vm → H.size ≤ t.heap.size → (∀ q : Nat, q < H.size → t.heap[q]? = H[q]?) → z_Xm Z D tc ad0 n0 hF (.inr i.2.1) cls s t := by
      intro t _ g1 g2
      refine ⟨_, rfl, hcls, ad, q2, q1.grown g2, q3, Nat.le_trans q4.1 g1, fun q0 k1 k2 => ?_⟩
      rw [g2 q0 (Nat.lt_of_lt_of_le k1 q4.1)]
      exact q4.2.1 q0 k1 k2
    rcases c8 with ⟨⟨d4, d6⟩, d9⟩ | ⟨⟨d4, d7⟩, d10⟩
    · exact z_throwX hx hb hK.2.2.2.2.2.2.2.2.2.1 x0 x1 x2 x5 hown f4 z_xn_fit (hts _ (z_w_in c4)) (hts _ (z_w_in c5)) hstr hat hgood hK.2.2.2.1 hK.2.2.2.2.1 q4 (by rw [hml]; exact q5.1) hd c7 d4 d6 d9 htab0 (by show 2 + 3 < _; omega) (by show _ + (13 * (2 + 1) + 43) ≤ _; omega) (by omega) (by omega) hlocks hxc q4.2.2 (by omega) (by omega)
    · exact z_throwXW hx hb hK.2.2.2.2.2.2.2.2.2.1 x0 x1 x2 x5 hown f4 z_xn_fit (hts _ (z_w_in c4)) (hts _ (z_w_in c5)) hstr hat hgood hK.2.2.2.1 hK.2.2.2.2.1 q4 (by rw [hml]; exact q5.1) hd c7 d4 d7 d10 htab1 (by show 2 + 3 < _; omega) (by show _ + (13 * (2 + 1) + 43) ≤ _; omega) (by omega) (by omega) hlocks hxc q4.2.2 (by omega) (by omega)
  · cases hfin
theorem z_outs {p : Program} {l : Launch} {e : Env} {R : Room} {s : State} {m : MethodId} {args : Array Value} {below : List Frame} {meth : Method} {c : Code} {Z : Nat} {D : va_G} {tc : Nat → ClassId} {M : zMi} {is : List zJ} {hs : List zHd} {ad0 : Nat → Nat} {n0 C S : Nat} {o : zO} {hF : zH}
    (hFr : z_Fr p s m args meth c M) (hhs : M.2.2.2.2.2 = hs.map (fun x => (x.1, x.2.1, x.2.2.1, x.2.2.2.1))) : z_HX p l e R s m args below meth c Z D tc is hs ad0 n0 C S (vx_MQ below (z_Qm Z D tc ad0 n0 hF o) (z_Xm Z D tc ad0 n0 hF o) args s C S (fun q => Z ≤ q)) o hF := by
  intro x E ho hE hh k ad H locs ls cells slots rest q9 ce q1 q2 q3 q4 g1 g2 g3 g4 g5
  obtain ⟨hx, hb, hml, hr, hown, hts, hlocks, htab, hnm⟩ := hFr
  refine vx_out (fun z hz => ?_) hlocks g1 g2 g3 (fun t ht _ => ⟨x, ho, hE, ad, q2, by rw [ht]; exact q1, q3, q4.F ht⟩) q4.2.2 g4 g5
  rw [htab, hhs, hh] at hz
  cases hz
end
section
/-! a method's contract out of its run -/
theorem z_met {sx : zX} {d j : Nat} {as : List Value} {h : zH} {o : zO} {h' : zH} {kc ks : Nat} (hB : z_Bd sx d j 0 (lv_args 0 as) [] h o h' kc ks) {M : zMi} {cs : List zI} {is : List zJ} {hs : List zHd} (hM : z_ms[j]? = some M) (hcs : z_cs[j]? = some cs) (his : z_is[j]? = some is) (hhs : z_hs[j]? = some hs) (hck : z_ckM M cs is hs = true) (hw : (lg_sl as).length ≤ M.2.2.2.1) (hh : M.2.2.2.2.2 = [])
    (l : Launch) (Z : Nat) (D : va_G) (tc : Nat → ClassId) (adK adV : Nat → Nat) (sb : Nat) (ad : Nat → Nat) (hA : z_A0 adK sb ad) (hok : ∀ v ∈ as, z_okV h.length v) :
    vx_Met l M.2.1 (.code M.2.1 M.2.2.1 M.2.2.2.1 M.2.2.2.2.1 :: z_T) (z_rm d kc ks) (z_Pm l Z D tc adK adV sb sx ad h as) (z_Qm Z D tc ad h.length h' o) (z_Xm Z D tc ad h.length h' o) kc ks (fun q => Z ≤ q) := by
  unfold z_ckM at hck
  simp only [Bool.and_eq_true, decide_eq_true_eq] at hck
  obtain ⟨⟨⟨⟨⟨c1, c2⟩, c3⟩, c4⟩, c5⟩, c6⟩ := hck
  refine z_ofWF (cc := M.2.2.1) (maxL := M.2.2.2.1) (ret := M.2.2.2.2.1) c2 rfl ?_
  intro p e s m args below meth c s₁ B hml hnt hv
  obtain ⟨rfl, hK, hR⟩ := hv
  have hts0 := atoms_spec B.pre
  have htab : c.exceptionTable.toList = tableOf M.2.2.2.2.2 := by
    rw [hh]
    cases ht : c.exceptionTable.toList with
    | nil => rfl
    | cons x r => exact (hnt x (by rw [ht]; exact List.mem_cons_self)).elim
  have hFr : z_Fr p s m (as.map (z_tr ad)).toArray meth c M := ⟨B.exec, B.bytes, hml, B.returns, by have h9 := findClass_of_methodNamed B.named; rw [c1] at h9; exact h9, fun w hw => hts0 w (List.mem_cons_of_mem _ hw), B.notSynchronized, htab, (name_of_methodNamed B.named B.method).1⟩
  have hRm : z_Rm (headSpec (.code M.2.1 M.2.2.1 M.2.2.2.1 M.2.2.2.2.1 :: z_T) (z_rm d kc ks)).room d kc ks := ⟨Nat.le_refl _, Nat.le_refl _, Nat.le_refl _, Nat.le_refl _⟩
  have hl := lv_entry (as.map (z_tr ad)) (n := M.2.2.2.1) (by rw [z_lgl]; exact hw)
  rw [lg_entry_eq]
  rw [z_args_tr] at hl
  have kk := hB p l e _ s m _ below meth c Z D tc adK adV sb M cs is hs ad h.length kc ks _ hM hcs his hhs hFr hK hA hRm (z_ends hFr hK hA hRm c4) (z_outs hFr c4) ad s.heap [] _ 0 0 hR z_ag.rf (Nat.le_refl _) va_S.rf hl (z_args_ok 0 as hok) (fun _ h9 => by cases h9) (Nat.zero_add _) (Nat.zero_add _)
  rw [c3] at kk
  exact kk
theorem z_metH {sx : zX} {d j : Nat} {as : List Value} {h : zH} {o : zO} {h' : zH} {kc ks : Nat} (hB : z_Bd sx d j 0 (lv_args 0 as) [] h o h' kc ks) {M : zMi} {cs : List zI} {is : List zJ} {hs : List zHd} (hM : z_ms[j]? = some M) (hcs : z_cs[j]? = some cs) (his : z_is[j]? = some is) (hhs : z_hs[j]? = some hs) (hck : z_ckM M cs is hs = true) (hw : (lg_sl as).length ≤ M.2.2.2.1)
    (l : Launch) (Z : Nat) (D : va_G) (tc : Nat → ClassId) (adK adV : Nat → Nat) (sb : Nat) (ad : Nat → Nat) (hA : z_A0 adK sb ad) (hok : ∀ v ∈ as, z_okV h.length v) :
    vx_Met l M.2.1 (.codeWith M.2.1 M.2.2.1 M.2.2.2.1 M.2.2.2.2.1 M.2.2.2.2.2 :: z_T) (z_rm d kc ks) (z_Pm l Z D tc adK adV sb sx ad h as) (z_Qm Z D tc ad h.length h' o) (z_Xm Z D tc ad h.length h' o) kc ks (fun q => Z ≤ q) := by
  unfold z_ckM at hck
  simp only [Bool.and_eq_true, decide_eq_true_eq] at hck
  obtain ⟨⟨⟨⟨⟨c1, c2⟩, c3⟩, c4⟩, c5⟩, c6⟩ := hck
  refine z_ofWHF (cc := M.2.2.1) (maxL := M.2.2.2.1) (ret := M.2.2.2.2.1) (hh := M.2.2.2.2.2) c2 rfl ?_
  intro p e s m args below meth c s₁ B hml hv
  obtain ⟨rfl, hK, hR⟩ := hv
  have hts0 := atoms_spec B.pre
  have htab : c.exceptionTable.toList = tableOf M.2.2.2.2.2 := vx_table (x := M.2.1) B (hts0 _ List.mem_cons_self)
  have hFr : z_Fr p s m (as.map (z_tr ad)).toArray meth c M := ⟨B.exec, B.bytes, hml, B.returns, by have h9 := findClass_of_methodNamed B.named; rw [c1] at h9; exact h9, fun w hw => hts0 w (List.mem_cons_of_mem _ hw), B.notSynchronized, htab, (name_of_methodNamed B.named B.method).1⟩
  have hRm : z_Rm (headSpec (.codeWith M.2.1 M.2.2.1 M.2.2.2.1 M.2.2.2.2.1 M.2.2.2.2.2 :: z_T) (z_rm d kc ks)).room d kc ks := ⟨Nat.le_refl _, Nat.le_refl _, Nat.le_refl _, Nat.le_refl _⟩
  have hl := lv_entry (as.map (z_tr ad)) (n := M.2.2.2.1) (by rw [z_lgl]; exact hw)
  rw [lg_entry_eq]
  rw [z_args_tr] at hl
  have kk := hB p l e _ s m _ below meth c Z D tc adK adV sb M cs is hs ad h.length kc ks _ hM hcs his hhs hFr hK hA hRm (z_ends hFr hK hA hRm c4) (z_outs hFr c4) ad s.heap [] _ 0 0 hR z_ag.rf (Nat.le_refl _) va_S.rf hl (z_args_ok 0 as hok) (fun _ h9 => by cases h9) (Nat.zero_add _) (Nat.zero_add _)
  rw [c3] at kk
  exact kk
end
section
/-! calls -/
section ZCont
variable {p : Program} {l : Launch} {e : Env} {R : Room} {s : State} {m : MethodId} {args : Array Value} {below : List Frame} {meth : Method} {c : Code} {Z : Nat} {D : va_G} {tc : Nat → ClassId} {adK adV : Nat → Nat} {sb : Nat} {sx : zX} {M : zMi} {nx : Nat → Nat} {ad0 : Nat → Nat} {n0 C S d : Nat} {Q : State → Prop} {k : Nat} {lo : zL} {st : List Value} {h : zH} {h' : zH} {kc ks x y : Nat} {ad ad' : Nat → Nat} {H H1 : Heap} {locs locs1 : List Loc} {ls : Array Slot} {cells slots : Nat} {rest : List Value} {v : Option Value}
theorem z_cont (hW : z_W p l e R s m args below meth c Z D tc M nx ad0 n0 C S Q (k + 1) lo (v.toList ++ rest) h' kc ks) (hn : nx (k + 1) = nx k + 3) (q2 : z_ag n0 ad0 ad) (q3 : n0 ≤ h.length) (q5 : lv_has ls M.2.2.2.1 (z_tl ad lo)) (q6 : ∀ q ∈ lo, z_okV h.length q.2) (q7 : ∀ w ∈ rest, z_okV h.length w) (q8 : cells + (kc + x) = C) (q9 : slots + (ks + y) = S)
    (g1 : z_ag h.length ad ad') (g2 : z_R Z D tc ad' h' H1) (g3 : h.length ≤ h'.length) (g4 : va_S (fun q => Z ≤ q) s.heap H1 locs1) (g5 : ∀ w, v = some w → z_okV h'.length w) : W p l e R s m args below meth c H1 locs1 (cells + x) (slots + y) Q (F0 m (nx k + 3) ls ((v.map (z_tr ad')).toList ++ rest.map (z_tr ad))) := by
  have kk := hW ad' H1 locs1 ls (cells + x) (slots + y) g2 (q2.trans g1 q3) (by omega) g4 (by rw [z_tl_ag g1 q6]; exact q5) (fun q hq => (q6 q hq).mono g3) (fun w hw => by
    rcases List.mem_append.mp hw with z | z
    · cases v with
      | none => cases z
      | some w9 => rw [Option.toList_some, List.mem_singleton] at z; rw [z]; exact g5 w9 rfl
    · exact (q7 w z).mono g3) (by omega) (by omega)
  rw [hn, List.map_append, z_st_ag g1 q7] at kk
  cases v with
  | none => exact kk
  | some w9 => exact kk
end ZCont
theorem z_find {hs : List zHd} {E : Nat} {q : zHd} (h : hs.find? (fun q => q.2.2.2.2.1 == E) = some q) : q.2.2.2.2.1 = E ∧ ∃ pre suf, hs = pre ++ q :: suf ∧ ∀ z ∈ pre, z.2.2.2.2.1 ≠ E := by
  obtain ⟨h1, pre, suf, h2, h3⟩ := List.find?_eq_some_iff_append.mp h
  refine ⟨by simpa using h1, pre, suf, h2, fun z hz => ?_⟩
  have := h3 z hz
  simpa using this
theorem z_exc_in {x : Nat} {E : String} (h : z_excs[x]? = some E) : E ∈ z_excs := List.mem_of_getElem? h
theorem z_exc_ne {x y : Nat} {E F : String} (h1 : z_excs[x]? = some E) (h2 : z_excs[y]? = some F) (h : x ≠ y) : E ≠ F := by
  have hnd : ∀ x, x < 5 → ∀ y, y < 5 → x ≠ y → z_excs[x]? ≠ z_excs[y]? := by decide
  intro e
  subst e
  have l1 : x < 5 := (List.getElem?_eq_some_iff.mp h1).1
  have l2 : y < 5 := (List.getElem?_eq_some_iff.mp h2).1
  exact hnd x l1 y l2 h (h1.trans h2.symm)
theorem z_castE {x : Nat} {E : String} (h : z_excs[x]? = some E) : Cond.castable E E ∈ z_xw := by
  have : ∀ E ∈ z_excs, Cond.castable E E ∈ z_xw := by decide +kernel
  exact this E (z_exc_in h)
set_option maxHeartbeats 4000000 in
/-- a thrown exception that this method catches -/
theorem z_caught {p : Program} {l : Launch} {e : Env} {R : Room} {s : State} {m : MethodId} {args : Array Value} {below : List Frame} {meth : Method} {c : Code} {Z : Nat} {D : va_G} {tc : Nat → ClassId} {adK adV : Nat → Nat} {sb : Nat} {sx : zX} {M : zMi} {is : List zJ} {hs : List zHd} {ad0 : Nat → Nat} {n0 C S d : Nat} {Q : State → Prop} {k : Nat} {lo : zL} {h : zH} {h' : zH} {kc ks x y : Nat} {ad ad' : Nat → Nat} {H1 : Heap} {locs1 : List Loc} {ls : Array Slot} {cells slots : Nat} {rest : List Value} {E : Nat} {cls : String} {q : zHd} {q9 : Addr} {ce : Cell}
    (hFr : z_Fr p s m args meth c M) (hK : z_K l Z D tc adK adV sb sx s) (hhs : M.2.2.2.2.2 = hs.map (fun x => (x.1, x.2.1, x.2.2.1, x.2.2.2.1))) (hck : hs.all (z_ckH M is) = true) (hcov : hs.all (fun x => decide (x.1 ≤ z_nxOf is k) && decide (z_nxOf is k < x.2.1)) = true) (hf : hs.find? (fun q => q.2.2.2.2.1 == E) = some q) (hE : z_excs[E]? = some cls)
    (hW : z_W p l e R s m args below meth c Z D tc M (z_nxOf is) ad0 n0 C S Q q.2.2.2.2.2.1 (z_drop lo q.2.2.2.2.2.2) [] h' kc ks) (q2 : z_ag n0 ad0 ad) (q3 : n0 ≤ h.length) (q5 : lv_has ls M.2.2.2.1 (z_tl ad lo)) (q6 : ∀ q ∈ lo, z_okV h.length q.2) (q8 : cells + (kc + x) = C) (q9' : slots + (ks + y) = S)
    (g1 : z_ag h.length ad ad') (g2 : z_R Z D tc ad' h' H1) (g3 : h.length ≤ h'.length) (g4 : va_S (fun q => Z ≤ q) s.heap H1 locs1) (e1 : H1[q9]? = some ce) (e2 : ce.vm = .none) (e3 : s.vm.findClass cls = some ce.cls) : vx_W p l e R s m args below meth c H1 locs1 (cells + x) (slots + y) Q (F0 m (z_nxOf is k) ls rest) q9 := by
  obtain ⟨hx, hb, hml, hr, hown, hts, hlocks, htab, hnm⟩ := hFr
  obtain ⟨hqE, pre, suf, hsp, hpre⟩ := z_find hf
  have hcovq : ∀ z ∈ hs, covers (⟨z.1, z.2.1, z.2.2.1, z.2.2.2.1⟩ : ExceptionTableEntry) (z_nxOf is k) = true := fun z hz => List.all_eq_true.mp hcov z hz
  have hH : ∀ z ∈ hs, z_ckH M is z = true := List.all_eq_true.mp hck
  have hqm : q ∈ hs := by rw [hsp]; exact List.mem_append_right _ List.mem_cons_self
  have hq := hH q hqm
  unfold z_ckH at hq
  simp only [Bool.and_eq_true, decide_eq_true_eq] at hq
  obtain ⟨⟨⟨b1, b2⟩, b3⟩, b4⟩ := hq
  split at b4
  case h_2 => cases b4
  next E9 qi hE9 hqi =>
  have hcE : E9 = cls := by rw [hqE, hE] at hE9; exact (Option.some.inj hE9).symm
  subst hcE
  simp only [Bool.and_eq_true, decide_eq_true_eq] at b4
  obtain ⟨⟨⟨b5, b6⟩, b7⟩, b8⟩ := b4
  have kk := fun ls hl => hW ad' H1 locs1 ls (cells + x) (slots + y) g2 (q2.trans g1 q3) (by omega) g4 hl (fun z hz => (q6 z (List.mem_filter.mp hz).1).mono g3) (fun _ h9 => by cases h9) (by omega) (by omega)
  have q5' : lv_has ls M.2.2.2.1 (z_tl ad' lo) := by rw [z_tl_ag g1 q6]; exact q5
  have drop : ∀ (ls' : Array Slot), lv_has ls' M.2.2.2.1 ((q.2.2.2.2.2.2, Value.ref q9) :: (z_tl ad' lo).filter (fun z => !(z.1 == q.2.2.2.2.2.2) && !(z.1 + 1 == q.2.2.2.2.2.2 && z.2.category == 2))) → lv_has ls' M.2.2.2.1 (z_tl ad' (z_drop lo q.2.2.2.2.2.2)) := by
    intro ls' h9
    refine ⟨h9.1, h9.2.1, fun z hz => h9.2.2 z (List.mem_cons_of_mem _ ?_)⟩
    have e9 : (z_tl ad' lo).filter (fun z => !(z.1 == q.2.2.2.2.2.2) && !(z.1 + 1 == q.2.2.2.2.2.2 && z.2.category == 2)) = z_tl ad' (z_drop lo q.2.2.2.2.2.2) := by
      simp only [z_tl, z_drop, List.filter_map]
      congr 1
      apply List.filter_congr
      intro z _
      simp only [Function.comp, z_tr_cat]
    rw [e9]
    exact hz
  refine vx_catch (name := E9) hown (pre.map (fun z => (⟨z.1, z.2.1, z.2.2.1, z.2.2.2.1⟩ : ExceptionTableEntry))) ⟨q.1, q.2.1, q.2.2.1, q.2.2.2.1⟩ (suf.map (fun z => (⟨z.1, z.2.1, z.2.2.1, z.2.2.2.1⟩ : ExceptionTableEntry))) ?_ ?_ (hcovq q hqm) (by show q.2.2.2.1 ≠ 0; omega) (hts _ (z_mem_in b5)) (va_Nw.use rfl (hK.2.2.2.2.2.2.2.2.2.2.2.2.2.2 _ (z_castE hE))) e1 e2 e3 ?_
  · rw [htab, hhs, hsp]
    simp only [tableOf, List.map_append, List.map_cons, List.map_map]
    rfl
  · intro z hz
    obtain ⟨z0, hz0, rfl⟩ := List.mem_map.mp hz
    have hz1 : z0 ∈ hs := by rw [hsp]; exact List.mem_append_left _ hz0
    have hz2 := hH z0 hz1
    unfold z_ckH at hz2
    simp only [Bool.and_eq_true, decide_eq_true_eq] at hz2
    obtain ⟨⟨⟨u1, u2⟩, u3⟩, u4⟩ := hz2
    split at u4
    case h_2 => cases u4
    next F9 qj hF9 hqj =>
    simp only [Bool.and_eq_true, decide_eq_true_eq] at u4
    refine Or.inr ⟨by show z0.2.2.2.1 ≠ 0; omega, F9, hts _ (z_mem_in u4.1.1.1), ?_⟩
    exact hK.2.2.2.2.2.2.2.2.2.2.2.2.2.1 _ (z_exc_in hE) _ (z_exc_in hF9) (z_exc_ne hE hF9 (fun e9 => hpre z0 hz0 e9.symm))
  · show W p l e R s m args below meth c H1 locs1 (cells + x) (slots + y) Q (F0 m q.2.2.1 ls [.ref q9])
    rw [← b6]
    split at b8
    · next va hva =>
      simp only [Bool.and_eq_true, decide_eq_true_eq] at b8
      obtain ⟨⟨rfl, b9⟩, b10⟩ := b8
      rw [hva, b9] at b7
      refine lv_astore hx hb b7 q5' b2 rfl (fun ls' hl' => ?_)
      have k9 := kk ls' (drop ls' hl')
      rw [b10] at k9
      exact k9
    · next va hva =>
      simp only [Bool.and_eq_true, decide_eq_true_eq] at b8
      obtain ⟨⟨b8a, b9⟩, b10⟩ := b8
      rw [hva, b9] at b7
      refine lv_astore_n hx hb b7 b8a q5' b2 rfl (fun ls' hl' => ?_)
      have k9 := kk ls' (drop ls' hl')
      rw [b10] at k9
      exact k9
    · cases b8
end
section
/-! the calls of the abstract machine are the machine's -/
theorem z_A0.ag {adK ad0 ad : Nat → Nat} {sb n0 : Nat} (hA : z_A0 adK sb ad0) (h : z_ag n0 ad0 ad) : z_A0 adK sb ad :=
  ⟨fun k hk => by rw [h _ (Or.inr (Nat.le_add_right _ _))]; exact hA.1 k hk, by rw [h zS (Or.inr (by decide))]; exact hA.2⟩
theorem z_cal_in {i : zI} {d : Nat} {st : List Value} {h : zH} {j : Nat} {as rest : List Value} (hc : z_cal i d st h = some (j, as, rest)) : z_cal0 i d st h = some (j, as, rest) ∧ ∃ M', z_ms[j]? = some M' ∧ (lg_sl as).length ≤ M'.2.2.2.1 := by
  unfold z_cal at hc
  split at hc
  · next a as9 rest9 h0 =>
    split at hc
    · next M' hM' =>
      by_cases hl : (lg_sl as9).length ≤ M'.2.2.2.1
      · rw [if_pos hl] at hc
        simp only [Option.some.injEq, Prod.mk.injEq] at hc
        obtain ⟨rfl, rfl, rfl⟩ := hc
        exact ⟨h0, M', hM', hl⟩
      · rw [if_neg hl] at hc; cases hc
    · cases hc
  · cases hc
theorem z_st {st : List Value} {n : Nat} {v : Value} {rest : List Value} (h : st.drop n = v :: rest) : st = st.take n ++ v :: rest := by rw [← h]; exact (List.take_append_drop n st).symm
theorem z_cal54 {i : zI} {d : Nat} {st : List Value} {h : zH} {j : Nat} {as rest : List Value} (hi : i.1 = 54) (hc : z_cal0 i d st h = some (j, as, rest)) : j = i.2.1 ∧ 0 < d ∧ i.2.2.1 ≤ st.length ∧ z_cat rest ≤ 8 ∧ ∃ r ci fs, as = .ref r :: (st.take i.2.2.1).reverse ∧ st = st.take i.2.2.1 ++ .ref r :: rest ∧ h[r]? = some (.inr (ci, fs)) ∧ (ci : Int) = i.2.2.2 := by
  unfold z_cal0 at hc
  by_cases hd : d = 0 ∨ st.length < i.2.2.1
  · rw [if_pos hd] at hc; cases hc
  rw [if_neg hd] at hc
  have hc2 : (match st.drop i.2.2.1 with
    | .ref r :: rest => (match h[r]? with
      | some (.inr (c, _)) => if (c : Int) = i.2.2.2 ∧ z_cat rest ≤ 8 then some (i.2.1, .ref r :: (st.take i.2.2.1).reverse, rest) else none
      | _ => none)
    | _ => none) = some (j, as, rest) := by
    rw [hi] at hc; exact hc
  split at hc2
  case h_2 => cases hc2
  next r rest9 hdr =>
  split at hc2
  case h_2 => cases hc2
  next ci fs hr =>
  by_cases h9 : (ci : Int) = i.2.2.2 ∧ z_cat rest9 ≤ 8
  case neg => rw [if_neg h9] at hc2; cases hc2
  rw [if_pos h9] at hc2
  simp only [Option.some.injEq, Prod.mk.injEq] at hc2
  obtain ⟨rfl, rfl, rfl⟩ := hc2
  exact ⟨rfl, by omega, by omega, h9.2, r, ci, fs, rfl, z_st hdr, hr, h9.1⟩
theorem z_cal5x {i : zI} {d : Nat} {st : List Value} {h : zH} {j : Nat} {as rest : List Value} (hi : i.1 = 55 ∨ i.1 = 72) (hc : z_cal0 i d st h = some (j, as, rest)) : j = i.2.1 ∧ 0 < d ∧ i.2.2.1 ≤ st.length ∧ z_cat rest ≤ 8 ∧ as = (st.take i.2.2.1).reverse ∧ rest = st.drop i.2.2.1 := by
  unfold z_cal0 at hc
  by_cases hd : d = 0 ∨ st.length < i.2.2.1
  · rw [if_pos hd] at hc; cases hc
  rw [if_neg hd] at hc
  have hc2 : (if z_cat (st.drop i.2.2.1) ≤ 8 then some (i.2.1, (st.take i.2.2.1).reverse, st.drop i.2.2.1) else none) = some (j, as, rest) := by
    rcases hi with hi | hi <;> (rw [hi] at hc; exact hc)
  by_cases h9 : z_cat (st.drop i.2.2.1) ≤ 8
  case neg => rw [if_neg h9] at hc2; cases hc2
  rw [if_pos h9] at hc2
  simp only [Option.some.injEq, Prod.mk.injEq] at hc2
  obtain ⟨rfl, rfl, rfl⟩ := hc2
  exact ⟨rfl, by omega, by omega, h9, rfl, rfl⟩
theorem z_cal56 {i : zI} {d : Nat} {st : List Value} {h : zH} {j : Nat} {as rest : List Value} (hi : i.1 = 56 ∨ i.1 = 73) (hc : z_cal0 i d st h = some (j, as, rest)) : j = i.2.1 ∧ 0 < d ∧ i.2.2.1 ≤ st.length ∧ z_cat rest ≤ 8 ∧ ∃ r, as = .ref r :: (st.take i.2.2.1).reverse ∧ st = st.take i.2.2.1 ++ .ref r :: rest := by
  unfold z_cal0 at hc
  by_cases hd : d = 0 ∨ st.length < i.2.2.1
  · rw [if_pos hd] at hc; cases hc
  rw [if_neg hd] at hc
  have hc2 : (match st.drop i.2.2.1 with
    | .ref r :: rest => if z_cat rest ≤ 8 then some (i.2.1, .ref r :: (st.take i.2.2.1).reverse, rest) else none
    | _ => none) = some (j, as, rest) := by
    rcases hi with hi | hi <;> (rw [hi] at hc; exact hc)
  split at hc2
  case h_2 => cases hc2
  next r rest9 hdr =>
  by_cases h9 : z_cat rest9 ≤ 8
  case neg => rw [if_neg h9] at hc2; cases hc2
  rw [if_pos h9] at hc2
  simp only [Option.some.injEq, Prod.mk.injEq] at hc2
  obtain ⟨rfl, rfl, rfl⟩ := hc2
  exact ⟨rfl, by omega, by omega, h9, r, rfl, z_st hdr⟩
theorem z_yok_in {y : MethodName} {n : Nat} (h : z_yok y n = true) : y.cls ≠ "java/lang/invoke/MethodHandle" ∧ y.cls ≠ "java/lang/invoke/VarHandle" ∧ (parseMethodDescriptor y.desc).map (fun d => d.parameters.length) = some n := of_decide_eq_true h
theorem z_goodC {w : Cond} (h : w ∈ z_T) : GoodIn z_T (w :: z_T) := z_good (fun w' hw => by
    rcases List.mem_cons.mp hw with rfl | h9
    · exact h
    · exact h9)
theorem z_cwB {R : Room} {s : State} {args : Array Value} {own : String} {index maxL mc ms : Nat} {y : MethodName} {bytes : ByteArray} {ret : Option FieldType} {rm : Room} (n : Nat) (ht : ∀ w ∈ z_T, w.before args s = true) (h1 : Cond.methodLink own index y ∈ z_T) (h3 : Cond.initialized y.cls ∈ z_T) (h4 : Cond.code y bytes maxL ret ∈ z_T) (hrc : rm.cells = mc) (hrs : rm.slots = ms)
    (hd : z_yok y n = true) (hR : rm.frames + 1 ≤ R.frames ∧ 8 + (maxL + 11) + rm.locals ≤ R.locals) : CallB R s args own index y bytes maxL ret (.code y bytes maxL ret :: z_T) rm mc ms n :=
  callB_of n ht (z_goodC h4) rfl hrc hrs (ht _ h3) (ht _ h1) (z_yok_in hd) hR
theorem z_rmok {R : Room} {d C S kc ks maxL : Nat} (hR : z_Rm R d C S) (hd : 0 < d) (hm : maxL ≤ 41) : (z_rm (d - 1) kc ks).frames + 1 ≤ R.frames ∧ 8 + (maxL + 11) + (z_rm (d - 1) kc ks).locals ≤ R.locals := by
  obtain ⟨h1, h2, -, -⟩ := hR
  constructor
  · show d - 1 + 1 ≤ R.frames; omega
  · show 8 + (maxL + 11) + 60 * (d - 1) ≤ R.locals; omega
theorem z_asok {st : List Value} {n : Nat} {v : Value} {rest : List Value} {k : Nat} (hst : st = st.take n ++ v :: rest) (h : ∀ w ∈ st, z_okV k w) : (∀ w ∈ v :: (st.take n).reverse, z_okV k w) ∧ ∀ w ∈ rest, z_okV k w := by
  rw [hst] at h
  refine ⟨fun w hw => ?_, fun w hw => h w (List.mem_append_right _ (List.mem_cons_of_mem _ hw))⟩
  rcases List.mem_cons.mp hw with rfl | hw
  · exact h _ (List.mem_append_right _ List.mem_cons_self)
  · exact h w (List.mem_append_left _ (List.mem_reverse.mp hw))
theorem z_stk {st : List Value} {n : Nat} {v : Value} {rest : List Value} (ad : Nat → Nat) (hst : st = st.take n ++ v :: rest) : st.map (z_tr ad) = (((st.take n).reverse).map (z_tr ad)).reverse ++ z_tr ad v :: rest.map (z_tr ad) := by
  rw [List.map_reverse, List.reverse_reverse]
  conv => lhs; rw [hst]
  rw [List.map_append, List.map_cons]
theorem z_stk0 {st : List Value} {n : Nat} (ad : Nat → Nat) : st.map (z_tr ad) = (((st.take n).reverse).map (z_tr ad)).reverse ++ (st.drop n).map (z_tr ad) := by
  rw [List.map_reverse, List.reverse_reverse, ← List.map_append, List.take_append_drop]
theorem z_lens {st : List Value} {n : Nat} (ad : Nat → Nat) (h : n ≤ st.length) : (((st.take n).reverse).map (z_tr ad)).length = n := by
  rw [List.length_map, List.length_reverse, List.length_take]; omega
section ZCalls
variable {p : Program} {l : Launch} {e : Env} {R : Room} {s : State} {m : MethodId} {args : Array Value} {below : List Frame} {meth : Method} {c : Code} {Z : Nat} {D : va_G} {tc : Nat → ClassId} {adK adV : Nat → Nat} {sb : Nat} {sx : zX} {M : zMi} {is : List zJ} {hs : List zHd} {ad0 : Nat → Nat} {n0 C S d : Nat} {Q : State → Prop} {k : Nat} {lo : zL} {st : List Value} {h : zH} {i : zI} {q : zJ} {j' : Nat} {as rest : List Value} {oi : zO} {h1 : zH} {x1 y1 kc ks : Nat} {M' : zMi} {cs' : List zI} {is' : List zJ} {hs' : List zHd} {v : Option Value}
set_option maxHeartbeats 4000000 in
theorem z_cl54 (hFr : z_Fr p s m args meth c M) (hK : z_K l Z D tc adK adV sb sx s) (hA : z_A0 adK sb ad0) (hR : z_Rm R d C S) (hhs : M.2.2.2.2.2 = hs.map (fun x => (x.1, x.2.1, x.2.2.1, x.2.2.2.1))) (hckH : hs.all (z_ckH M is) = true) (hi1 : i.1 = 54) (hck : z_ckB M is hs i q k = true) (hd : decode M.2.2.1 q.1 = .ok (q.2.1, q.2.2.1)) (hnx : z_nxOf is k = q.1) (hcal : z_cal0 i d st h = some (j', as, rest)) (hM' : z_ms[j']? = some M') (hcs' : z_cs[j']? = some cs') (his' : z_is[j']? = some is') (hhs' : z_hs[j']? = some hs') (hck' : z_ckM M' cs' is' hs' = true) (hw : (lg_sl as).length ≤ M'.2.2.2.1)
    (hB : z_Bd sx (d - 1) j' 0 (lv_args 0 as) [] h oi h1 x1 y1)
    (hret : ∀ v, oi = .inl v → z_W p l e R s m args below meth c Z D tc M (z_nxOf is) ad0 n0 C S Q (k + 1) lo (v.toList ++ rest) h1 kc ks)
    (hthr : ∀ E, oi = .inr E → (∃ qh, hs.find? (fun q => q.2.2.2.2.1 == E) = some qh ∧ z_W p l e R s m args below meth c Z D tc M (z_nxOf is) ad0 n0 C S Q qh.2.2.2.2.2.1 (z_drop lo qh.2.2.2.2.2.2) [] h1 kc ks) ∨ (hs = [] ∧ kc = 0 ∧ ks = 0 ∧ z_HX p l e R s m args below meth c Z D tc is hs ad0 n0 C S Q (.inr E) h1)) :
    z_W p l e R s m args below meth c Z D tc M (z_nxOf is) ad0 n0 C S Q k lo st h (kc + x1) (ks + y1) := by
  obtain ⟨rfl, hd0, hn, hcat, r, ci, fs, rfl, hst, hr, hci⟩ := z_cal54 hi1 hcal
  rw [z_ckB54 hi1, hM'] at hck
  split at hck
  case h_2 => cases hck
  next idx M9 hins hM9 =>
  cases hM9
  simp only [Bool.and_eq_true, decide_eq_true_eq] at hck
  obtain ⟨⟨⟨⟨⟨⟨⟨⟨⟨⟨⟨⟨⟨c1, c2⟩, c3⟩, c4⟩, c5⟩, c6⟩, c7⟩, c8⟩, c9⟩, c10⟩, c11⟩, c12⟩, c13⟩, c14⟩ := hck
  rw [hins, c1, ← hnx] at hd
  rw [← hnx] at c2
  have hFr0 := hFr
  obtain ⟨hx, hb, hml, hr9, hown, hts, -⟩ := hFr
  intro ad H locs ls cells slots q1 q2 q3 q4 q5 q6 q7 q8 q9
  obtain ⟨ok1, ok2⟩ := z_asok hst q7
  have hMet := z_met hB hM' hcs' his' hhs' hck' hw c3 l Z D tc adK adV sb ad (hA.ag q2) ok1
  have hci2 : i.2.2.2.toNat = ci := by omega
  rw [hci2] at c5
  obtain ⟨qc, hqc, hqn⟩ : ∃ qc, vwCl[ci]? = some qc ∧ qc.1 = M'.1 := by
    cases hv : vwCl[ci]? with
    | none => rw [hv] at c5; cases c5
    | some qc => rw [hv] at c5; exact ⟨qc, rfl, Option.some.inj c5⟩
  have hrecv := va_recv (q := qc) (q0 := r) hK.2.1 q1.1 hqc (z_ws_get hr)
  rw [hqn] at hrecv
  have cw : CallW R s args M.1 M'.1 idx M'.2.1 M'.2.2.1 M'.2.2.2.1 M'.2.2.2.2.1 (.code M'.2.1 M'.2.2.1 M'.2.2.2.1 M'.2.2.2.2.1 :: z_T) (z_rm (d - 1) x1 y1) x1 y1 i.2.2.1 := ⟨z_cwB _ hts (z_w_in c7) (by rw [c4]; exact z_w_in c10) (z_w_in c11) rfl rfl c12 (z_rmok hR hd0 c13), hts _ (z_w_in c8), hts _ (z_w_in c9)⟩
  refine z_callx (vx_runV (As := ((st.take i.2.2.1).reverse).map (z_tr ad)) (rest := rest.map (z_tr ad)) (b := ad r) ⟨hx, hb, hml, hown, hts⟩ hMet cw ⟨z_Pm_blind, hrecv, fun U hU hW => ⟨rfl, hK.at q4 hU hW, by rw [hU]; exact q1⟩⟩ rfl (z_lens ad hn) q5.1 (z_stk ad hst) (lv_room (by rw [z_cat_tr]; exact hcat)) hd ⟨?_, ?_⟩) q4 (fun v hv ad' H1 locs1 g1 g2 g3 g4 g5 => z_cont (hret v hv) c2 q2 q3 q5 q6 ok2 q8 q9 g1 g2 g3 g4 g5) ?_
  · have := hR.2.2.1; omega
  · have := hR.2.2.2; omega
  intro x E hx9 hE ad' H1 locs1 q10 ce g1 g2 g3 g4 e1 e2 e3
  rcases hthr x hx9 with ⟨qh, hf, hW⟩ | ⟨hh0, rfl, rfl, hX⟩
  · exact z_caught (d := d) hFr0 hK hhs hckH (by rw [hnx]; exact c14) hf hE hW q2 q3 q5 q6 q8 q9 g1 g2 g3 g4 e1 e2 e3
  · exact hX x E rfl hE hh0 k ad' H1 locs1 ls (cells + x1) (slots + y1) (rest.map (z_tr ad)) q10 ce g2 (q2.trans g1 q3) (by omega) g4 e1 e2 e3 (by omega) (by omega)
set_option maxHeartbeats 4000000 in
theorem z_cl55 (hFr : z_Fr p s m args meth c M) (hK : z_K l Z D tc adK adV sb sx s) (hA : z_A0 adK sb ad0) (hR : z_Rm R d C S) (hi1 : i.1 = 55) (hck : z_ckB M is hs i q k = true) (hd : decode M.2.2.1 q.1 = .ok (q.2.1, q.2.2.1)) (hnx : z_nxOf is k = q.1) (hcal : z_cal0 i d st h = some (j', as, rest)) (hM' : z_ms[j']? = some M') (hcs' : z_cs[j']? = some cs') (his' : z_is[j']? = some is') (hhs' : z_hs[j']? = some hs') (hck' : z_ckM M' cs' is' hs' = true) (hw : (lg_sl as).length ≤ M'.2.2.2.1)
    (hB : z_Bd sx (d - 1) j' 0 (lv_args 0 as) [] h (.inl v) h1 x1 y1)
    (hret : z_W p l e R s m args below meth c Z D tc M (z_nxOf is) ad0 n0 C S Q (k + 1) lo (v.toList ++ rest) h1 kc ks) :
    z_W p l e R s m args below meth c Z D tc M (z_nxOf is) ad0 n0 C S Q k lo st h (kc + x1) (ks + y1) := by
  obtain ⟨rfl, hd0, hn, hcat, rfl, rfl⟩ := z_cal5x (Or.inl hi1) hcal
  rw [z_ckB55 hi1, hM'] at hck
  split at hck
  case h_2 => cases hck
  next idx M9 hins hM9 =>
  cases hM9
  simp only [Bool.and_eq_true, decide_eq_true_eq] at hck
  obtain ⟨⟨⟨⟨⟨⟨⟨⟨⟨c1, c2⟩, c3⟩, c4⟩, c5⟩, c6⟩, c7⟩, c8⟩, c9⟩, c10⟩ := hck
  rw [hins, c1, ← hnx] at hd
  rw [← hnx] at c2
  obtain ⟨hx, hb, hml, hr9, hown, hts, -⟩ := hFr
  intro ad H locs ls cells slots q1 q2 q3 q4 q5 q6 q7 q8 q9
  have ok1 : ∀ w ∈ (st.take i.2.2.1).reverse, z_okV h.length w := fun w hw => q7 w (List.mem_of_mem_take (List.mem_reverse.mp hw))
  have ok2 : ∀ w ∈ st.drop i.2.2.1, z_okV h.length w := fun w hw => q7 w (List.mem_of_mem_drop hw)
  have hMet := z_toMet (z_met hB hM' hcs' his' hhs' hck' hw c3 l Z D tc adK adV sb ad (hA.ag q2) ok1)
  have cw : CallB R s args M.1 idx M'.2.1 M'.2.2.1 M'.2.2.2.1 M'.2.2.2.2.1 (.code M'.2.1 M'.2.2.1 M'.2.2.2.1 M'.2.2.2.2.1 :: z_T) (z_rm (d - 1) x1 y1) x1 y1 i.2.2.1 := z_cwB _ hts (z_w_in c5) (by rw [c4]; exact z_w_in c7) (z_w_in c8) rfl rfl c9 (z_rmok hR hd0 c10)
  refine z_calln (va_runS (As := ((st.take i.2.2.1).reverse).map (z_tr ad)) (rest := (st.drop i.2.2.1).map (z_tr ad)) ⟨hx, hb, hml, hown, hts⟩ hMet ⟨cw, hts _ (z_w_in c6)⟩ ⟨z_Pm_blind, fun U hU hW => ⟨rfl, hK.at q4 hU hW, by rw [hU]; exact q1⟩⟩ rfl (z_lens ad hn) q5.1 (z_stk0 ad) (lv_room (by rw [z_cat_tr]; exact hcat)) hd ⟨?_, ?_⟩) q4 (fun v9 hv ad' H1 locs1 g1 g2 g3 g4 g5 => z_cont (v := v9) (by cases hv; exact hret) c2 q2 q3 q5 q6 ok2 q8 q9 g1 g2 g3 g4 g5)
  · have := hR.2.2.1; omega
  · have := hR.2.2.2; omega
set_option maxHeartbeats 4000000 in
theorem z_cl72 (hFr : z_Fr p s m args meth c M) (hK : z_K l Z D tc adK adV sb sx s) (hA : z_A0 adK sb ad0) (hR : z_Rm R d C S) (hi1 : i.1 = 72) (hck : z_ckB M is hs i q k = true) (hd : decode M.2.2.1 q.1 = .ok (q.2.1, q.2.2.1)) (hnx : z_nxOf is k = q.1) (hcal : z_cal0 i d st h = some (j', as, rest)) (hM' : z_ms[j']? = some M') (hcs' : z_cs[j']? = some cs') (his' : z_is[j']? = some is') (hhs' : z_hs[j']? = some hs') (hck' : z_ckM M' cs' is' hs' = true) (hw : (lg_sl as).length ≤ M'.2.2.2.1)
    (hB : z_Bd sx (d - 1) j' 0 (lv_args 0 as) [] h (.inl v) h1 x1 y1)
    (hret : z_W p l e R s m args below meth c Z D tc M (z_nxOf is) ad0 n0 C S Q (k + 1) lo (v.toList ++ rest) h1 kc ks) :
    z_W p l e R s m args below meth c Z D tc M (z_nxOf is) ad0 n0 C S Q k lo st h (kc + x1) (ks + y1) := by
  obtain ⟨rfl, hd0, hn, hcat, rfl, rfl⟩ := z_cal5x (Or.inr hi1) hcal
  rw [z_ckB72 hi1, hM'] at hck
  split at hck
  case h_2 => cases hck
  next idx M9 hins hM9 =>
  cases hM9
  simp only [Bool.and_eq_true, decide_eq_true_eq] at hck
  obtain ⟨⟨⟨⟨⟨⟨⟨⟨⟨c1, c2⟩, c3⟩, c4⟩, c5⟩, c6⟩, c7⟩, c8⟩, c9⟩, c10⟩ := hck
  rw [hins, c1, ← hnx] at hd
  rw [← hnx] at c2
  obtain ⟨hx, hb, hml, hr9, hown, hts, -⟩ := hFr
  intro ad H locs ls cells slots q1 q2 q3 q4 q5 q6 q7 q8 q9
  have ok1 : ∀ w ∈ (st.take i.2.2.1).reverse, z_okV h.length w := fun w hw => q7 w (List.mem_of_mem_take (List.mem_reverse.mp hw))
  have ok2 : ∀ w ∈ st.drop i.2.2.1, z_okV h.length w := fun w hw => q7 w (List.mem_of_mem_drop hw)
  have hMet := z_toMet (z_metH hB hM' hcs' his' hhs' hck' hw l Z D tc adK adV sb ad (hA.ag q2) ok1)
  have hR9 := z_rmok (kc := x1) (ks := y1) hR hd0 c10
  have hy := z_yok_in c9
  have cw : vx_CSW R s args M.1 idx M'.2.1 M'.2.2.1 M'.2.2.2.1 M'.2.2.2.2.1 M'.2.2.2.2.2 (.codeWith M'.2.1 M'.2.2.1 M'.2.2.2.1 M'.2.2.2.2.1 M'.2.2.2.2.2 :: z_T) (z_rm (d - 1) x1 y1) x1 y1 i.2.2.1 :=
    ⟨⟨rfl, rfl, hR9.1, hR9.2, pay_in hts (z_goodC (z_w_in c8)), List.mem_cons_self⟩, hts _ (z_w_in c8), hts _ (by rw [c4]; exact z_w_in c7), ⟨hy.1, hy.2.1⟩, fun sig h9 => by have h2 := hy.2.2; rw [h9] at h2; exact (Option.some.inj h2).symm, hts _ (z_w_in c5), hts _ (z_w_in c6)⟩
  refine z_calln (vx_runSW (As := ((st.take i.2.2.1).reverse).map (z_tr ad)) (rest := (st.drop i.2.2.1).map (z_tr ad)) ⟨hx, hb, hml, hown, hts⟩ hMet cw ⟨z_Pm_blind, fun U hU hW => ⟨rfl, hK.at q4 hU hW, by rw [hU]; exact q1⟩⟩ rfl (z_lens ad hn) q5.1 (z_stk0 ad) (lv_room (by rw [z_cat_tr]; exact hcat)) hd ⟨?_, ?_⟩) q4 (fun v9 hv ad' H1 locs1 g1 g2 g3 g4 g5 => z_cont (v := v9) (by cases hv; exact hret) c2 q2 q3 q5 q6 ok2 q8 q9 g1 g2 g3 g4 g5)
  · have := hR.2.2.1; omega
  · have := hR.2.2.2; omega
set_option maxHeartbeats 4000000 in
theorem z_cl56 (hFr : z_Fr p s m args meth c M) (hK : z_K l Z D tc adK adV sb sx s) (hA : z_A0 adK sb ad0) (hR : z_Rm R d C S) (hi1 : i.1 = 56) (hck : z_ckB M is hs i q k = true) (hd : decode M.2.2.1 q.1 = .ok (q.2.1, q.2.2.1)) (hnx : z_nxOf is k = q.1) (hcal : z_cal0 i d st h = some (j', as, rest)) (hM' : z_ms[j']? = some M') (hcs' : z_cs[j']? = some cs') (his' : z_is[j']? = some is') (hhs' : z_hs[j']? = some hs') (hck' : z_ckM M' cs' is' hs' = true) (hw : (lg_sl as).length ≤ M'.2.2.2.1)
    (hB : z_Bd sx (d - 1) j' 0 (lv_args 0 as) [] h (.inl v) h1 x1 y1)
    (hret : z_W p l e R s m args below meth c Z D tc M (z_nxOf is) ad0 n0 C S Q (k + 1) lo (v.toList ++ rest) h1 kc ks) :
    z_W p l e R s m args below meth c Z D tc M (z_nxOf is) ad0 n0 C S Q k lo st h (kc + x1) (ks + y1) := by
  obtain ⟨rfl, hd0, hn, hcat, r, rfl, hst⟩ := z_cal56 (Or.inl hi1) hcal
  rw [z_ckB56 hi1, hM'] at hck
  split at hck
  case h_2 => cases hck
  next idx M9 hins hM9 =>
  cases hM9
  simp only [Bool.and_eq_true, decide_eq_true_eq] at hck
  obtain ⟨⟨⟨⟨⟨⟨⟨⟨⟨⟨⟨c1, c2⟩, c3⟩, c4⟩, c5⟩, c6⟩, c7⟩, c8⟩, c9⟩, c10⟩, c11⟩, c12⟩ := hck
  rw [hins, c1, ← hnx] at hd
  rw [← hnx] at c2
  obtain ⟨hx, hb, hml, hr9, hown, hts, -⟩ := hFr
  intro ad H locs ls cells slots q1 q2 q3 q4 q5 q6 q7 q8 q9
  obtain ⟨ok1, ok2⟩ := z_asok hst q7
  have hMet := z_toMet (z_met hB hM' hcs' his' hhs' hck' hw c3 l Z D tc adK adV sb ad (hA.ag q2) ok1)
  rw [c6] at hMet
  have cw : CallB R s args M.1 idx M'.2.1 M'.2.2.1 M'.2.2.2.1 none (.code M'.2.1 M'.2.2.1 M'.2.2.2.1 none :: z_T) (z_rm (d - 1) x1 y1) x1 y1 i.2.2.1 := z_cwB _ hts (z_w_in c7) (by rw [c4]; exact z_w_in c9) (z_w_in c10) rfl rfl c11 (z_rmok hR hd0 c12)
  refine z_calln (va_runI (As := ((st.take i.2.2.1).reverse).map (z_tr ad)) (rest := rest.map (z_tr ad)) (b := ad r) ⟨hx, hb, hml, hown, hts⟩ hMet ⟨cw, c5, hts _ (z_w_in c8)⟩ ⟨z_Pm_blind, fun U hU hW => ⟨rfl, hK.at q4 hU hW, by rw [hU]; exact q1⟩⟩ rfl (z_lens ad hn) q5.1 (z_stk ad hst) (lv_room (by rw [z_cat_tr]; exact hcat)) hd ⟨?_, ?_⟩) q4 (fun v9 hv ad' H1 locs1 g1 g2 g3 g4 g5 => z_cont (v := v9) (by cases hv; exact hret) c2 q2 q3 q5 q6 ok2 q8 q9 g1 g2 g3 g4 g5)
  · have := hR.2.2.1; omega
  · have := hR.2.2.2; omega
set_option maxHeartbeats 4000000 in
theorem z_cl73 (hFr : z_Fr p s m args meth c M) (hK : z_K l Z D tc adK adV sb sx s) (hA : z_A0 adK sb ad0) (hR : z_Rm R d C S) (hi1 : i.1 = 73) (hck : z_ckB M is hs i q k = true) (hd : decode M.2.2.1 q.1 = .ok (q.2.1, q.2.2.1)) (hnx : z_nxOf is k = q.1) (hcal : z_cal0 i d st h = some (j', as, rest)) (hM' : z_ms[j']? = some M') (hcs' : z_cs[j']? = some cs') (his' : z_is[j']? = some is') (hhs' : z_hs[j']? = some hs') (hck' : z_ckM M' cs' is' hs' = true) (hw : (lg_sl as).length ≤ M'.2.2.2.1)
    (hB : z_Bd sx (d - 1) j' 0 (lv_args 0 as) [] h (.inl v) h1 x1 y1)
    (hret : z_W p l e R s m args below meth c Z D tc M (z_nxOf is) ad0 n0 C S Q (k + 1) lo (v.toList ++ rest) h1 kc ks) :
    z_W p l e R s m args below meth c Z D tc M (z_nxOf is) ad0 n0 C S Q k lo st h (kc + x1) (ks + y1) := by
  obtain ⟨rfl, hd0, hn, hcat, r, rfl, hst⟩ := z_cal56 (Or.inr hi1) hcal
  rw [z_ckB73 hi1, hM'] at hck
  split at hck
  case h_2 => cases hck
  next idx M9 hins hM9 =>
  cases hM9
  simp only [Bool.and_eq_true, decide_eq_true_eq] at hck
  obtain ⟨⟨⟨⟨⟨⟨⟨⟨⟨⟨⟨c1, c2⟩, c3⟩, c4⟩, c5⟩, c6⟩, c7⟩, c8⟩, c9⟩, c10⟩, c11⟩, c12⟩ := hck
  rw [hins, c1, ← hnx] at hd
  rw [← hnx] at c2
  obtain ⟨hx, hb, hml, hr9, hown, hts, -⟩ := hFr
  intro ad H locs ls cells slots q1 q2 q3 q4 q5 q6 q7 q8 q9
  obtain ⟨ok1, ok2⟩ := z_asok hst q7
  have hMet := z_toMet (z_met hB hM' hcs' his' hhs' hck' hw c3 l Z D tc adK adV sb ad (hA.ag q2) ok1)
  rw [c6] at hMet
  have cw : va_CN R s args M.1 idx M'.2.1 RX11 M'.2.2.1 M'.2.2.2.1 none (.code M'.2.1 M'.2.2.1 M'.2.2.2.1 none :: z_T) (z_rm (d - 1) x1 y1) x1 y1 i.2.2.1 := va_cnB _ hts (z_goodC (z_w_in c10)) rfl rfl rfl (hK.2.2.2.2.2.1 _ c7) (hts _ (by rw [c4]; exact z_w_in c9)) (z_yok_in c11) (z_rmok hR hd0 c12)
  refine z_calln (va_runIN (As := ((st.take i.2.2.1).reverse).map (z_tr ad)) (rest := rest.map (z_tr ad)) (b := ad r) ⟨hx, hb, hml, hown, hts⟩ hMet ⟨cw, c5, hts _ (z_w_in c8)⟩ ⟨z_Pm_blind, fun U hU hW => ⟨rfl, hK.at q4 hU hW, by rw [hU]; exact q1⟩⟩ rfl (z_lens ad hn) q5.1 (z_stk ad hst) (lv_room (by rw [z_cat_tr]; exact hcat)) hd ⟨?_, ?_⟩) q4 (fun v9 hv ad' H1 locs1 g1 g2 g3 g4 g5 => z_cont (v := v9) (by cases hv; exact hret) c2 q2 q3 q5 q6 ok2 q8 q9 g1 g2 g3 g4 g5)
  · have := hR.2.2.1; omega
  · have := hR.2.2.2; omega
end ZCalls
end
section
/-! the run is the machine's: one induction -/
theorem z_cal_no {i : zI} {d : Nat} {st : List Value} {h : zH} {j : Nat} {as rest : List Value} (hc : z_cal0 i d st h = some (j, as, rest)) : i.1 = 54 ∨ i.1 = 55 ∨ i.1 = 72 ∨ i.1 = 56 ∨ i.1 = 73 := by
  unfold z_cal0 at hc
  by_cases hd : d = 0 ∨ st.length < i.2.2.1
  · rw [if_pos hd] at hc; cases hc
  rw [if_neg hd] at hc
  split at hc
  · next h9 => exact Or.inl h9
  · next h9 => exact Or.inr (Or.inl h9)
  · next h9 => exact Or.inr (Or.inr (Or.inl h9))
  · next h9 => exact Or.inr (Or.inr (Or.inr (Or.inl h9)))
  · next h9 => exact Or.inr (Or.inr (Or.inr (Or.inr h9)))
  · cases hc
theorem z_ckB_op {M : zMi} {is : List zJ} {hs : List zHd} {i : zI} {q : zJ} {k : Nat} (h : i.1 ≠ 50 ∧ i.1 ≠ 51 ∧ i.1 ≠ 52 ∧ i.1 ≠ 53 ∧ i.1 ≠ 62 ∧ i.1 ≠ 54 ∧ i.1 ≠ 55 ∧ i.1 ≠ 72 ∧ i.1 ≠ 56 ∧ i.1 ≠ 73) : z_ckB M is hs i q k = (z_cks.getD i.1 zk_no) M i.2.1 i.2.2.1 i.2.2.2 q.1 q.2.1 q.2.2.1 q.2.2.2 (z_nxOf is) k := by
  obtain ⟨h0, h1, h2, h3, h4, h5, h6, h7, h8, h9⟩ := h
  unfold z_ckB
  split
  · next e => exact absurd e h0
  · next e => exact absurd e h1
  · next e => exact absurd e h2
  · next e => exact absurd e h3
  · next e => exact absurd e h4
  · next e => exact absurd e h5
  · next e => exact absurd e h6
  · next e => exact absurd e h7
  · next e => exact absurd e h8
  · next e => exact absurd e h9
  · rfl
theorem z_opno {sx : zX} {d a b k : Nat} {ci : Int} {lo : zL} {st : List Value} {h : zH} {o : Nat} (ho : o = 50 ∨ o = 51 ∨ o = 52 ∨ o = 53 ∨ o = 62 ∨ o = 54 ∨ o = 55 ∨ o = 72 ∨ o = 56 ∨ o = 73 ∨ o = 99) : (z_ops.getD o z_no) sx d a b ci k lo st h = none := by
  rcases ho with rfl | rfl | rfl | rfl | rfl | rfl | rfl | rfl | rfl | rfl | rfl <;> rfl
theorem z_lenAt {j : Nat} {M : zMi} (hL : z_LEN) (hM : z_ms[j]? = some M) : ∃ cs is hs, z_cs[j]? = some cs ∧ z_is[j]? = some is ∧ z_hs[j]? = some hs := by
  have hl := (List.getElem?_eq_some_iff.mp hM).1
  exact ⟨z_cs[j]'(by rw [hL.1]; exact hl), z_is[j]'(by rw [hL.2.1]; exact hl), z_hs[j]'(by rw [hL.2.2]; exact hl), List.getElem?_eq_getElem _, List.getElem?_eq_getElem _, List.getElem?_eq_getElem _⟩
theorem z_mapadd {r : Option zRes} {x y : Nat} {o : zO} {hF : zH} {kc ks : Nat} (h : r.map (z_add x y) = some (o, hF, kc, ks)) : ∃ a b, r = some (o, hF, a, b) ∧ kc = a + x ∧ ks = b + y := by
  cases r with
  | none => cases h
  | some w =>
    obtain ⟨o9, h9, a, b⟩ := w
    simp only [Option.map_some, z_add, Option.some.injEq, Prod.mk.injEq] at h
    obtain ⟨rfl, rfl, rfl, rfl⟩ := h
    exact ⟨a, b, rfl, rfl, rfl⟩
set_option maxHeartbeats 4000000 in
theorem z_sound (hOK : z_OK) (hLEN : z_LEN) (sx : zX) : ∀ (n d j k : Nat) (lo : zL) (st : List Value) (h : zH) (o : zO) (hF : zH) (x y : Nat), z_run sx n d j k lo st h = some (o, hF, x, y) → z_Bd sx d j k lo st h o hF x y := by
  intro n
  induction n with
  | zero => intro d j k lo st h o hF x y hr; rw [z_run] at hr; cases hr
  | succ n ih =>
    intro d j k lo st h o hF x y hr
    rw [z_run] at hr
    intro p l e R s m args below meth c Z D tc adK adV sb M cs is hs ad0 n0 C S Q hM hcs his hhs hFr hK hA hR hHR hHX
    rw [hM, hcs, hhs] at hr
    dsimp only at hr
    cases hk : cs[k]? with
    | none => rw [hk] at hr; cases hr
    | some i =>
    rw [hk] at hr
    dsimp only at hr
    have hckM := hOK j M cs is hs hM hcs his hhs
    have hckM0 := hckM
    unfold z_ckM at hckM
    simp only [Bool.and_eq_true, decide_eq_true_eq] at hckM
    obtain ⟨⟨⟨⟨⟨c1, c2⟩, c3⟩, c4⟩, c5⟩, c6⟩ := hckM
    obtain ⟨q, hq, hckA⟩ := z_ckL_at 0 cs is c6 k i hk
    rw [Nat.zero_add] at hckA
    have hnx : z_nxOf is k = q.1 := by unfold z_nxOf; rw [hq]; rfl
    cases hfin : z_fin M i d st with
    | some w =>
      obtain ⟨o9, x9, y9⟩ := w
      rw [hfin] at hr
      simp only [Option.some.injEq, Prod.mk.injEq] at hr
      obtain ⟨rfl, rfl, rfl, rfl⟩ := hr
      exact hHR k i q lo st x9 y9 hk hq hckA hfin
    | none =>
    rw [hfin] at hr
    dsimp only at hr
    cases hcal : z_cal i d st h with
    | some w =>
      obtain ⟨j', as, rest⟩ := w
      rw [hcal] at hr
      dsimp only at hr
      obtain ⟨hcal0, M', hM', hw⟩ := z_cal_in hcal
      obtain ⟨cs', is', hs', hcs', his', hhs'⟩ := z_lenAt hLEN hM'
      have hck' := hOK j' M' cs' is' hs' hM' hcs' his' hhs'
      have hop := z_cal_no hcal0
      have hckB : decode M.2.2.1 q.1 = .ok (q.2.1, q.2.2.1) ∧ z_ckB M is hs i q k = true := by
        unfold z_ckA at hckA
        rw [Bool.or_eq_true, Bool.and_eq_true, decide_eq_true_eq, decide_eq_true_eq] at hckA
        rcases hckA with h9 | h9
        · omega
        · exact h9
      cases hin : z_run sx n (d - 1) j' 0 (lv_args 0 as) [] h with
      | none => rw [hin] at hr; cases hr
      | some w =>
      obtain ⟨oi, h1, x1, y1⟩ := w
      rw [hin] at hr
      have hB := ih (d - 1) j' 0 (lv_args 0 as) [] h oi h1 x1 y1 hin
      cases oi with
      | inl v =>
        dsimp only at hr
        obtain ⟨a, b, hr2, rfl, rfl⟩ := z_mapadd hr
        have hW := ih d j (k + 1) lo (v.toList ++ rest) h1 o hF a b hr2 p l e R s m args below meth c Z D tc adK adV sb M cs is hs ad0 n0 C S Q hM hcs his hhs hFr hK hA hR hHR hHX
        rcases hop with hi | hi | hi | hi | hi
        · exact z_cl54 hFr hK hA hR c4 c5 hi hckB.2 hckB.1 hnx hcal0 hM' hcs' his' hhs' hck' hw hB (fun v9 hv => by cases hv; exact hW) (fun E hE => by cases hE)
        · exact z_cl55 hFr hK hA hR hi hckB.2 hckB.1 hnx hcal0 hM' hcs' his' hhs' hck' hw hB hW
        · exact z_cl72 hFr hK hA hR hi hckB.2 hckB.1 hnx hcal0 hM' hcs' his' hhs' hck' hw hB hW
        · exact z_cl56 hFr hK hA hR hi hckB.2 hckB.1 hnx hcal0 hM' hcs' his' hhs' hck' hw hB hW
        · exact z_cl73 hFr hK hA hR hi hckB.2 hckB.1 hnx hcal0 hM' hcs' his' hhs' hck' hw hB hW
      | inr E =>
        dsimp only at hr
        by_cases hi : i.1 = 54
        case neg => rw [if_neg hi] at hr; cases hr
        rw [if_pos hi] at hr
        cases hf : hs.find? (fun q => q.2.2.2.2.1 == E) with
        | some qh =>
          rw [hf] at hr
          dsimp only at hr
          obtain ⟨a, b, hr2, rfl, rfl⟩ := z_mapadd hr
          have hW := ih d j qh.2.2.2.2.2.1 (z_drop lo qh.2.2.2.2.2.2) [] h1 o hF a b hr2 p l e R s m args below meth c Z D tc adK adV sb M cs is hs ad0 n0 C S Q hM hcs his hhs hFr hK hA hR hHR hHX
          exact z_cl54 hFr hK hA hR c4 c5 hi hckB.2 hckB.1 hnx hcal0 hM' hcs' his' hhs' hck' hw hB (fun v9 hv => by cases hv) (fun E9 hE => by cases hE; exact Or.inl ⟨qh, hf, hW⟩)
        | none =>
          rw [hf] at hr
          dsimp only at hr
          by_cases hh : hs = []
          case neg => rw [if_neg hh] at hr; cases hr
          rw [if_pos hh] at hr
          simp only [Option.some.injEq, Prod.mk.injEq] at hr
          obtain ⟨rfl, rfl, rfl, rfl⟩ := hr
          have kk := z_cl54 (kc := 0) (ks := 0) (lo := lo) (Q := Q) (n0 := n0) (below := below) (e := e) hFr hK hA hR c4 c5 hi hckB.2 hckB.1 hnx hcal0 hM' hcs' his' hhs' hck' hw hB (fun v9 hv => by cases hv) (fun E9 hE => by cases hE; exact Or.inr ⟨hh, rfl, rfl, hHX⟩)
          rw [Nat.zero_add, Nat.zero_add] at kk
          exact kk
    | none =>
    rw [hcal] at hr
    dsimp only at hr
    cases hop : (z_ops.getD i.1 z_no) sx d i.2.1 i.2.2.1 i.2.2.2 k lo st h with
    | none => rw [hop] at hr; cases hr
    | some w =>
    obtain ⟨k', lo', st', h', x1, y1⟩ := w
    rw [hop] at hr
    dsimp only at hr
    obtain ⟨a, b, hr2, rfl, rfl⟩ := z_mapadd hr
    have hW := ih d j k' lo' st' h' o hF a b hr2 p l e R s m args below meth c Z D tc adK adV sb M cs is hs ad0 n0 C S Q hM hcs his hhs hFr hK hA hR hHR hHX
    have hno : ¬ (i.1 = 50 ∨ i.1 = 51 ∨ i.1 = 52 ∨ i.1 = 53 ∨ i.1 = 62 ∨ i.1 = 54 ∨ i.1 = 55 ∨ i.1 = 72 ∨ i.1 = 56 ∨ i.1 = 73 ∨ i.1 = 99) := fun h9 => by
      rw [z_opno h9] at hop; cases hop
    have hckB : decode M.2.2.1 q.1 = .ok (q.2.1, q.2.2.1) ∧ z_ckB M is hs i q k = true := by
      unfold z_ckA at hckA
      rw [Bool.or_eq_true, Bool.and_eq_true, decide_eq_true_eq, decide_eq_true_eq] at hckA
      rcases hckA with h9 | h9
      · exact absurd (Or.inr (Or.inr (Or.inr (Or.inr (Or.inr (Or.inr (Or.inr (Or.inr (Or.inr (Or.inr h9)))))))))) hno
      · exact h9
    have hck2 := hckB.2
    rw [z_ckB_op (by omega)] at hck2
    have hd := hckB.1
    rw [← hnx] at hd hck2
    exact z_all i.1 p l e R s m args below meth c Z D tc adK adV sb sx M (z_nxOf is) ad0 n0 C S d Q i.2.1 i.2.2.1 i.2.2.2 k q.2.1 q.2.2.1 q.2.2.2 hFr hK hA hR hd hck2 lo st h k' lo' st' h' x1 y1 hop a b hW
end
section
/-! ABSTRACT VALUES: a tag, a least, a most. 0: an int; 1: a long; 2: a cell whose type lies between; 3: that or null; 4: null; 5: a text; else the script -/
/-! LOOKING UP, cheap for the kernel -/
noncomputable def zlit {β : Type} (n : Nat) (F : Nat → β) : β := match Nat.add n 1 with
  | 0 => F n
  | m + 1 => F m
theorem zlit_eq {β : Type} {n : Nat} {F : Nat → β} : zlit n F = F n := rfl
noncomputable def zspn {α β : Type} (l : List α) (k : List α → β) : β := List.rec (motive := fun _ => (List α → β) → β) (fun k => k []) (fun x _ ih k => ih (fun ys => k (x :: ys))) l k
theorem zspn_eq {α β : Type} : ∀ {l : List α} {k : List α → β}, zspn l k = k l
  | [], _ => rfl
  | x :: xs, k => zspn_eq (l := xs) (k := fun ys => k (x :: ys))
noncomputable def zt1 {α : Type} (l : List α) : List α := List.rec (motive := fun _ => List α) [] (fun _ t _ => t) l
noncomputable def zt4 {α : Type} (l : List α) : List α := zt1 (zt1 (zt1 (zt1 l)))
noncomputable def zt16 {α : Type} (l : List α) : List α := zt4 (zt4 (zt4 (zt4 l)))
theorem zt1_get {α : Type} (l : List α) (k : Nat) : (zt1 l)[k]? = l[k + 1]? := by
  cases l with
  | nil => exact (List.getElem?_nil (i := k)).trans (List.getElem?_nil (i := k + 1)).symm
  | cons a t => exact (List.getElem?_cons_succ (a := a) (l := t) (i := k)).symm
theorem zt4_get {α : Type} (l : List α) (k : Nat) : (zt4 l)[k]? = l[k + 4]? := (zt1_get _ _).trans ((zt1_get _ _).trans ((zt1_get _ _).trans (zt1_get _ _)))
theorem zt16_get {α : Type} (l : List α) (k : Nat) : (zt16 l)[k]? = l[k + 16]? := (zt4_get _ _).trans ((zt4_get _ _).trans ((zt4_get _ _).trans (zt4_get _ _)))
noncomputable def zhd {α : Type} (l : List α) : Option α := List.rec (motive := fun _ => Option α) none (fun x _ _ => some x) l
theorem zhd_eq {α : Type} {l : List α} : zhd l = l[0]? := by
  cases l with
  | nil => exact (List.getElem?_nil (i := 0)).symm
  | cons a t => exact (List.getElem?_cons_zero (a := a) (l := t)).symm
noncomputable def zlk1 {α : Type} (l : List α) (k : Nat) : Option α := cond (Nat.beq k 0) (zhd l) (cond (Nat.beq k 1) (zhd (zt1 l)) (cond (Nat.beq k 2) (zhd (zt1 (zt1 l))) (cond (Nat.beq k 3) (zhd (zt1 (zt1 (zt1 l)))) l[k]?)))
theorem zlk1_eq {α : Type} (l : List α) : ∀ k : Nat, zlk1 l k = l[k]?
  | 0 => zhd_eq
  | 1 => zhd_eq.trans (zt1_get l 0)
  | 2 => zhd_eq.trans ((zt1_get _ 0).trans (zt1_get l 1))
  | 3 => zhd_eq.trans ((zt1_get _ 0).trans ((zt1_get _ 1).trans (zt1_get l 2)))
  | _ + 4 => rfl
noncomputable def zlk4 {α : Type} (n : Nat) : List α → Nat → Option α := Nat.rec (motive := fun _ => List α → Nat → Option α) (fun l k => l[k]?) (fun _ ih l k => cond (Nat.ble 4 k) (zlit (Nat.sub k 4) (ih (zt4 l))) (zlk1 l k)) n
theorem zlk4_eq {α : Type} : ∀ (n : Nat) (l : List α) (k : Nat), zlk4 n l k = l[k]?
  | 0, _, _ => rfl
  | n + 1, l, k => by
    show cond (Nat.ble 4 k) (zlk4 n (zt4 l) (Nat.sub k 4)) (zlk1 l k) = l[k]?
    rw [zlk4_eq n, zlk1_eq]
    cases h : Nat.ble 4 k with
    | true =>
      have q := Nat.le_of_ble_eq_true h
      exact (zt4_get _ _).trans (congrArg (fun i => l[i]?) (by show k - 4 + 4 = k; omega))
    | false => rfl
noncomputable def zlk16 {α : Type} (n : Nat) : List α → Nat → Option α := Nat.rec (motive := fun _ => List α → Nat → Option α) (fun l k => l[k]?) (fun _ ih l k => cond (Nat.ble 16 k) (zlit (Nat.sub k 16) (ih (zt16 l))) (zlk4 4 l k)) n
theorem zlk16_eq {α : Type} : ∀ (n : Nat) (l : List α) (k : Nat), zlk16 n l k = l[k]?
  | 0, _, _ => rfl
  | n + 1, l, k => by
    show cond (Nat.ble 16 k) (zlk16 n (zt16 l) (Nat.sub k 16)) (zlk4 4 l k) = l[k]?
    rw [zlk16_eq n, zlk4_eq]
    cases h : Nat.ble 16 k with
    | true =>
      have q := Nat.le_of_ble_eq_true h
      exact (zt16_get _ _).trans (congrArg (fun i => l[i]?) (by show k - 16 + 16 = k; omega))
    | false => rfl
noncomputable def zlku {α : Type} (l : List α) (k : Nat) : Option α := zlk16 64 l k
theorem zlku_eq {α : Type} {l : List α} {k : Nat} : zlku l k = l[k]? := zlk16_eq 64 l k
noncomputable def zlkd {α : Type} (l : List α) (k : Nat) (d : α) : α := (zlku l k).getD d
theorem zlkd_eq {α : Type} {l : List α} {k : Nat} {d : α} : zlkd l k d = l.getD k d := by
  unfold zlkd
  rw [zlku_eq, List.getD_eq_getElem?_getD]
noncomputable def zsn {α : Type} (l : List α) (e : α) : List α := List.rec (motive := fun _ => List α) [e] (fun x _ ih => x :: ih) l
theorem zsn_eq {α : Type} {e : α} : ∀ {l : List α}, zsn l e = l ++ [e]
  | [] => rfl
  | x :: t => congrArg (x :: ·) (zsn_eq (l := t))
noncomputable def zln {α : Type} (l : List α) : Nat := List.rec (motive := fun _ => Nat) 0 (fun _ _ ih => Nat.add ih 1) l
theorem zln_eq {α : Type} : ∀ {l : List α}, zln l = l.length
  | [] => rfl
  | _ :: t => congrArg (fun n => n + 1) (zln_eq (l := t))
noncomputable def zse {α : Type} (l : List α) (e : α) : Nat → List α := List.rec (motive := fun _ => Nat → List α) (fun _ => []) (fun x t ih i => cond (Nat.beq i 0) (e :: t) (x :: zlit (Nat.sub i 1) ih)) l
theorem zse_eq {α : Type} {e : α} : ∀ {l : List α} {i : Nat}, zse l e i = l.set i e
  | [], _ => rfl
  | _ :: _, 0 => rfl
  | x :: t, i + 1 => congrArg (x :: ·) (zse_eq (l := t) (i := i))
theorem znb (a b : Nat) : (a == b) = Nat.beq a b := by
  cases h : Nat.beq a b with
  | true => rw [Nat.eq_of_beq_eq_true h]; exact beq_self_eq_true b
  | false => exact beq_false_of_ne (Nat.ne_of_beq_eq_false h)
noncomputable def zfnd (loc : List (Nat × Nat)) (a : Nat) : Option Nat := List.rec (motive := fun _ => Option Nat) none (fun p _ ih => cond (Nat.beq p.1 a) (some p.2) ih) loc
theorem zfnd_eq {a : Nat} : ∀ {loc : List (Nat × Nat)}, zfnd loc a = (loc.find? (fun p => p.1 == a)).map (fun p => p.2)
  | [] => rfl
  | p :: t => by
    show cond (Nat.beq p.1 a) (some p.2) (zfnd t a) = Option.map (fun (p : Nat × Nat) => p.2) (match p.1 == a with | true => some p | false => t.find? (fun p => p.1 == a))
    rw [znb, zfnd_eq (loc := t)]
    cases Nat.beq p.1 a <;> rfl
abbrev zA : Type := Nat × Int × Int
abbrev zTy : Type := Nat × Nat × Nat × List (Int × Int × zA)
abbrev zMod : Type := Nat × Int × Int
noncomputable def zG (ty : List Nat) (a : zA) (v : Value) : Prop := match a with
  | (0, lo, hi) => ∃ x : Int32, v = .int x ∧ lo ≤ x.toInt ∧ x.toInt ≤ hi
  | (1, lo, hi) => ∃ x : Int64, v = .long x ∧ lo ≤ x.toInt ∧ x.toInt ≤ hi
  | (2, lo, hi) => ∃ i t : Nat, v = .ref i ∧ ty[i]? = some t ∧ lo ≤ (t : Int) ∧ (t : Int) ≤ hi
  | (3, lo, hi) => v = .null ∨ ∃ i t : Nat, v = .ref i ∧ ty[i]? = some t ∧ lo ≤ (t : Int) ∧ (t : Int) ≤ hi
  | (4, _, _) => v = .null
  | (5, k, _) => v = .ref (zB + k.toNat)
  | _ => v = .ref zS
noncomputable def zRi (a b : zA) : Bool := decide (b.2.1 ≤ a.2.1) && decide (a.2.2 ≤ b.2.2)
noncomputable def zLe (a b : zA) : Bool := match a.1, b.1 with
  | 0, 0 => zRi a b
  | 1, 1 => zRi a b
  | 2, 2 => zRi a b
  | 3, 3 => zRi a b
  | 2, 3 => zRi a b
  | 4, 3 => true
  | _, _ => decide (a = b)
theorem zRi_ok {a b : zA} (h : zRi a b = true) : b.2.1 ≤ a.2.1 ∧ a.2.2 ≤ b.2.2 := by
  unfold zRi at h
  simpa using h
theorem zLe_ok {ty : List Nat} {a b : zA} {v : Value} (h : zLe a b = true) (g : zG ty a v) : zG ty b v := by
  obtain ⟨ta, la, ha⟩ := a
  obtain ⟨tb, lb, hb⟩ := b
  unfold zLe at h
  split at h
  · next e1 e2 =>
    dsimp only at e1 e2; subst e1; subst e2
    obtain ⟨h1, h2⟩ := zRi_ok h
    obtain ⟨x, rfl, g1, g2⟩ := g
    exact ⟨x, rfl, Int.le_trans h1 g1, Int.le_trans g2 h2⟩
  · next e1 e2 =>
    dsimp only at e1 e2; subst e1; subst e2
    obtain ⟨h1, h2⟩ := zRi_ok h
    obtain ⟨x, rfl, g1, g2⟩ := g
    exact ⟨x, rfl, Int.le_trans h1 g1, Int.le_trans g2 h2⟩
  · next e1 e2 =>
    dsimp only at e1 e2; subst e1; subst e2
    obtain ⟨h1, h2⟩ := zRi_ok h
    obtain ⟨i, t, rfl, g0, g1, g2⟩ := g
    exact ⟨i, t, rfl, g0, Int.le_trans h1 g1, Int.le_trans g2 h2⟩
  · next e1 e2 =>
    dsimp only at e1 e2; subst e1; subst e2
    obtain ⟨h1, h2⟩ := zRi_ok h
    rcases g with g | ⟨i, t, rfl, g0, g1, g2⟩
    · exact Or.inl g
    · exact Or.inr ⟨i, t, rfl, g0, Int.le_trans h1 g1, Int.le_trans g2 h2⟩
  · next e1 e2 =>
    dsimp only at e1 e2; subst e1; subst e2
    obtain ⟨h1, h2⟩ := zRi_ok h
    obtain ⟨i, t, rfl, g0, g1, g2⟩ := g
    exact Or.inr ⟨i, t, rfl, g0, Int.le_trans h1 g1, Int.le_trans g2 h2⟩
  · next e1 e2 =>
    dsimp only at e1 e2; subst e1; subst e2
    exact Or.inl g
  · rw [← of_decide_eq_true h]
    exact g
noncomputable def zExt (ty ty' : List Nat) : Prop := ∀ i t : Nat, ty[i]? = some t → ty'[i]? = some t
theorem zExt.rf {ty : List Nat} : zExt ty ty := fun _ _ h => h
theorem zExt.tr {a b c : List Nat} (h1 : zExt a b) (h2 : zExt b c) : zExt a c := fun i t h => h2 i t (h1 i t h)
theorem zG_ext {ty ty' : List Nat} {a : zA} {v : Value} (h : zExt ty ty') (g : zG ty a v) : zG ty' a v := by
  unfold zG at g ⊢
  split at g
  · exact g
  · exact g
  · obtain ⟨i, t, e, g0, g1⟩ := g
    exact ⟨i, t, e, h i t g0, g1⟩
  · rcases g with g | ⟨i, t, e, g0, g1⟩
    · exact Or.inl g
    · exact Or.inr ⟨i, t, e, h i t g0, g1⟩
  · exact g
  · exact g
  · next n1 n2 n3 n4 n5 n6 =>
    obtain ⟨t, lo, hi⟩ := a
    exact g
/-! places of a cell -/
noncomputable def z_rd (e : zE) (i : Nat) : Option Value := match e with
  | .inr (_, fs) => fs[i]?
  | .inl (0, (n, .inl f)) => if i < n then some (.int (f i)) else none
  | .inl (1, (n, .inl f)) => if i < n then some (.int (f i)) else none
  | .inl (2, (n, .inr (.inl f))) => if i < n then some (.long (f i)) else none
  | .inl (3, (n, .inr (.inr (.inr (.inr f))))) => if i < n then some (va_rf (f i)) else none
  | _ => none
/-- the cell is of this shape: 0 an object of a class, 1 ints, 2 bytes, 3 longs, 4 cells -/
noncomputable def z_sh (T : zTy) (e : zE) : Prop := match T.1, e with
  | 0, .inr (c, fs) => c = T.2.1 ∧ fs.length = T.2.2.1
  | 1, .inl (0, (n, .inl _)) => n = T.2.2.1
  | 2, .inl (1, (n, .inl _)) => n = T.2.2.1
  | 3, .inl (2, (n, .inr (.inl _))) => n = T.2.2.1
  | 4, .inl (3, (n, .inr (.inr (.inr (.inr _))))) => n = T.2.2.1
  | _, _ => False
/-- the heap is typed: each cell of its type's shape, each place within its region's values -/
noncomputable def zTY (tt : Nat → zTy) (ty : List Nat) (h : zH) : Prop := ty.length = h.length ∧ h.length ≤ zB ∧ ∀ (a t : Nat) (e : zE), ty[a]? = some t → h[a]? = some e → z_sh (tt t) e ∧ ∀ (i : Nat) (v : Value), z_rd e i = some v → ∀ r ∈ (tt t).2.2.2, r.1 ≤ (i : Int) → (i : Int) ≤ r.2.1 → zG ty r.2.2 v
noncomputable def zIn (ms : List zMod) (t : Nat) (i : Nat) : Prop := ∃ m ∈ ms, m.1 = t ∧ m.2.1 ≤ (i : Int) ∧ (i : Int) ≤ m.2.2
/-- nothing has changed but at places that ms names -/
noncomputable def zFm (ms : List zMod) (ty : List Nat) (h h' : zH) : Prop := h.length ≤ h'.length ∧ ∀ (a t : Nat) (e e' : zE), ty[a]? = some t → h[a]? = some e → h'[a]? = some e' → ∀ i, ¬ zIn ms t i → z_rd e' i = z_rd e i
theorem zFm.rf {ms : List zMod} {ty : List Nat} {h : zH} : zFm ms ty h h := ⟨Nat.le_refl _, fun a t e e' _ h1 h2 i _ => by rw [h1] at h2; cases h2; rfl⟩
theorem zFm.tr {ms : List zMod} {ty ty' : List Nat} {h h' h'' : zH} (h1 : zFm ms ty h h') (hx : zExt ty ty') (h2 : zFm ms ty' h' h'') : zFm ms ty h h'' := by
  refine ⟨Nat.le_trans h1.1 h2.1, fun a t e e'' ht he he'' i hi => ?_⟩
  have hl : a < h'.length := Nat.lt_of_lt_of_le (List.getElem?_eq_some_iff.mp he).1 h1.1
  rw [h2.2 a t h'[a] e'' (hx a t ht) (List.getElem?_eq_getElem hl) he'' i hi, h1.2 a t e h'[a] ht he (List.getElem?_eq_getElem hl) i hi]
theorem zFm.mono {ms ms' : List zMod} {ty : List Nat} {h h' : zH} (h1 : zFm ms ty h h') (hm : ∀ t i, zIn ms t i → zIn ms' t i) : zFm ms' ty h h' := ⟨h1.1, fun a t e e' ht he he' i hi => h1.2 a t e e' ht he he' i (fun q => hi (hm t i q))⟩
/-- one place is written -/
theorem zTY.wr {tt : Nat → zTy} {ty : List Nat} {h : zH} {a t : Nat} {e e' : zE} {i : Nat} {v : Value} (H : zTY tt ty h) (ht : ty[a]? = some t) (he : h[a]? = some e) (hs : z_sh (tt t) e') (hr : ∀ j, z_rd e' j = if j = i then some v else z_rd e j) (hv : ∀ r ∈ (tt t).2.2.2, r.1 ≤ (i : Int) → (i : Int) ≤ r.2.1 → zG ty r.2.2 v) : zTY tt ty (h.set a e') := by
  refine ⟨by rw [List.length_set]; exact H.1, by rw [List.length_set]; exact H.2.1, fun b s f hs1 hf => ?_⟩
  by_cases hb : b = a
  · subst hb
    have hl := (List.getElem?_eq_some_iff.mp he).1
    rw [List.getElem?_set_self hl] at hf
    cases hf
    rw [ht] at hs1
    cases hs1
    refine ⟨hs, fun j w hw r hr1 h1 h2 => ?_⟩
    rw [hr j] at hw
    by_cases hj : j = i
    · subst hj
      rw [if_pos rfl] at hw
      cases hw
      exact hv r hr1 h1 h2
    · rw [if_neg hj] at hw
      exact (H.2.2 b _ e ht he).2 j w hw r hr1 h1 h2
  · rw [List.getElem?_set_ne (fun q => hb q.symm)] at hf
    exact H.2.2 b s f hs1 hf
theorem zFm.wr {ms : List zMod} {ty : List Nat} {h : zH} {a t : Nat} {e e' : zE} {i : Nat} {v : Value} (ht : ty[a]? = some t) (he : h[a]? = some e) (hr : ∀ j, z_rd e' j = if j = i then some v else z_rd e j) (hm : zIn ms t i) : zFm ms ty h (h.set a e') := by
  refine ⟨by rw [List.length_set]; exact Nat.le_refl _, fun b s f f' hs hf hf' j hj => ?_⟩
  by_cases hb : b = a
  · subst hb
    rw [List.getElem?_set_self (List.getElem?_eq_some_iff.mp he).1] at hf'
    cases hf'
    rw [he] at hf
    cases hf
    rw [ht] at hs
    cases hs
    rw [hr j, if_neg (fun q => hj (by rw [q]; exact hm))]
  · rw [List.getElem?_set_ne (fun q => hb q.symm), hf] at hf'
    cases hf'
    rfl
theorem z_rd_obj {c : Nat} {fs : List Value} {i : Nat} {v : Value} (hi : i < fs.length) (j : Nat) : z_rd (.inr (c, fs.set i v)) j = if j = i then some v else z_rd (.inr (c, fs)) j := by
  unfold z_rd
  dsimp only
  by_cases h : j = i
  · subst h; rw [if_pos rfl, List.getElem?_set_self hi]
  · rw [if_neg h, List.getElem?_set_ne (fun q => h q.symm)]
theorem z_rd0 {n : Nat} {f : Nat → Int32} {i : Nat} : z_rd (.inl (0, (n, .inl f))) i = if i < n then some (.int (f i)) else none := rfl
theorem z_rd1 {n : Nat} {f : Nat → Int32} {i : Nat} : z_rd (.inl (1, (n, .inl f))) i = if i < n then some (.int (f i)) else none := rfl
theorem z_rd2 {n : Nat} {f : Nat → Int64} {i : Nat} : z_rd (.inl (2, (n, .inr (.inl f)))) i = if i < n then some (.long (f i)) else none := rfl
theorem z_rd3 {n : Nat} {f : Nat → Option Nat} {i : Nat} : z_rd (.inl (3, (n, .inr (.inr (.inr (.inr f)))))) i = if i < n then some (va_rf (f i)) else none := rfl
theorem z_rd_int {n : Nat} {f : Nat → Int32} {i : Nat} {x : Int32} (hi : i < n) (j : Nat) : z_rd (.inl (0, (n, .inl (upd f i x)))) j = if j = i then some (.int x) else z_rd (.inl (0, (n, .inl f))) j := by
  rw [z_rd0, z_rd0]
  unfold upd
  by_cases h : j = i
  · subst h; rw [if_pos rfl, if_pos hi, if_pos rfl]
  · rw [if_neg h, if_neg h]
theorem z_rd_byte {n : Nat} {f : Nat → Int32} {i : Nat} {x : Int32} (hi : i < n) (j : Nat) : z_rd (.inl (1, (n, .inl (upd f i x)))) j = if j = i then some (.int x) else z_rd (.inl (1, (n, .inl f))) j := by
  rw [z_rd1, z_rd1]
  unfold upd
  by_cases h : j = i
  · subst h; rw [if_pos rfl, if_pos hi, if_pos rfl]
  · rw [if_neg h, if_neg h]
theorem z_rd_long {n : Nat} {f : Nat → Int64} {i : Nat} {x : Int64} (hi : i < n) (j : Nat) : z_rd (.inl (2, (n, .inr (.inl (vp_updL f i x))))) j = if j = i then some (.long x) else z_rd (.inl (2, (n, .inr (.inl f)))) j := by
  rw [z_rd2, z_rd2]
  unfold vp_updL
  by_cases h : j = i
  · subst h; rw [if_pos rfl, if_pos hi, if_pos rfl]
  · rw [if_neg h, if_neg h]
/-! numbers -/
theorem z_bm {n : Int} (h1 : -2147483648 ≤ n) (h2 : n ≤ 2147483647) : n.bmod (2 ^ 32) = n := by
  rw [Int.bmod_def]
  split <;> omega
theorem z_bm64 {n : Int} (h1 : -9223372036854775808 ≤ n) (h2 : n ≤ 9223372036854775807) : n.bmod (2 ^ 64) = n := by
  rw [Int.bmod_def]
  split <;> omega
theorem zb32 (x : Int32) : -2147483648 ≤ x.toInt ∧ x.toInt ≤ 2147483647 := by
  have h1 := x.le_toInt
  have h2 := x.toInt_lt
  omega
theorem zb64 (x : Int64) : -9223372036854775808 ≤ x.toInt ∧ x.toInt ≤ 9223372036854775807 := by
  have h1 := x.le_toInt
  have h2 := x.toInt_lt
  omega
theorem z_of32 {n : Int} (h1 : -2147483648 ≤ n) (h2 : n ≤ 2147483647) : (Int32.ofInt n).toInt = n := Int32.toInt_ofInt_of_le (by omega) (by omega)
theorem z_of64 {n : Int} (h1 : -9223372036854775808 ≤ n) (h2 : n ≤ 9223372036854775807) : (Int64.ofInt n).toInt = n := Int64.toInt_ofInt_of_le (by omega) (by omega)
theorem z_inn {i : Int32} {n : Nat} (h1 : 0 ≤ i.toInt) (h2 : i.toInt < (n : Int)) : z_in i n = true ∧ i.toNatClampNeg < n ∧ (i.toNatClampNeg : Int) = i.toInt := by
  have e : i.toNatClampNeg = i.toInt.toNat := rfl
  have h0 : ¬ i < 0 := by
    rw [Int32.lt_iff_toInt_lt]
    show ¬ i.toInt < (0 : Int32).toInt
    rw [show (0 : Int32).toInt = 0 from rfl]
    omega
  refine ⟨?_, by rw [e]; omega, by rw [e]; omega⟩
  unfold z_in
  rw [decide_eq_false h0, decide_eq_false (by rw [e]; omega)]
  rfl
end
section
/-! THE RUN AS A JUDGEMENT: from here it ends, with Ψ -/
noncomputable def z_ok (sx : zX) (d j k : Nat) (lo : zL) (st : List Value) (h : zH) (Ψ : zO → zH → Nat → Nat → Prop) : Prop := ∃ n o h' x y, z_run sx n d j k lo st h = some (o, h', x, y) ∧ Ψ o h' x y
theorem z_ok.imp {sx : zX} {d j k : Nat} {lo : zL} {st : List Value} {h : zH} {Ψ Ψ' : zO → zH → Nat → Nat → Prop} (H : z_ok sx d j k lo st h Ψ) (hi : ∀ o h' x y, Ψ o h' x y → Ψ' o h' x y) : z_ok sx d j k lo st h Ψ' := by
  obtain ⟨n, o, h', x, y, e, q⟩ := H
  exact ⟨n, o, h', x, y, e, hi o h' x y q⟩
theorem z_run1 (sx : zX) : ∀ (n d j k : Nat) (lo : zL) (st : List Value) (h : zH) (r : zRes), z_run sx n d j k lo st h = some r → z_run sx (n + 1) d j k lo st h = some r := by
  intro n
  induction n with
  | zero => intro d j k lo st h r hr; rw [z_run] at hr; cases hr
  | succ n ih =>
    intro d j k lo st h r hr
    rw [z_run] at hr
    rw [z_run]
    cases hM : z_ms[j]? with
    | none => rw [hM] at hr; cases hr
    | some M =>
    cases hC : z_cs[j]? with
    | none => rw [hM, hC] at hr; cases hr
    | some cs =>
    cases hH : z_hs[j]? with
    | none => rw [hM, hC, hH] at hr; cases hr
    | some hs =>
    rw [hM, hC, hH] at hr
    dsimp only at hr ⊢
    cases hk : cs[k]? with
    | none => rw [hk] at hr; cases hr
    | some i =>
    rw [hk] at hr
    dsimp only at hr ⊢
    cases hf : z_fin M i d st with
    | some w => rw [hf] at hr; exact hr
    | none =>
    rw [hf] at hr
    dsimp only at hr ⊢
    cases hc : z_cal i d st h with
    | some w =>
      obtain ⟨j', as, rest⟩ := w
      rw [hc] at hr
      dsimp only at hr ⊢
      cases hin : z_run sx n (d - 1) j' 0 (lv_args 0 as) [] h with
      | none => rw [hin] at hr; cases hr
      | some w =>
      obtain ⟨oi, h1, x1, y1⟩ := w
      rw [hin] at hr
      rw [ih _ _ _ _ _ _ _ hin]
      cases oi with
      | inl v =>
        dsimp only at hr ⊢
        obtain ⟨r1, r2, r3, r4⟩ := r
        obtain ⟨a, b, e1, e2, e3⟩ := z_mapadd hr
        rw [ih _ _ _ _ _ _ _ e1, e2, e3]
        rfl
      | inr E =>
        dsimp only at hr ⊢
        by_cases hi : i.1 = 54
        case neg => rw [if_neg hi] at hr; cases hr
        rw [if_pos hi] at hr ⊢
        cases hfd : hs.find? (fun q => q.2.2.2.2.1 == E) with
        | some q =>
          rw [hfd] at hr
          dsimp only at hr ⊢
          obtain ⟨r1, r2, r3, r4⟩ := r
          obtain ⟨a, b, e1, e2, e3⟩ := z_mapadd hr
          rw [ih _ _ _ _ _ _ _ e1, e2, e3]
          rfl
        | none => rw [hfd] at hr; exact hr
    | none =>
    rw [hc] at hr
    dsimp only at hr ⊢
    cases ho : (z_ops.getD i.1 z_no) sx d i.2.1 i.2.2.1 i.2.2.2 k lo st h with
    | none => rw [ho] at hr; cases hr
    | some w =>
    obtain ⟨k', lo', st', h', x1, y1⟩ := w
    rw [ho] at hr
    dsimp only at hr ⊢
    obtain ⟨r1, r2, r3, r4⟩ := r
    obtain ⟨a, b, e1, e2, e3⟩ := z_mapadd hr
    rw [ih _ _ _ _ _ _ _ e1, e2, e3]
    rfl
theorem z_runs {sx : zX} {n m d j k : Nat} {lo : zL} {st : List Value} {h : zH} {r : zRes} (hr : z_run sx n d j k lo st h = some r) (hm : n ≤ m) : z_run sx m d j k lo st h = some r := by
  induction hm with
  | refl => exact hr
  | step _ ih => exact z_run1 sx _ _ _ _ _ _ _ _ ih
section ZOK
variable {sx : zX} {d j k : Nat} {lo : zL} {st : List Value} {h : zH} {Ψ : zO → zH → Nat → Nat → Prop} {M : zMi} {cs : List zI} {hs : List zHd} {i : zI}
theorem z_ok.fin {o : zO} {x y : Nat} (hM : z_ms[j]? = some M) (hC : z_cs[j]? = some cs) (hH : z_hs[j]? = some hs) (hi : cs[k]? = some i) (hf : z_fin M i d st = some (o, x, y)) (kk : Ψ o h x y) : z_ok sx d j k lo st h Ψ := by
  refine ⟨1, o, h, x, y, ?_, kk⟩
  rw [z_run, hM, hC, hH]
  dsimp only
  rw [hi]
  dsimp only
  rw [hf]
theorem z_ok.step {k' : Nat} {lo' : zL} {st' : List Value} {h' : zH} {x y : Nat} (hM : z_ms[j]? = some M) (hC : z_cs[j]? = some cs) (hH : z_hs[j]? = some hs) (hi : cs[k]? = some i) (hf : z_fin M i d st = none) (hc : z_cal i d st h = none) (ho : (z_ops.getD i.1 z_no) sx d i.2.1 i.2.2.1 i.2.2.2 k lo st h = some (k', lo', st', h', x, y)) (kk : z_ok sx d j k' lo' st' h' (fun o h9 a b => Ψ o h9 (a + x) (b + y))) : z_ok sx d j k lo st h Ψ := by
  obtain ⟨n, o, h9, a, b, e, q⟩ := kk
  refine ⟨n + 1, o, h9, a + x, b + y, ?_, q⟩
  rw [z_run, hM, hC, hH]
  dsimp only
  rw [hi]
  dsimp only
  rw [hf]
  dsimp only
  rw [hc]
  dsimp only
  rw [ho]
  dsimp only
  rw [e]
  rfl
/-- what a caller owes behind a call -/
noncomputable def zRes1 (sx : zX) (d j k : Nat) (lo : zL) (rest : List Value) (i : zI) (hs : List zHd) (Ψ : zO → zH → Nat → Nat → Prop) (o : zO) (h1 : zH) (x y : Nat) : Prop := match o with
  | .inl v => z_ok sx d j (k + 1) lo (v.toList ++ rest) h1 (fun o' h' a b => Ψ o' h' (a + x) (b + y))
  | .inr E => i.1 = 54 ∧ (match hs.find? (fun q => q.2.2.2.2.1 == E) with
    | some q => z_ok sx d j q.2.2.2.2.2.1 (z_drop lo q.2.2.2.2.2.2) [] h1 (fun o' h' a b => Ψ o' h' (a + x) (b + y))
    | none => hs = [] ∧ Ψ (.inr E) h1 x y)
theorem z_ok.call {j' : Nat} {as rest : List Value} (hM : z_ms[j]? = some M) (hC : z_cs[j]? = some cs) (hH : z_hs[j]? = some hs) (hi : cs[k]? = some i) (hf : z_fin M i d st = none) (hc : z_cal i d st h = some (j', as, rest)) (kk : z_ok sx (d - 1) j' 0 (lv_args 0 as) [] h (zRes1 sx d j k lo rest i hs Ψ)) : z_ok sx d j k lo st h Ψ := by
  obtain ⟨n, o, h1, x, y, e, q⟩ := kk
  cases o with
  | inl v =>
    obtain ⟨n2, o2, h2, a, b, e2, q2⟩ := q
    refine ⟨max n n2 + 1, o2, h2, a + x, b + y, ?_, q2⟩
    rw [z_run, hM, hC, hH]
    dsimp only
    rw [hi]
    dsimp only
    rw [hf]
    dsimp only
    rw [hc]
    dsimp only
    rw [z_runs e (Nat.le_max_left n n2)]
    dsimp only
    rw [z_runs e2 (Nat.le_max_right n n2)]
    rfl
  | inr E =>
    obtain ⟨q0, q⟩ := q
    cases hfd : hs.find? (fun q => q.2.2.2.2.1 == E) with
    | some w =>
      rw [hfd] at q
      obtain ⟨n2, o2, h2, a, b, e2, q2⟩ := q
      refine ⟨max n n2 + 1, o2, h2, a + x, b + y, ?_, q2⟩
      rw [z_run, hM, hC, hH]
      dsimp only
      rw [hi]
      dsimp only
      rw [hf]
      dsimp only
      rw [hc]
      dsimp only
      rw [z_runs e (Nat.le_max_left n n2)]
      dsimp only
      rw [if_pos q0, hfd]
      dsimp only
      rw [z_runs e2 (Nat.le_max_right n n2)]
      rfl
    | none =>
      rw [hfd] at q
      refine ⟨n + 1, .inr E, h1, x, y, ?_, q.2⟩
      rw [z_run, hM, hC, hH]
      dsimp only
      rw [hi]
      dsimp only
      rw [hf]
      dsimp only
      rw [hc]
      dsimp only
      rw [e]
      dsimp only
      rw [if_pos q0, hfd]
      dsimp only
      rw [if_pos q.1]
end ZOK
theorem z_fin_no {M : zMi} {i : zI} {d : Nat} {st : List Value} (h : i.1 ≠ 50 ∧ i.1 ≠ 51 ∧ i.1 ≠ 52 ∧ i.1 ≠ 53 ∧ i.1 ≠ 62) : z_fin M i d st = none := by
  obtain ⟨h0, h1, h2, h3, h4⟩ := h
  unfold z_fin
  split
  · next e => exact absurd e h0
  · next e => exact absurd e h1
  · next e => exact absurd e h2
  · next e => exact absurd e h3
  · next e => exact absurd e h4
  · rfl
theorem z_cal_non {i : zI} {d : Nat} {st : List Value} {h : zH} (hn : i.1 ≠ 54 ∧ i.1 ≠ 55 ∧ i.1 ≠ 72 ∧ i.1 ≠ 56 ∧ i.1 ≠ 73) : z_cal i d st h = none := by
  cases hc : z_cal i d st h with
  | none => rfl
  | some w =>
    obtain ⟨j, as, rest⟩ := w
    have h9 := z_cal_no (z_cal_in hc).1
    omega
/-! frames above one another: the innermost first -/
abbrev zCf : Type := Nat × Nat × zL × List Value
noncomputable def zKx (sx : zX) (d0 : Nat) (Φ : zO → zH → Nat → Nat → Prop) : List zCf → zO → zH → Nat → Nat → Prop
  | [], o, h, x, y => Φ o h x y
  | (j, k, lo, st) :: fs, o, h, x, y => ∃ i hs, (z_cs.getD j [])[k]? = some i ∧ z_hs[j]? = some hs ∧ zRes1 sx (d0 - fs.length) j k lo st i hs (zKx sx d0 Φ fs) o h x y
noncomputable def zGo (sx : zX) (d0 : Nat) (Φ : zO → zH → Nat → Nat → Prop) (cf : List zCf) (h : zH) (X Y : Nat) : Prop := match cf with
  | [] => False
  | (j, k, lo, st) :: fs => z_ok sx (d0 - fs.length) j k lo st h (fun o h' a b => zKx sx d0 Φ fs o h' (a + X) (b + Y))
theorem zRes1.imp {sx : zX} {d j k : Nat} {lo : zL} {rest : List Value} {i : zI} {hs : List zHd} {Ψ Ψ' : zO → zH → Nat → Nat → Prop} {o : zO} {h1 : zH} {x y x' y' : Nat} (H : zRes1 sx d j k lo rest i hs Ψ o h1 x y) (hi : ∀ o h' a b, Ψ o h' (a + x) (b + y) → Ψ' o h' (a + x') (b + y')) : zRes1 sx d j k lo rest i hs Ψ' o h1 x' y' := by
  cases o with
  | inl v => exact z_ok.imp H (fun o h' a b q => hi o h' a b q)
  | inr E =>
    refine ⟨H.1, ?_⟩
    have H2 := H.2
    cases hfd : hs.find? (fun q => q.2.2.2.2.1 == E) with
    | some w => rw [hfd] at H2; exact z_ok.imp H2 (fun o h' a b q => hi o h' a b q)
    | none =>
      rw [hfd] at H2
      refine ⟨H2.1, ?_⟩
      have h9 := hi (.inr E) h1 0 0 (by rw [Nat.zero_add, Nat.zero_add]; exact H2.2)
      rw [Nat.zero_add, Nat.zero_add] at h9
      exact h9
section ZGO
variable {sx : zX} {d0 : Nat} {Φ : zO → zH → Nat → Nat → Prop} {j k : Nat} {lo : zL} {st : List Value} {fs : List zCf} {h : zH} {X Y : Nat} {M : zMi} {cs : List zI} {hs : List zHd} {i : zI}
theorem zGo.fin {o : zO} {x y : Nat} (hM : z_ms[j]? = some M) (hC : z_cs[j]? = some cs) (hH : z_hs[j]? = some hs) (hi : cs[k]? = some i) (hf : z_fin M i (d0 - fs.length) st = some (o, x, y)) (kk : zKx sx d0 Φ fs o h (x + X) (y + Y)) : zGo sx d0 Φ ((j, k, lo, st) :: fs) h X Y := z_ok.fin hM hC hH hi hf kk
theorem zGo.step {k' : Nat} {lo' : zL} {st' : List Value} {h' : zH} (hM : z_ms[j]? = some M) (hC : z_cs[j]? = some cs) (hH : z_hs[j]? = some hs) (hi : cs[k]? = some i) (hn : i.1 ≠ 50 ∧ i.1 ≠ 51 ∧ i.1 ≠ 52 ∧ i.1 ≠ 53 ∧ i.1 ≠ 62 ∧ i.1 ≠ 54 ∧ i.1 ≠ 55 ∧ i.1 ≠ 72 ∧ i.1 ≠ 56 ∧ i.1 ≠ 73) (ho : (z_ops.getD i.1 z_no) sx (d0 - fs.length) i.2.1 i.2.2.1 i.2.2.2 k lo st h = zn k' lo' st' h') (kk : zGo sx d0 Φ ((j, k', lo', st') :: fs) h' X Y) : zGo sx d0 Φ ((j, k, lo, st) :: fs) h X Y :=
  z_ok.step hM hC hH hi (z_fin_no ⟨hn.1, hn.2.1, hn.2.2.1, hn.2.2.2.1, hn.2.2.2.2.1⟩) (z_cal_non hn.2.2.2.2.2) ho kk
theorem zGo.call {j' : Nat} {as rest : List Value} (hM : z_ms[j]? = some M) (hC : z_cs[j]? = some cs) (hH : z_hs[j]? = some hs) (hi : cs[k]? = some i) (hn : i.1 ≠ 50 ∧ i.1 ≠ 51 ∧ i.1 ≠ 52 ∧ i.1 ≠ 53 ∧ i.1 ≠ 62) (hc : z_cal i (d0 - fs.length) st h = some (j', as, rest)) (kk : zGo sx d0 Φ ((j', 0, lv_args 0 as, []) :: (j, k, lo, rest) :: fs) h X Y) : zGo sx d0 Φ ((j, k, lo, st) :: fs) h X Y := by
  refine z_ok.call hM hC hH hi (z_fin_no hn) hc ?_
  have e : d0 - fs.length - 1 = d0 - ((j, k, lo, rest) :: fs).length := by rw [List.length_cons]; omega
  rw [e]
  refine z_ok.imp kk (fun o h' a b q => ?_)
  obtain ⟨i9, hs9, hi9, hH9, q⟩ := q
  rw [List.getD_eq_getElem?_getD, hC, Option.getD_some, hi] at hi9
  cases hi9
  rw [hH] at hH9
  cases hH9
  exact q.imp (fun o9 h9 a9 b9 q9 => by
    show zKx sx d0 Φ fs o9 h9 (a9 + a + X) (b9 + b + Y)
    rw [Nat.add_assoc, Nat.add_assoc]
    exact q9)
/-- behind a call that has returned -/
theorem zKx.ret {v : Option Value} (hC : z_cs[j]? = some cs) (hH : z_hs[j]? = some hs) (hi : cs[k]? = some i) (kk : zGo sx d0 Φ ((j, k + 1, lo, v.toList ++ st) :: fs) h X Y) : zKx sx d0 Φ ((j, k, lo, st) :: fs) (.inl v) h X Y :=
  ⟨i, hs, by rw [List.getD_eq_getElem?_getD, hC]; exact hi, hH, kk⟩
/-- behind a call that has thrown: caught here -/
theorem zKx.caught {E : Nat} {q : zHd} (hC : z_cs[j]? = some cs) (hH : z_hs[j]? = some hs) (hi : cs[k]? = some i) (hv : i.1 = 54) (hf : hs.find? (fun q => q.2.2.2.2.1 == E) = some q) (kk : zGo sx d0 Φ ((j, q.2.2.2.2.2.1, z_drop lo q.2.2.2.2.2.2, []) :: fs) h X Y) : zKx sx d0 Φ ((j, k, lo, st) :: fs) (.inr E) h X Y :=
  ⟨i, hs, by rw [List.getD_eq_getElem?_getD, hC]; exact hi, hH, hv, by rw [hf]; exact kk⟩
theorem zKx.out {E : Nat} (hC : z_cs[j]? = some cs) (hH : z_hs[j]? = some []) (hi : cs[k]? = some i) (hv : i.1 = 54) (kk : zKx sx d0 Φ fs (.inr E) h X Y) : zKx sx d0 Φ ((j, k, lo, st) :: fs) (.inr E) h X Y :=
  ⟨i, [], by rw [List.getD_eq_getElem?_getD, hC]; exact hi, hH, hv, rfl, kk⟩
end ZGO
end
section
/-! THE CHECKER's STATE: values by numbers (env), what places of the heap hold (memo), frames -/
abbrev zEn : Type := zA × Nat × Int
abbrev zMe : Type := Nat × Nat × Int × Nat
abbrev zLs : Type := List (Nat × Nat)
abbrev zAf : Type := Nat × Nat × zLs × List Nat
abbrev zQ : Type := List zEn × List zMe × zLs × List Nat
noncomputable def zMn : Int := -2147483648
noncomputable def zMx : Int := 2147483647
noncomputable def zFull : zA := (0, -2147483648, 2147483647)
noncomputable def zLn : Int := -9223372036854775808
noncomputable def zLx : Int := 9223372036854775807
/-- of an int between: its bounds -/
noncomputable def zw (lo hi : Int) : zA := if zMn ≤ lo ∧ hi ≤ zMx then (0, lo, hi) else zFull
noncomputable def zlw (lo hi : Int) : zA := if zLn ≤ lo ∧ hi ≤ zLx then (1, lo, hi) else (1, zLn, zLx)
noncomputable def zmin4 (a b c d : Int) : Int := min (min a b) (min c d)
noncomputable def zmax4 (a b c d : Int) : Int := max (max a b) (max c d)
/-- bounds of a computed int -/
noncomputable def zar (o : Nat) (a b c d : Int) : Option zA := match o with
  | 8 => some (zw (a + c) (b + d))
  | 9 => some (zw (a - d) (b - c))
  | 10 => some (zw (zmin4 (a * c) (a * d) (b * c) (b * d)) (zmax4 (a * c) (a * d) (b * c) (b * d)))
  | 11 => if 0 < c then (if 0 ≤ a then some (0, a / d, b / c) else some zFull) else if d < 0 then some zFull else none
  | 12 => if 0 < c then (if 0 ≤ a then some (0, 0, min b (d - 1)) else some zFull) else if d < 0 then some zFull else none
  | 13 => if a = 1 ∧ b = 1 ∧ 0 ≤ c ∧ d ≤ 30 then some (0, 2 ^ c.toNat, 2 ^ d.toNat) else some zFull
  | 16 => if 0 ≤ c then some (0, 0, d) else if 0 ≤ a then some (0, 0, b) else some zFull
  | 14 => some zFull
  | 15 => some zFull
  | 17 => some zFull
  | 18 => some zFull
  | _ => none
noncomputable def zop2 (o : Nat) (x y : Int32) : Int32 := match o with
  | 8 => x + y
  | 9 => x - y
  | 10 => x * y
  | 11 => x / y
  | 12 => x - x / y * y
  | 13 => x <<< (y &&& 31)
  | 14 => x >>> (y &&& 31)
  | 15 => (x.toUInt32 >>> (y.toUInt32 &&& Int32.toUInt32 31)).toInt32
  | 16 => x &&& y
  | 17 => x ||| y
  | _ => x ^^^ y
theorem zw_ok {ty : List Nat} {lo hi n : Int} {x : Int32} (h1 : lo ≤ n) (h2 : n ≤ hi) (hx : x.toInt = n.bmod (2 ^ 32)) : zG ty (zw lo hi) (.int x) := by
  unfold zw
  by_cases h : zMn ≤ lo ∧ hi ≤ zMx
  · rw [if_pos h]
    have e1 : zMn = -2147483648 := rfl
    have e2 : zMx = 2147483647 := rfl
    rw [z_bm (by omega) (by omega)] at hx
    exact ⟨x, rfl, by omega, by omega⟩
  · rw [if_neg h]
    exact ⟨x, rfl, (zb32 x).1, (zb32 x).2⟩
theorem zFull_ok {ty : List Nat} (x : Int32) : zG ty zFull (.int x) := ⟨x, rfl, (zb32 x).1, (zb32 x).2⟩
theorem zmul_bd {a b c d x y : Int} (h1 : a ≤ x) (h2 : x ≤ b) (h3 : c ≤ y) (h4 : y ≤ d) : zmin4 (a * c) (a * d) (b * c) (b * d) ≤ x * y ∧ x * y ≤ zmax4 (a * c) (a * d) (b * c) (b * d) := by
  have low : ∀ u v p q r s : Int, min (min p q) (min r s) ≤ p ∧ min (min p q) (min r s) ≤ q ∧ min (min p q) (min r s) ≤ r ∧ min (min p q) (min r s) ≤ s := fun _ _ p q r s => by omega
  have key1 : ∀ y : Int, min (a * y) (b * y) ≤ x * y ∧ x * y ≤ max (a * y) (b * y) := by
    intro y
    rcases Int.le_total 0 y with hy | hy
    · have e1 := Int.mul_le_mul_of_nonneg_right h1 hy
      have e2 := Int.mul_le_mul_of_nonneg_right h2 hy
      omega
    · have e1 := Int.mul_le_mul_of_nonpos_right h1 hy
      have e2 := Int.mul_le_mul_of_nonpos_right h2 hy
      omega
  have key2 : ∀ p : Int, min (p * c) (p * d) ≤ p * y ∧ p * y ≤ max (p * c) (p * d) := by
    intro p
    rcases Int.le_total 0 p with hp | hp
    · have e1 := Int.mul_le_mul_of_nonneg_left h3 hp
      have e2 := Int.mul_le_mul_of_nonneg_left h4 hp
      omega
    · have e1 := Int.mul_le_mul_of_nonpos_left hp h3
      have e2 := Int.mul_le_mul_of_nonpos_left hp h4
      omega
  have k1 := key1 y
  have k2 := key2 a
  have k3 := key2 b
  unfold zmin4 zmax4
  omega
theorem zti (z : Int32) : z.toInt = if 2 * z.toBitVec.toNat < 2 ^ 32 then (z.toBitVec.toNat : Int) else (z.toBitVec.toNat : Int) - 2 ^ 32 := by
  have h := BitVec.toInt_eq_toNat_cond z.toBitVec
  rw [← Int32.toInt_toBitVec, h]
  rfl
theorem zand_ok (x y : Int32) (h : 0 ≤ y.toInt) : 0 ≤ (x &&& y).toInt ∧ (x &&& y).toInt ≤ y.toInt := by
  have ha : (x &&& y).toBitVec.toNat = x.toBitVec.toNat &&& y.toBitVec.toNat := by rw [Int32.toBitVec_and, BitVec.toNat_and]
  have hle : x.toBitVec.toNat &&& y.toBitVec.toNat ≤ y.toBitVec.toNat := Nat.and_le_right
  have hy := y.toBitVec.isLt
  have e1 := zti y
  have e2 := zti (x &&& y)
  rw [ha] at e2
  split at e1 <;> split at e2 <;> omega
theorem zshl_key : ∀ n : Nat, n < 31 → ((1 : Int32) <<< (Int32.ofInt (n : Int) &&& 31)).toInt = (2 : Int) ^ n := by decide +kernel
theorem zpow_le {a b : Nat} (h : a ≤ b) : (2 : Int) ^ a ≤ 2 ^ b := by
  have := Nat.pow_le_pow_right (n := 2) (by omega) h
  exact_mod_cast this
theorem zshl_ok (y : Int32) (c d : Int) (h0 : 0 ≤ c) (h1 : c ≤ y.toInt) (h2 : y.toInt ≤ d) (h3 : d ≤ 30) : (2 : Int) ^ c.toNat ≤ ((1 : Int32) <<< (y &&& 31)).toInt ∧ ((1 : Int32) <<< (y &&& 31)).toInt ≤ 2 ^ d.toNat := by
  have e : y = Int32.ofInt ((y.toInt.toNat : Nat) : Int) := by rw [Int.toNat_of_nonneg (by omega)]; exact (Int32.ofInt_toInt y).symm
  have k := zshl_key y.toInt.toNat (by omega)
  rw [← e] at k
  rw [k]
  exact ⟨zpow_le (by omega), zpow_le (by omega)⟩
theorem zdiv_ok {x y : Int32} {a b c d : Int} (h1 : a ≤ x.toInt) (h2 : x.toInt ≤ b) (h3 : c ≤ y.toInt) (h4 : y.toInt ≤ d) (hc : 0 < c) (ha : 0 ≤ a) : (x / y).toInt = x.toInt / y.toInt ∧ a / d ≤ (x / y).toInt ∧ (x / y).toInt ≤ b / c := by
  have hy : 0 < y.toInt := by omega
  have hq : 0 ≤ x.toInt / y.toInt := Int.ediv_nonneg (by omega) (by omega)
  have hm : x.toInt / y.toInt * y.toInt ≤ x.toInt := Int.ediv_mul_le _ (by omega)
  have hle : x.toInt / y.toInt ≤ x.toInt := Int.ediv_le_self _ (by omega)
  have e : (x / y).toInt = x.toInt / y.toInt := by
    rw [Int32.toInt_div, Int.tdiv_eq_ediv_of_nonneg (by omega)]
    have := zb32 x
    exact z_bm (by omega) (by omega)
  refine ⟨e, ?_, ?_⟩
  · rw [e, Int.le_ediv_iff_mul_le hy]
    have hd : 0 ≤ a / d := Int.ediv_nonneg ha (by omega)
    have k1 : a / d * y.toInt ≤ a / d * d := Int.mul_le_mul_of_nonneg_left h4 hd
    have k2 : a / d * d ≤ a := Int.ediv_mul_le _ (by omega)
    omega
  · rw [e, Int.le_ediv_iff_mul_le hc]
    have k1 : x.toInt / y.toInt * c ≤ x.toInt / y.toInt * y.toInt := Int.mul_le_mul_of_nonneg_left h3 hq
    omega
theorem zrem_ok {x y : Int32} (h1 : 0 ≤ x.toInt) (h3 : 0 < y.toInt) : (x - x / y * y).toInt = x.toInt % y.toInt := by
  have hd := (zdiv_ok (a := 0) (b := x.toInt) (c := y.toInt) (d := y.toInt) h1 (Int.le_refl _) (Int.le_refl _) (Int.le_refl _) h3 (Int.le_refl _)).1
  have hx := zb32 x
  have hq : 0 ≤ x.toInt / y.toInt := Int.ediv_nonneg (by omega) (by omega)
  have hm : x.toInt / y.toInt * y.toInt ≤ x.toInt := Int.ediv_mul_le _ (by omega)
  have hn : 0 ≤ x.toInt / y.toInt * y.toInt := Int.mul_nonneg hq (by omega)
  have e1 : (x / y * y).toInt = x.toInt / y.toInt * y.toInt := by
    rw [Int32.toInt_mul, hd]
    exact z_bm (by omega) (by omega)
  rw [Int32.toInt_sub, e1, z_bm (by omega) (by omega)]
  have := Int.emod_def x.toInt y.toInt
  rw [this, Int.mul_comm]
theorem zne0 {y : Int32} (h : y.toInt ≠ 0) : y ≠ 0 := fun e => h (by rw [e]; rfl)
theorem zar_ok {ty : List Nat} {o : Nat} {a b c d : Int} {r : zA} {x y : Int32} (hr : zar o a b c d = some r) (h1 : a ≤ x.toInt) (h2 : x.toInt ≤ b) (h3 : c ≤ y.toInt) (h4 : y.toInt ≤ d) : zG ty r (.int (zop2 o x y)) ∧ ((o = 11 ∨ o = 12) → y ≠ 0) := by
  unfold zar at hr
  split at hr
  · cases hr
    exact ⟨zw_ok (n := x.toInt + y.toInt) (by omega) (by omega) (Int32.toInt_add x y), fun h => by omega⟩
  · cases hr
    exact ⟨zw_ok (n := x.toInt - y.toInt) (by omega) (by omega) (Int32.toInt_sub x y), fun h => by omega⟩
  · cases hr
    obtain ⟨k1, k2⟩ := zmul_bd h1 h2 h3 h4
    exact ⟨zw_ok (n := x.toInt * y.toInt) k1 k2 (Int32.toInt_mul x y), fun h => by omega⟩
  · split at hr
    · next hc =>
      split at hr
      · next ha =>
        cases hr
        obtain ⟨e, k1, k2⟩ := zdiv_ok h1 h2 h3 h4 hc ha
        exact ⟨⟨_, rfl, k1, k2⟩, fun _ => zne0 (by omega)⟩
      · cases hr
        exact ⟨zFull_ok _, fun _ => zne0 (by omega)⟩
    · split at hr
      · cases hr
        exact ⟨zFull_ok _, fun _ => zne0 (by omega)⟩
      · cases hr
  · split at hr
    · next hc =>
      split at hr
      · next ha =>
        cases hr
        have e := zrem_ok (x := x) (y := y) (by omega) (by omega)
        have k1 := Int.emod_nonneg x.toInt (b := y.toInt) (by omega)
        have k2 := Int.emod_lt_of_pos x.toInt (b := y.toInt) (by omega)
        have k3 : x.toInt % y.toInt ≤ x.toInt := by
          have := Int.emod_def x.toInt y.toInt
          have hq : 0 ≤ y.toInt * (x.toInt / y.toInt) := Int.mul_nonneg (by omega) (Int.ediv_nonneg (by omega) (by omega))
          omega
        exact ⟨⟨_, rfl, by rw [show zop2 12 x y = x - x / y * y from rfl, e]; exact k1, by rw [show zop2 12 x y = x - x / y * y from rfl, e]; omega⟩, fun _ => zne0 (by omega)⟩
      · cases hr
        exact ⟨zFull_ok _, fun _ => zne0 (by omega)⟩
    · split at hr
      · cases hr
        exact ⟨zFull_ok _, fun _ => zne0 (by omega)⟩
      · cases hr
  · split at hr
    · next hc =>
      cases hr
      obtain ⟨rfl, rfl, c0, d0⟩ := hc
      have ex : x = 1 := Int32.toInt_inj.mp (by rw [show (1 : Int32).toInt = 1 from rfl]; omega)
      subst ex
      obtain ⟨k1, k2⟩ := zshl_ok y c d c0 h3 h4 d0
      exact ⟨⟨_, rfl, k1, k2⟩, fun h => by omega⟩
    · cases hr
      exact ⟨zFull_ok _, fun h => by omega⟩
  · split at hr
    · next hc =>
      cases hr
      obtain ⟨k1, k2⟩ := zand_ok x y (by omega)
      exact ⟨⟨_, rfl, k1, by show (x &&& y).toInt ≤ d; omega⟩, fun h => by omega⟩
    · split at hr
      · next ha =>
        cases hr
        obtain ⟨k1, k2⟩ := zand_ok y x (by omega)
        rw [Int32.and_comm] at k1 k2
        exact ⟨⟨_, rfl, k1, by show (x &&& y).toInt ≤ b; omega⟩, fun h => by omega⟩
      · cases hr
        exact ⟨zFull_ok _, fun h => by omega⟩
  · cases hr; exact ⟨zFull_ok _, fun h => by omega⟩
  · cases hr; exact ⟨zFull_ok _, fun h => by omega⟩
  · cases hr; exact ⟨zFull_ok _, fun h => by omega⟩
  · cases hr; exact ⟨zFull_ok _, fun h => by omega⟩
  · cases hr
end
section
/-! what the checker's state says of the machine's: each number stands for a value -/
noncomputable def zEv (ty : List Nat) (ρ : List Value) (env : List zEn) : Prop := env.length = ρ.length ∧ ∀ (i : Nat) (e : zEn) (v : Value), env[i]? = some e → ρ[i]? = some v → zG ty e.1 v ∧ ∀ b, e.2.1 = b + 1 → ∃ x y : Int32, v = .int x ∧ ρ[b]? = some (.int y) ∧ x.toInt = y.toInt + e.2.2
noncomputable def zIx (ρ : List Value) (b : Nat) (off : Int) (i : Nat) : Prop := match b with
  | 0 => off = (i : Int)
  | b + 1 => ∃ y : Int32, ρ[b]? = some (.int y) ∧ (i : Int) = y.toInt + off
noncomputable def zMm (h : zH) (ρ : List Value) (me : List zMe) : Prop := ∀ m ∈ me, ∃ (a : Nat) (e : zE) (i : Nat) (v : Value), ρ[m.1]? = some (.ref a) ∧ h[a]? = some e ∧ zIx ρ m.2.1 m.2.2.1 i ∧ z_rd e i = some v ∧ ρ[m.2.2.2]? = some v
noncomputable def zLo (ρ : List Value) (loc : zLs) (lo : zL) : Prop := ∀ p ∈ loc, ∃ v, ρ[p.2]? = some v ∧ z_get lo p.1 = some v
noncomputable def zSk (ρ : List Value) : List Nat → List Value → Prop
  | [], [] => True
  | i :: is, v :: vs => ρ[i]? = some v ∧ zSk ρ is vs
  | _, _ => False
noncomputable def zRx (ρ ρ' : List Value) : Prop := ∀ (i : Nat) (v : Value), ρ[i]? = some v → ρ'[i]? = some v
theorem zRx.rf {ρ : List Value} : zRx ρ ρ := fun _ _ h => h
theorem zRx.tr {a b c : List Value} (h1 : zRx a b) (h2 : zRx b c) : zRx a c := fun i v h => h2 i v (h1 i v h)
theorem zRx.app {ρ l : List Value} : zRx ρ (ρ ++ l) := fun i v h => by
  rw [List.getElem?_append_left (List.getElem?_eq_some_iff.mp h).1]; exact h
theorem zIx.mono {ρ ρ' : List Value} {b : Nat} {off : Int} {i : Nat} (h : zRx ρ ρ') (q : zIx ρ b off i) : zIx ρ' b off i := by
  cases b with
  | zero => exact q
  | succ b =>
    obtain ⟨y, h1, h2⟩ := q
    exact ⟨y, h b _ h1, h2⟩
theorem zMm.mono {h : zH} {ρ ρ' : List Value} {me : List zMe} (hx : zRx ρ ρ') (q : zMm h ρ me) : zMm h ρ' me := fun m hm => by
  obtain ⟨a, e, i, v, h1, h2, h3, h4, h5⟩ := q m hm
  exact ⟨a, e, i, v, hx _ _ h1, h2, h3.mono hx, h4, hx _ _ h5⟩
theorem zLo.mono {ρ ρ' : List Value} {loc : zLs} {lo : zL} (hx : zRx ρ ρ') (q : zLo ρ loc lo) : zLo ρ' loc lo := fun p hp => by
  obtain ⟨v, h1, h2⟩ := q p hp
  exact ⟨v, hx _ _ h1, h2⟩
theorem zSk.mono {ρ ρ' : List Value} (hx : zRx ρ ρ') : ∀ {stk : List Nat} {st : List Value}, zSk ρ stk st → zSk ρ' stk st
  | [], [], _ => trivial
  | _ :: _, _ :: _, h => ⟨hx _ _ h.1, zSk.mono hx h.2⟩
noncomputable def zav (env : List zEn) (i : Nat) : zA := match zlku env i with
  | some e => e.1
  | none => (9, 0, 0)
theorem zEv.at {ty : List Nat} {ρ : List Value} {env : List zEn} {i : Nat} {v : Value} (H : zEv ty ρ env) (hv : ρ[i]? = some v) : zG ty (zav env i) v := by
  have hl : i < env.length := by rw [H.1]; exact (List.getElem?_eq_some_iff.mp hv).1
  unfold zav
  rw [zlku_eq]
  rw [List.getElem?_eq_getElem hl]
  exact (H.2 i env[i] v (List.getElem?_eq_getElem hl) hv).1
theorem zEv.ex {ty : List Nat} {ρ : List Value} {env : List zEn} {i : Nat} {v : Value} (H : zEv ty ρ env) (hv : ρ[i]? = some v) : ∃ e, env[i]? = some e ∧ zav env i = e.1 := by
  have hl : i < env.length := by rw [H.1]; exact (List.getElem?_eq_some_iff.mp hv).1
  refine ⟨env[i], List.getElem?_eq_getElem hl, ?_⟩
  unfold zav
  rw [zlku_eq]
  rw [List.getElem?_eq_getElem hl]
theorem zEv.push {ty : List Nat} {ρ : List Value} {env : List zEn} {e : zEn} {v : Value} (H : zEv ty ρ env) (hv : zG ty e.1 v) (hb : ∀ b, e.2.1 = b + 1 → ∃ x y : Int32, v = .int x ∧ ρ[b]? = some (.int y) ∧ x.toInt = y.toInt + e.2.2) : zEv ty (ρ ++ [v]) (env ++ [e]) := by
  refine ⟨by rw [List.length_append, List.length_append, H.1]; rfl, fun i e9 v9 h1 h2 => ?_⟩
  by_cases hi : i < env.length
  · rw [List.getElem?_append_left hi] at h1
    rw [List.getElem?_append_left (by rw [← H.1]; exact hi)] at h2
    obtain ⟨g1, g2⟩ := H.2 i e9 v9 h1 h2
    refine ⟨g1, fun b hb9 => ?_⟩
    obtain ⟨x, y, q1, q2, q3⟩ := g2 b hb9
    exact ⟨x, y, q1, zRx.app b _ q2, q3⟩
  · rw [List.getElem?_append_right (by omega)] at h1
    rw [List.getElem?_append_right (by rw [← H.1]; omega), ← H.1] at h2
    have hz : i - env.length = 0 := by
      have := (List.getElem?_eq_some_iff.mp h1).1
      rw [List.length_singleton] at this
      omega
    rw [hz] at h1 h2
    cases h1
    cases h2
    refine ⟨hv, fun b hb9 => ?_⟩
    obtain ⟨x, y, q1, q2, q3⟩ := hb b hb9
    exact ⟨x, y, q1, zRx.app b _ q2, q3⟩
theorem zEv.push0 {ty : List Nat} {ρ : List Value} {env : List zEn} {a : zA} {v : Value} (H : zEv ty ρ env) (hv : zG ty a v) : zEv ty (ρ ++ [v]) (env ++ [(a, 0, 0)]) := H.push hv (fun b h => by cases h)
theorem zEv.new {ty : List Nat} {ρ : List Value} {env : List zEn} (H : zEv ty ρ env) (v : Value) : (ρ ++ [v])[env.length]? = some v := by rw [H.1, List.getElem?_append_right (Nat.le_refl _), Nat.sub_self]; rfl
theorem zEv.ext {ty ty' : List Nat} {ρ : List Value} {env : List zEn} (H : zEv ty ρ env) (hx : zExt ty ty') : zEv ty' ρ env := ⟨H.1, fun i e v h1 h2 => ⟨zG_ext hx (H.2 i e v h1 h2).1, (H.2 i e v h1 h2).2⟩⟩
/-! tags -/
theorem zG0 {ty : List Nat} {a : zA} {v : Value} (g : zG ty a v) (h : a.1 = 0) : ∃ x : Int32, v = .int x ∧ a.2.1 ≤ x.toInt ∧ x.toInt ≤ a.2.2 := by
  obtain ⟨t, lo, hi⟩ := a
  dsimp only at h
  subst h
  exact g
theorem zG1 {ty : List Nat} {a : zA} {v : Value} (g : zG ty a v) (h : a.1 = 1) : ∃ x : Int64, v = .long x ∧ a.2.1 ≤ x.toInt ∧ x.toInt ≤ a.2.2 := by
  obtain ⟨t, lo, hi⟩ := a
  dsimp only at h
  subst h
  exact g
theorem zG2 {ty : List Nat} {a : zA} {v : Value} (g : zG ty a v) (h : a.1 = 2) : ∃ i t : Nat, v = .ref i ∧ ty[i]? = some t ∧ a.2.1 ≤ (t : Int) ∧ (t : Int) ≤ a.2.2 := by
  obtain ⟨t, lo, hi⟩ := a
  dsimp only at h
  subst h
  exact g
theorem zG3 {ty : List Nat} {a : zA} {v : Value} (g : zG ty a v) (h : a.1 = 3) : v = .null ∨ ∃ i t : Nat, v = .ref i ∧ ty[i]? = some t ∧ a.2.1 ≤ (t : Int) ∧ (t : Int) ≤ a.2.2 := by
  obtain ⟨t, lo, hi⟩ := a
  dsimp only at h
  subst h
  exact g
theorem zG4 {ty : List Nat} {a : zA} {v : Value} (g : zG ty a v) (h : a.1 = 4) : v = .null := by
  obtain ⟨t, lo, hi⟩ := a
  dsimp only at h
  subst h
  exact g
theorem zG5 {ty : List Nat} {a : zA} {v : Value} (g : zG ty a v) (h : a.1 = 5) : v = .ref (zB + a.2.1.toNat) := by
  obtain ⟨t, lo, hi⟩ := a
  dsimp only at h
  subst h
  exact g
noncomputable def zisR (a : zA) : Bool := decide (a.1 = 2) || decide (5 ≤ a.1)
theorem zGr {ty : List Nat} {a : zA} {v : Value} (g : zG ty a v) (h : zisR a = true) : ∃ i : Nat, v = .ref i := by
  unfold zisR at h
  simp only [Bool.or_eq_true, decide_eq_true_eq] at h
  obtain ⟨t, lo, hi⟩ := a
  rcases h with h | h
  · obtain ⟨i, t, e, -⟩ := zG2 g h
    exact ⟨i, e⟩
  · have ht : t = 5 ∨ ∃ n, t = n + 6 := by
      by_cases h5 : t = 5
      · exact Or.inl h5
      · exact Or.inr ⟨t - 6, by dsimp only at h; omega⟩
    rcases ht with rfl | ⟨n, rfl⟩
    · exact ⟨_, g⟩
    · exact ⟨_, g⟩
theorem zGcat {ty : List Nat} {a : zA} {v : Value} (g : zG ty a v) : v.category = if a.1 = 1 then 2 else 1 := by
  unfold zG at g
  split at g
  · obtain ⟨x, rfl, -⟩ := g; rfl
  · obtain ⟨x, rfl, -⟩ := g; rfl
  · obtain ⟨x, t, rfl, -⟩ := g; rfl
  · rcases g with rfl | ⟨x, t, rfl, -⟩ <;> rfl
  · subst g; rfl
  · subst g; rfl
  · next n1 n2 n3 n4 n5 n6 =>
    subst g
    obtain ⟨t, lo, hi⟩ := a
    rw [if_neg (fun h => n2 lo hi (by dsimp only at h; rw [h]))]
    rfl
noncomputable def zct (env : List zEn) (stk : List Nat) : Nat := (stk.map (fun i => if (zav env i).1 = 1 then 2 else 1)).sum
theorem zct_ok {ty : List Nat} {ρ : List Value} {env : List zEn} (H : zEv ty ρ env) : ∀ {stk : List Nat} {st : List Value}, zSk ρ stk st → z_cat st = zct env stk
  | [], [], _ => rfl
  | i :: is, v :: vs, h => by
    have ih := zct_ok H h.2
    unfold z_cat zct at ih ⊢
    rw [List.map_cons, List.map_cons, List.sum_cons, List.sum_cons, ih, zGcat (H.at h.1)]
/-! locals -/
noncomputable def zlk (loc : zLs) (a : Nat) : Option Nat := zfnd loc a
theorem zlk_ok {ρ : List Value} {loc : zLs} {lo : zL} {a i : Nat} (H : zLo ρ loc lo) (h : zlk loc a = some i) : ∃ v, ρ[i]? = some v ∧ z_get lo a = some v := by
  unfold zlk at h
  rw [zfnd_eq] at h
  cases hf : loc.find? (fun p => p.1 == a) with
  | none => rw [hf] at h; cases h
  | some p =>
    rw [hf] at h
    cases h
    have h1 : p.1 = a := by simpa using List.find?_some hf
    obtain ⟨v, g1, g2⟩ := H p (List.mem_of_find?_eq_some hf)
    exact ⟨v, g1, by rw [← h1]; exact g2⟩
theorem zfind {α : Type} {P F : α → Bool} {q : α} : ∀ {l : List α}, l.find? P = some q → F q = true → l.find? (fun a => decide (F a = true ∧ P a = true)) = some q
  | [], h, _ => by cases h
  | x :: l, h, hF => by
    rw [List.find?_cons] at h ⊢
    cases hP : P x with
    | true =>
      rw [hP] at h
      cases h
      simp [hF, hP]
    | false =>
      rw [hP] at h
      dsimp only at h
      rw [show decide (F x = true ∧ false = true) = false by simp]
      exact zfind h hF
theorem zget_filter {lo : zL} {F : Nat × Value → Bool} {i : Nat} {w : Value} (h : z_get lo i = some w) (hF : ∀ q : Nat × Value, q.1 = i → q.2 = w → F q = true) : z_get (lo.filter F) i = some w := by
  unfold z_get at h ⊢
  rw [List.find?_filter]
  cases hf : lo.find? (fun q => q.1 == i) with
  | none => rw [hf] at h; cases h
  | some q =>
    rw [hf] at h
    have h1 : q.1 = i := by simpa using List.find?_some hf
    have h2 : q.2 = w := Option.some.inj h
    rw [zfind hf (hF q h1 h2)]
    exact congrArg some h2
theorem zget_cons {lo : zL} {a i : Nat} {v w : Value} (h : z_get lo i = some w) (hne : i ≠ a) : z_get ((a, v) :: lo) i = some w := by
  unfold z_get at h ⊢
  rw [List.find?_cons]
  have : ((a, v).1 == i) = false := by simpa using fun e => hne e.symm
  rw [this]
  exact h
theorem zget_self {lo : zL} {a : Nat} {v : Value} : z_get ((a, v) :: lo) a = some v := by
  unfold z_get
  rw [List.find?_cons]
  simp
noncomputable def zset1 (env : List zEn) (loc : zLs) (a i : Nat) : zLs := (a, i) :: loc.filter (fun p => !(p.1 == a) && !(p.1 + 1 == a && (zav env p.2).1 == 1))
noncomputable def zset2 (env : List zEn) (loc : zLs) (a i : Nat) : zLs := (a, i) :: loc.filter (fun p => !(p.1 == a) && (!(p.1 == a + 1) && !(p.1 + 1 == a && (zav env p.2).1 == 1)))
noncomputable def zdrop (env : List zEn) (loc : zLs) (a : Nat) : zLs := loc.filter (fun p => !(p.1 == a) && !(p.1 + 1 == a && (zav env p.2).1 == 1))
theorem zdrop_ok {ty : List Nat} {ρ : List Value} {env : List zEn} {loc : zLs} {lo : zL} {a : Nat} (E : zEv ty ρ env) (H : zLo ρ loc lo) : zLo ρ (zdrop env loc a) (z_drop lo a) := by
  intro p hp
  obtain ⟨hp1, hp2⟩ := List.mem_filter.mp hp
  obtain ⟨v, h1, h2⟩ := H p hp1
  refine ⟨v, h1, zget_filter h2 (fun q e1 e2 => ?_)⟩
  rw [e1, e2]
  have hc := zGcat (E.at h1)
  cases h3 : (zav env p.2).1 == 1 with
  | true => rw [h3] at hp2; rw [hc, if_pos (by simpa using h3)]; exact hp2
  | false =>
    rw [h3] at hp2
    rw [hc, if_neg (by simpa using h3)]
    simp only [Bool.and_false, Bool.not_false, Bool.and_true] at hp2
    rw [hp2]
    simp
theorem zset1_ok {ty : List Nat} {ρ : List Value} {env : List zEn} {loc : zLs} {lo : zL} {a i : Nat} {v : Value} (E : zEv ty ρ env) (H : zLo ρ loc lo) (hv : ρ[i]? = some v) : zLo ρ (zset1 env loc a i) (z_set1 lo a v) := by
  intro p hp
  rcases List.mem_cons.mp hp with rfl | hp
  · exact ⟨v, hv, zget_self⟩
  · obtain ⟨w, h1, h2⟩ := zdrop_ok (a := a) E H p hp
    refine ⟨w, h1, zget_cons h2 (fun e => ?_)⟩
    have := (List.mem_filter.mp hp).2
    rw [e] at this
    simp at this
theorem zset2_ok {ty : List Nat} {ρ : List Value} {env : List zEn} {loc : zLs} {lo : zL} {a i : Nat} {v : Value} (E : zEv ty ρ env) (H : zLo ρ loc lo) (hv : ρ[i]? = some v) : zLo ρ (zset2 env loc a i) (z_set2 lo a v) := by
  intro p hp
  rcases List.mem_cons.mp hp with rfl | hp
  · exact ⟨v, hv, zget_self⟩
  · obtain ⟨hp1, hp2⟩ := List.mem_filter.mp hp
    obtain ⟨w, h1, h2⟩ := H p hp1
    have hne : p.1 ≠ a := fun e => by rw [e] at hp2; simp at hp2
    refine ⟨w, h1, zget_cons (zget_filter h2 (fun q e1 e2 => ?_)) hne⟩
    rw [e1, e2]
    have hc := zGcat (E.at h1)
    cases h3 : (zav env p.2).1 == 1 with
    | true => rw [h3] at hp2; rw [hc, if_pos (by simpa using h3)]; exact hp2
    | false =>
      rw [h3] at hp2
      rw [hc, if_neg (by simpa using h3)]
      simp only [Bool.and_false, Bool.not_false, Bool.and_true, Bool.and_eq_true] at hp2
      rw [hp2.1, hp2.2]
      simp
end
section
/-! the checker's steps that leave the heap as it is -/
abbrev zQop : Type := (Nat → zTy) → Nat → List zMod → Nat → Nat → Int → zQ → Option zQ
noncomputable def zSd (op : zNop) (qop : zQop) : Prop := ∀ (tt : Nat → zTy) (sx : zX) (dq d : Nat) (ms : List zMod) (a b : Nat) (c : Int) (k : Nat) (ty : List Nat) (ρ : List Value) (q q' : zQ) (lo : zL) (st : List Value) (h : zH), dq ≤ d → zTY tt ty h → zEv ty ρ q.1 → zMm h ρ q.2.1 → zLo ρ q.2.2.1 lo → zSk ρ q.2.2.2 st → qop tt dq ms a b c q = some q' →
  ∃ (ρ' : List Value) (lo' : zL) (st' : List Value) (h' : zH), op sx d a b c k lo st h = zn (k + 1) lo' st' h' ∧ zRx ρ ρ' ∧ zTY tt ty h' ∧ zEv ty ρ' q'.1 ∧ zMm h' ρ' q'.2.1 ∧ zLo ρ' q'.2.2.1 lo' ∧ zSk ρ' q'.2.2.2 st' ∧ zFm ms ty h h'
noncomputable def zPu (q : zQ) (stk : List Nat) (e : zEn) : zQ := (zsn q.1 e, q.2.1, q.2.2.1, zln q.1 :: stk)
theorem zPu_ok {ty : List Nat} {ρ : List Value} {q : zQ} {stk : List Nat} {e : zEn} {v : Value} {lo : zL} {st : List Value} {h : zH} (E : zEv ty ρ q.1) (Mm : zMm h ρ q.2.1) (L : zLo ρ q.2.2.1 lo) (S : zSk ρ stk st) (hv : zG ty e.1 v) (hb : ∀ b, e.2.1 = b + 1 → ∃ x y : Int32, v = .int x ∧ ρ[b]? = some (.int y) ∧ x.toInt = y.toInt + e.2.2) : zRx ρ (ρ ++ [v]) ∧ zEv ty (ρ ++ [v]) (zPu q stk e).1 ∧ zMm h (ρ ++ [v]) (zPu q stk e).2.1 ∧ zLo (ρ ++ [v]) (zPu q stk e).2.2.1 lo ∧ zSk (ρ ++ [v]) (zPu q stk e).2.2.2 (v :: st) :=
  by
  unfold zPu
  rw [zsn_eq, zln_eq]
  exact ⟨zRx.app, E.push hv hb, Mm.mono zRx.app, L.mono zRx.app, E.new v, S.mono zRx.app⟩
theorem zPu0 {ty : List Nat} {ρ : List Value} {q : zQ} {stk : List Nat} {a : zA} {v : Value} {lo : zL} {st : List Value} {h : zH} (E : zEv ty ρ q.1) (Mm : zMm h ρ q.2.1) (L : zLo ρ q.2.2.1 lo) (S : zSk ρ stk st) (hv : zG ty a v) : zRx ρ (ρ ++ [v]) ∧ zEv ty (ρ ++ [v]) (zPu q stk (a, 0, 0)).1 ∧ zMm h (ρ ++ [v]) (zPu q stk (a, 0, 0)).2.1 ∧ zLo (ρ ++ [v]) (zPu q stk (a, 0, 0)).2.2.1 lo ∧ zSk (ρ ++ [v]) (zPu q stk (a, 0, 0)).2.2.2 (v :: st) :=
  zPu_ok E Mm L S hv (fun b h => by cases h)
noncomputable def zq_no : zQop := fun _ _ _ _ _ _ _ => none
theorem zSd_no (op : zNop) : zSd op zq_no := fun _ _ _ _ _ _ _ _ _ _ _ _ _ _ _ _ _ _ _ _ _ _ h => by cases h
noncomputable def zq_const : zQop := fun _ _ _ _ _ c q => if zMn ≤ c ∧ c ≤ zMx then some (zPu q q.2.2.2 ((0, c, c), 0, 0)) else none
theorem zSd_const : zSd zo_const zq_const := by
  intro tt sx dq d ms a b c k ty ρ q q' lo st h hd T E Mm L S hq
  unfold zq_const at hq
  split at hq
  case isFalse => cases hq
  next hc =>
  cases hq
  have e1 : zMn = -2147483648 := rfl
  have e2 : zMx = 2147483647 := rfl
  have e := z_of32 (n := c) (by omega) (by omega)
  obtain ⟨r1, r2, r3, r4, r5⟩ := zPu0 (v := .int (Int32.ofInt c)) E Mm L S (a := (0, c, c)) ⟨_, rfl, by rw [e]; exact Int.le_refl _, by rw [e]; exact Int.le_refl _⟩
  exact ⟨_, _, _, _, rfl, r1, T, r2, r3, r4, r5, zFm.rf⟩
/-! locals -/
noncomputable def zq_load (P : zA → Bool) : zQop := fun _ _ _ a _ _ q => match zlk q.2.2.1 a with
  | some i => if P (zav q.1 i) = true then some (q.1, q.2.1, q.2.2.1, i :: q.2.2.2) else none
  | none => none
theorem zSd_load {op : zNop} {P : zA → Bool} (hop : ∀ (sx : zX) (d a b : Nat) (c : Int) (k : Nat) (lo : zL) (st : List Value) (h : zH) (ty : List Nat) (w : zA) (v : Value), z_get lo a = some v → zG ty w v → P w = true → op sx d a b c k lo st h = zn (k + 1) lo (v :: st) h) : zSd op (zq_load P) := by
  intro tt sx dq d ms a b c k ty ρ q q' lo st h hd T E Mm L S hq
  unfold zq_load at hq
  split at hq
  case h_2 => cases hq
  next i hi =>
  split at hq
  case isFalse => cases hq
  next hP =>
  cases hq
  obtain ⟨v, h1, h2⟩ := zlk_ok L hi
  exact ⟨ρ, lo, v :: st, h, hop sx d a b c k lo st h ty _ v h2 (E.at h1) hP, zRx.rf, T, E, Mm, L, ⟨h1, S⟩, zFm.rf⟩
noncomputable def zisI (a : zA) : Bool := decide (a.1 = 0)
noncomputable def zisJ (a : zA) : Bool := decide (a.1 = 1)
theorem zSd_iload : zSd zo_iload (zq_load zisI) := zSd_load (fun sx d a b c k lo st h ty w v h1 g hP => by
  obtain ⟨x, rfl, -⟩ := zG0 g (of_decide_eq_true hP)
  unfold zo_iload
  rw [h1])
theorem zSd_aload : zSd zo_aload (zq_load zisR) := zSd_load (fun sx d a b c k lo st h ty w v h1 g hP => by
  obtain ⟨x, rfl⟩ := zGr g hP
  unfold zo_aload
  rw [h1])
theorem zSd_lload : zSd zo_lload (zq_load zisJ) := zSd_load (fun sx d a b c k lo st h ty w v h1 g hP => by
  obtain ⟨x, rfl, -⟩ := zG1 g (of_decide_eq_true hP)
  unfold zo_lload
  rw [h1])
noncomputable def zq_sto1 (P : zA → Bool) : zQop := fun _ _ _ a _ _ q => match q.2.2.2 with
  | i :: stk => if P (zav q.1 i) = true then some (q.1, q.2.1, zset1 q.1 q.2.2.1 a i, stk) else none
  | [] => none
theorem zSd_sto1 {op : zNop} {P : zA → Bool} (hop : ∀ (sx : zX) (d a b : Nat) (c : Int) (k : Nat) (lo : zL) (st : List Value) (h : zH) (ty : List Nat) (w : zA) (v : Value), zG ty w v → P w = true → op sx d a b c k lo (v :: st) h = zn (k + 1) (z_set1 lo a v) st h) : zSd op (zq_sto1 P) := by
  intro tt sx dq d ms a b c k ty ρ q q' lo st h hd T E Mm L S hq
  obtain ⟨env, me, loc, stk⟩ := q
  unfold zq_sto1 at hq
  dsimp only at hq E Mm L S
  cases stk with
  | nil => cases hq
  | cons i stk =>
  cases st with
  | nil => exact S.elim
  | cons v st =>
  dsimp only at hq
  split at hq
  case isFalse => cases hq
  next hP =>
  cases hq
  exact ⟨ρ, _, st, h, hop sx d a b c k lo st h ty _ v (E.at S.1) hP, zRx.rf, T, E, Mm, zset1_ok E L S.1, S.2, zFm.rf⟩
theorem zSd_istore : zSd zo_istore (zq_sto1 zisI) := zSd_sto1 (fun sx d a b c k lo st h ty w v g hP => by
  obtain ⟨x, rfl, -⟩ := zG0 g (of_decide_eq_true hP)
  rfl)
theorem zSd_astore : zSd zo_astore (zq_sto1 zisR) := zSd_sto1 (fun sx d a b c k lo st h ty w v g hP => by
  obtain ⟨x, rfl⟩ := zGr g hP
  rfl)
noncomputable def zq_lstore : zQop := fun _ _ _ a _ _ q => match q.2.2.2 with
  | i :: stk => if (zav q.1 i).1 = 1 then some (q.1, q.2.1, zset2 q.1 q.2.2.1 a i, stk) else none
  | [] => none
theorem zSd_lstore : zSd zo_lstore zq_lstore := by
  intro tt sx dq d ms a b c k ty ρ q q' lo st h hd T E Mm L S hq
  obtain ⟨env, me, loc, stk⟩ := q
  unfold zq_lstore at hq
  dsimp only at hq E Mm L S
  cases stk with
  | nil => cases hq
  | cons i stk =>
  cases st with
  | nil => exact S.elim
  | cons v st =>
  dsimp only at hq
  split at hq
  case isFalse => cases hq
  next hP =>
  cases hq
  obtain ⟨x, rfl, -⟩ := zG1 (E.at S.1) hP
  exact ⟨ρ, _, st, h, rfl, zRx.rf, T, E, Mm, zset2_ok E L S.1, S.2, zFm.rf⟩
/-! sums with a constant keep where they come from -/
noncomputable def zoff (i : Nat) (e : zEn) (c : Int) : zEn := if zMn ≤ e.1.2.1 + c ∧ e.1.2.2 + c ≤ zMx then ((0, e.1.2.1 + c, e.1.2.2 + c), if e.2.1 = 0 then (i + 1, c) else (e.2.1, e.2.2 + c)) else (zFull, 0, 0)
theorem zoff_ok {ty : List Nat} {ρ : List Value} {env : List zEn} {i : Nat} {e : zEn} {c : Int} {x z : Int32} (E : zEv ty ρ env) (he : env[i]? = some e) (hx : ρ[i]? = some (.int x)) (h0 : e.1.1 = 0) (hz : z.toInt = (x.toInt + c).bmod (2 ^ 32)) : zG ty (zoff i e c).1 (.int z) ∧ ∀ b, (zoff i e c).2.1 = b + 1 → ∃ x9 y : Int32, Value.int z = .int x9 ∧ ρ[b]? = some (.int y) ∧ x9.toInt = y.toInt + (zoff i e c).2.2 := by
  unfold zoff
  obtain ⟨g1, g2⟩ := E.2 i e _ he hx
  obtain ⟨x1, hx1, l1, l2⟩ := zG0 g1 h0
  cases hx1
  have e1 : zMn = -2147483648 := rfl
  have e2 : zMx = 2147483647 := rfl
  by_cases hc : zMn ≤ e.1.2.1 + c ∧ e.1.2.2 + c ≤ zMx
  · rw [if_pos hc]
    rw [z_bm (by omega) (by omega)] at hz
    refine ⟨⟨z, rfl, by omega, by omega⟩, fun b hb => ?_⟩
    by_cases h9 : e.2.1 = 0
    · dsimp only at hb ⊢
      rw [if_pos h9] at hb ⊢
      dsimp only at hb ⊢
      cases hb
      exact ⟨z, x, rfl, hx, hz⟩
    · dsimp only at hb ⊢
      rw [if_neg h9] at hb ⊢
      dsimp only at hb ⊢
      obtain ⟨x2, y, q1, q2, q3⟩ := g2 b hb
      cases q1
      exact ⟨z, y, rfl, q2, by omega⟩
  · rw [if_neg hc]
    exact ⟨zFull_ok z, fun b hb => by cases hb⟩
noncomputable def zq_iinc : zQop := fun _ _ _ a _ c q => match zlk q.2.2.1 a with
  | some i => (match zlku q.1 i with
    | some e => if e.1.1 = 0 ∧ zMn ≤ c ∧ c ≤ zMx then some (q.1 ++ [zoff i e c], q.2.1, zset1 (q.1 ++ [zoff i e c]) q.2.2.1 a q.1.length, q.2.2.2) else none
    | none => none)
  | none => none
theorem zSd_iinc : zSd zo_iinc zq_iinc := by
  intro tt sx dq d ms a b c k ty ρ q q' lo st h hd T E Mm L S hq
  unfold zq_iinc at hq
  split at hq
  case h_2 => cases hq
  next i hi =>
  rw [zlku_eq] at hq
  split at hq
  case h_2 => cases hq
  next e he =>
  split at hq
  case isFalse => cases hq
  next hc =>
  cases hq
  obtain ⟨v, h1, h2⟩ := zlk_ok L hi
  obtain ⟨x, rfl, -⟩ := zG0 (E.2 i e v he h1).1 hc.1
  have e1 : zMn = -2147483648 := rfl
  have e2 : zMx = 2147483647 := rfl
  obtain ⟨g1, g2⟩ := zoff_ok (c := c) (z := x + Int32.ofInt c) E he h1 hc.1 (by rw [Int32.toInt_add, z_of32 (by omega) (by omega)])
  have E' := E.push g1 g2
  refine ⟨ρ ++ [.int (x + Int32.ofInt c)], z_set1 lo a (.int (x + Int32.ofInt c)), st, h, ?_, zRx.app, T, E', Mm.mono zRx.app, zset1_ok E' (L.mono zRx.app) (E.new _), S.mono zRx.app, zFm.rf⟩
  unfold zo_iinc
  rw [h2]
noncomputable def zbs (o : Nat) (x y : Nat) (ex ey : zEn) (r : zA) : zEn :=
  if o = 8 ∧ ey.1.2.1 = ey.1.2.2 then zoff x ex ey.1.2.1 else if o = 8 ∧ ex.1.2.1 = ex.1.2.2 then zoff y ey ex.1.2.1 else if o = 9 ∧ ey.1.2.1 = ey.1.2.2 then zoff x ex (-ey.1.2.1) else (r, 0, 0)
noncomputable def zq_bin (o : Nat) : zQop := fun _ _ _ _ _ _ q => match q.2.2.2 with
  | y :: x :: stk => (match zlku q.1 x, zlku q.1 y with
    | some ex, some ey => if ex.1.1 = 0 ∧ ey.1.1 = 0 then (match zar o ex.1.2.1 ex.1.2.2 ey.1.2.1 ey.1.2.2 with
      | some r => some (zPu q stk (zbs o x y ex ey r))
      | none => none) else none
    | _, _ => none)
  | _ => none
theorem zSd_bin {op : zNop} (o : Nat) (hop : ∀ (sx : zX) (d a b : Nat) (c : Int) (k : Nat) (lo : zL) (x y : Int32) (st : List Value) (h : zH), ((o = 11 ∨ o = 12) → y ≠ 0) → op sx d a b c k lo (.int y :: .int x :: st) h = zn (k + 1) lo (.int (zop2 o x y) :: st) h) : zSd op (zq_bin o) := by
  intro tt sx dq d ms a b c k ty ρ q q' lo st h hd T E Mm L S hq
  unfold zq_bin at hq
  split at hq
  case h_2 => cases hq
  next iy ix stk hs =>
  rw [hs] at S
  rw [zlku_eq, zlku_eq] at hq
  match st, S with
  | vy :: vx :: st, S =>
  obtain ⟨s1, s2, s3⟩ := S
  split at hq
  case h_2 => cases hq
  next ex ey hx hy =>
  split at hq
  case isFalse => cases hq
  next hc =>
  split at hq
  case h_2 => cases hq
  next r hr =>
  cases hq
  obtain ⟨x, rfl, x1, x2⟩ := zG0 (E.2 ix ex vx hx s2).1 hc.1
  obtain ⟨y, rfl, y1, y2⟩ := zG0 (E.2 iy ey vy hy s1).1 hc.2
  obtain ⟨g, hne⟩ := zar_ok (ty := ty) hr x1 x2 y1 y2
  have key : zG ty (zbs o ix iy ex ey r).1 (.int (zop2 o x y)) ∧ ∀ b, (zbs o ix iy ex ey r).2.1 = b + 1 → ∃ x9 y9 : Int32, Value.int (zop2 o x y) = .int x9 ∧ ρ[b]? = some (.int y9) ∧ x9.toInt = y9.toInt + (zbs o ix iy ex ey r).2.2 := by
    unfold zbs
    by_cases c1 : o = 8 ∧ ey.1.2.1 = ey.1.2.2
    · rw [if_pos c1]
      obtain ⟨rfl, c1⟩ := c1
      exact zoff_ok E hx s2 hc.1 (by show (x + y).toInt = _; rw [Int32.toInt_add]; congr 2; omega)
    rw [if_neg c1]
    by_cases c2 : o = 8 ∧ ex.1.2.1 = ex.1.2.2
    · rw [if_pos c2]
      obtain ⟨rfl, c2⟩ := c2
      exact zoff_ok E hy s1 hc.2 (by show (x + y).toInt = _; rw [Int32.toInt_add]; congr 1; omega)
    rw [if_neg c2]
    by_cases c3 : o = 9 ∧ ey.1.2.1 = ey.1.2.2
    · rw [if_pos c3]
      obtain ⟨rfl, c3⟩ := c3
      exact zoff_ok E hx s2 hc.1 (by show (x - y).toInt = _; rw [Int32.toInt_sub]; congr 1; omega)
    rw [if_neg c3]
    exact ⟨g, fun b hb => by cases hb⟩
  obtain ⟨r1, r2, r3, r4, r5⟩ := zPu_ok (q := q) (stk := stk) E Mm L s3 key.1 key.2
  exact ⟨_, _, _, _, hop sx d a b c k lo x y st h hne, r1, T, r2, r3, r4, r5, zFm.rf⟩
theorem zSd_iadd : zSd zo_iadd (zq_bin 8) := zSd_bin 8 (fun _ _ _ _ _ _ _ _ _ _ _ _ => rfl)
theorem zSd_isub : zSd zo_isub (zq_bin 9) := zSd_bin 9 (fun _ _ _ _ _ _ _ _ _ _ _ _ => rfl)
theorem zSd_imul : zSd zo_imul (zq_bin 10) := zSd_bin 10 (fun _ _ _ _ _ _ _ _ _ _ _ _ => rfl)
theorem zSd_idiv : zSd zo_idiv (zq_bin 11) := zSd_bin 11 (fun sx d a b c k lo x y st h hn => by unfold zo_idiv; exact if_neg (hn (Or.inl rfl)))
theorem zSd_irem : zSd zo_irem (zq_bin 12) := zSd_bin 12 (fun sx d a b c k lo x y st h hn => by unfold zo_irem; exact if_neg (hn (Or.inr rfl)))
theorem zSd_ishl : zSd zo_ishl (zq_bin 13) := zSd_bin 13 (fun _ _ _ _ _ _ _ _ _ _ _ _ => rfl)
theorem zSd_ishr : zSd zo_ishr (zq_bin 14) := zSd_bin 14 (fun _ _ _ _ _ _ _ _ _ _ _ _ => rfl)
theorem zSd_iushr : zSd zo_iushr (zq_bin 15) := zSd_bin 15 (fun _ _ _ _ _ _ _ _ _ _ _ _ => rfl)
theorem zSd_iand : zSd zo_iand (zq_bin 16) := zSd_bin 16 (fun _ _ _ _ _ _ _ _ _ _ _ _ => rfl)
theorem zSd_ior : zSd zo_ior (zq_bin 17) := zSd_bin 17 (fun _ _ _ _ _ _ _ _ _ _ _ _ => rfl)
theorem zSd_ixor : zSd zo_ixor (zq_bin 18) := zSd_bin 18 (fun _ _ _ _ _ _ _ _ _ _ _ _ => rfl)
/-! one value makes one -/
noncomputable def zq_un (f : zA → Option zA) : zQop := fun _ _ _ _ _ _ q => match q.2.2.2 with
  | x :: stk => (match f (zav q.1 x) with
    | some r => some (zPu q stk (r, 0, 0))
    | none => none)
  | _ => none
theorem zSd_un {op : zNop} {f : zA → Option zA} (hop : ∀ (sx : zX) (d a b : Nat) (c : Int) (k : Nat) (lo : zL) (v : Value) (st : List Value) (h : zH) (ty : List Nat) (w r : zA), zG ty w v → f w = some r → ∃ v', zG ty r v' ∧ op sx d a b c k lo (v :: st) h = zn (k + 1) lo (v' :: st) h) : zSd op (zq_un f) := by
  intro tt sx dq d ms a b c k ty ρ q q' lo st h hd T E Mm L S hq
  unfold zq_un at hq
  split at hq
  case h_2 => cases hq
  next ix stk hs =>
  rw [hs] at S
  match st, S with
  | vx :: st, S =>
  obtain ⟨s1, s2⟩ := S
  split at hq
  case h_2 => cases hq
  next r hr =>
  cases hq
  obtain ⟨v', g, ho⟩ := hop sx d a b c k lo vx st h ty _ r (E.at s1) hr
  obtain ⟨r1, r2, r3, r4, r5⟩ := zPu0 (q := q) (stk := stk) E Mm L s2 g
  exact ⟨_, _, _, _, ho, r1, T, r2, r3, r4, r5, zFm.rf⟩
noncomputable def zf_i2l (a : zA) : Option zA := if a.1 = 0 then some (1, a.2.1, a.2.2) else none
noncomputable def zf_l2i (a : zA) : Option zA := if a.1 = 1 then some zFull else none
noncomputable def zf_i2b (a : zA) : Option zA := if a.1 = 0 then some zFull else none
theorem zSd_i2l : zSd zo_i2l (zq_un zf_i2l) := zSd_un (fun sx d a b c k lo v st h ty w r g hr => by
  unfold zf_i2l at hr
  split at hr
  case isFalse => cases hr
  next h0 =>
  cases hr
  obtain ⟨x, rfl, x1, x2⟩ := zG0 g h0
  exact ⟨_, ⟨x.toInt64, rfl, by rw [Int32.toInt_toInt64]; exact x1, by rw [Int32.toInt_toInt64]; exact x2⟩, rfl⟩)
theorem zSd_l2i : zSd zo_l2i (zq_un zf_l2i) := zSd_un (fun sx d a b c k lo v st h ty w r g hr => by
  unfold zf_l2i at hr
  split at hr
  case isFalse => cases hr
  next h0 =>
  cases hr
  obtain ⟨x, rfl, x1, x2⟩ := zG1 g h0
  exact ⟨_, zFull_ok _, rfl⟩)
theorem zSd_i2b : zSd zo_i2b (zq_un zf_i2b) := zSd_un (fun sx d a b c k lo v st h ty w r g hr => by
  unfold zf_i2b at hr
  split at hr
  case isFalse => cases hr
  next h0 =>
  cases hr
  obtain ⟨x, rfl, x1, x2⟩ := zG0 g h0
  exact ⟨_, zFull_ok _, rfl⟩)
/-! two values make one -/
noncomputable def zq_bi (f : zA → zA → Option zA) : zQop := fun _ _ _ _ _ _ q => match q.2.2.2 with
  | y :: x :: stk => (match f (zav q.1 x) (zav q.1 y) with
    | some r => some (zPu q stk (r, 0, 0))
    | none => none)
  | _ => none
theorem zSd_bi {op : zNop} {f : zA → zA → Option zA} (hop : ∀ (sx : zX) (d a b : Nat) (c : Int) (k : Nat) (lo : zL) (v u : Value) (st : List Value) (h : zH) (ty : List Nat) (w z r : zA), zG ty w v → zG ty z u → f w z = some r → ∃ v', zG ty r v' ∧ op sx d a b c k lo (u :: v :: st) h = zn (k + 1) lo (v' :: st) h) : zSd op (zq_bi f) := by
  intro tt sx dq d ms a b c k ty ρ q q' lo st h hd T E Mm L S hq
  unfold zq_bi at hq
  split at hq
  case h_2 => cases hq
  next iy ix stk hs =>
  rw [hs] at S
  match st, S with
  | vy :: vx :: st, S =>
  obtain ⟨s1, s2, s3⟩ := S
  split at hq
  case h_2 => cases hq
  next r hr =>
  cases hq
  obtain ⟨v', g, ho⟩ := hop sx d a b c k lo vx vy st h ty _ _ r (E.at s2) (E.at s1) hr
  obtain ⟨r1, r2, r3, r4, r5⟩ := zPu0 (q := q) (stk := stk) E Mm L s3 g
  exact ⟨_, _, _, _, ho, r1, T, r2, r3, r4, r5, zFm.rf⟩
noncomputable def zLfull : zA := (1, -9223372036854775808, 9223372036854775807)
theorem zLfull_ok {ty : List Nat} (x : Int64) : zG ty zLfull (.long x) := ⟨x, rfl, (zb64 x).1, (zb64 x).2⟩
noncomputable def zf_ladd (x y : zA) : Option zA := if x.1 = 1 ∧ y.1 = 1 then some zLfull else none
noncomputable def zf_lmul (x y : zA) : Option zA := if x.1 = 1 ∧ y.1 = 1 then some (zlw (zmin4 (x.2.1 * y.2.1) (x.2.1 * y.2.2) (x.2.2 * y.2.1) (x.2.2 * y.2.2)) (zmax4 (x.2.1 * y.2.1) (x.2.1 * y.2.2) (x.2.2 * y.2.1) (x.2.2 * y.2.2))) else none
noncomputable def zf_ldiv (x y : zA) : Option zA := if x.1 = 1 ∧ y.1 = 1 ∧ (0 < y.2.1 ∨ y.2.2 < 0) then some zLfull else none
noncomputable def zf_lcmp (x y : zA) : Option zA := if x.1 = 1 ∧ y.1 = 1 then some (0, -1, 1) else none
theorem zSd_ladd : zSd zo_ladd (zq_bi zf_ladd) := zSd_bi (fun sx d a b c k lo v u st h ty w z r g1 g2 hr => by
  unfold zf_ladd at hr
  split at hr
  case isFalse => cases hr
  next h0 =>
  cases hr
  obtain ⟨x, rfl, x1, x2⟩ := zG1 g1 h0.1
  obtain ⟨y, rfl, y1, y2⟩ := zG1 g2 h0.2
  exact ⟨_, zLfull_ok _, rfl⟩)
theorem zSd_lmul : zSd zo_lmul (zq_bi zf_lmul) := zSd_bi (fun sx d a b c k lo v u st h ty w z r g1 g2 hr => by
  unfold zf_lmul at hr
  split at hr
  case isFalse => cases hr
  next h0 =>
  cases hr
  obtain ⟨x, rfl, x1, x2⟩ := zG1 g1 h0.1
  obtain ⟨y, rfl, y1, y2⟩ := zG1 g2 h0.2
  refine ⟨_, ?_, rfl⟩
  obtain ⟨k1, k2⟩ := zmul_bd x1 x2 y1 y2
  unfold zlw
  split
  · next hc =>
    have e1 : zLn = -9223372036854775808 := rfl
    have e2 : zLx = 9223372036854775807 := rfl
    have e : (x * y).toInt = x.toInt * y.toInt := by rw [Int64.toInt_mul]; exact z_bm64 (by omega) (by omega)
    exact ⟨_, rfl, by rw [e]; exact k1, by rw [e]; exact k2⟩
  · exact zLfull_ok _)
theorem zSd_ldiv : zSd zo_ldiv (zq_bi zf_ldiv) := zSd_bi (fun sx d a b c k lo v u st h ty w z r g1 g2 hr => by
  unfold zf_ldiv at hr
  split at hr
  case isFalse => cases hr
  next h0 =>
  cases hr
  obtain ⟨x, rfl, x1, x2⟩ := zG1 g1 h0.1
  obtain ⟨y, rfl, y1, y2⟩ := zG1 g2 h0.2.1
  refine ⟨.long (x / y), zLfull_ok _, ?_⟩
  have hne : ¬ y = 0 := fun e => by
    rw [e] at y1 y2
    rw [show (0 : Int64).toInt = 0 from rfl] at y1 y2
    omega
  unfold zo_ldiv
  exact if_neg hne)
theorem zSd_lcmp : zSd zo_lcmp (zq_bi zf_lcmp) := zSd_bi (fun sx d a b c k lo v u st h ty w z r g1 g2 hr => by
  unfold zf_lcmp at hr
  split at hr
  case isFalse => cases hr
  next h0 =>
  cases hr
  obtain ⟨x, rfl, x1, x2⟩ := zG1 g1 h0.1
  obtain ⟨y, rfl, y1, y2⟩ := zG1 g2 h0.2
  refine ⟨_, ?_, rfl⟩
  unfold lg_cmp
  split
  · exact ⟨1, rfl, by decide, by decide⟩
  · split
    · exact ⟨0, rfl, by decide, by decide⟩
    · exact ⟨-1, rfl, by decide, by decide⟩)
noncomputable def zq_lconst : zQop := fun _ _ _ _ _ c q => if zLn ≤ c ∧ c ≤ zLx then some (zPu q q.2.2.2 ((1, c, c), 0, 0)) else none
theorem zSd_lconst : zSd zo_lconst zq_lconst := by
  intro tt sx dq d ms a b c k ty ρ q q' lo st h hd T E Mm L S hq
  unfold zq_lconst at hq
  split at hq
  case isFalse => cases hq
  next hc =>
  cases hq
  have e1 : zLn = -9223372036854775808 := rfl
  have e2 : zLx = 9223372036854775807 := rfl
  have e := z_of64 (n := c) (by omega) (by omega)
  obtain ⟨r1, r2, r3, r4, r5⟩ := zPu0 (v := .long (Int64.ofInt c)) E Mm L S (a := (1, c, c)) ⟨_, rfl, by rw [e]; exact Int.le_refl _, by rw [e]; exact Int.le_refl _⟩
  exact ⟨_, _, _, _, rfl, r1, T, r2, r3, r4, r5, zFm.rf⟩
noncomputable def zq_null : zQop := fun _ _ _ _ _ _ q => some (zPu q q.2.2.2 ((4, 0, 0), 0, 0))
theorem zSd_null : zSd zo_null zq_null := by
  intro tt sx dq d ms a b c k ty ρ q q' lo st h hd T E Mm L S hq
  cases hq
  obtain ⟨r1, r2, r3, r4, r5⟩ := zPu0 (v := .null) E Mm L S (a := (4, 0, 0)) rfl
  exact ⟨_, _, _, _, rfl, r1, T, r2, r3, r4, r5, zFm.rf⟩
noncomputable def zq_ldcs : zQop := fun _ _ _ a _ _ q => if a < z_strs.length then some (zPu q q.2.2.2 ((5, (a : Int), (a : Int)), 0, 0)) else none
theorem zSd_ldcs : zSd zo_ldcs zq_ldcs := by
  intro tt sx dq d ms a b c k ty ρ q q' lo st h hd T E Mm L S hq
  unfold zq_ldcs at hq
  split at hq
  case isFalse => cases hq
  next hc =>
  cases hq
  obtain ⟨r1, r2, r3, r4, r5⟩ := zPu0 (v := .ref (zB + a)) E Mm L S (a := (5, (a : Int), (a : Int))) rfl
  exact ⟨_, _, _, _, by unfold zo_ldcs; exact if_pos hc, r1, T, r2, r3, r4, r5, zFm.rf⟩
/-! the stack -/
noncomputable def zq_dup : zQop := fun _ _ _ _ _ _ q => match q.2.2.2 with
  | x :: stk => if (zav q.1 x).1 ≠ 1 then some (q.1, q.2.1, q.2.2.1, x :: x :: stk) else none
  | _ => none
theorem zSd_dup : zSd zo_dup zq_dup := by
  intro tt sx dq d ms a b c k ty ρ q q' lo st h hd T E Mm L S hq
  unfold zq_dup at hq
  split at hq
  case h_2 => cases hq
  next ix stk hs =>
  rw [hs] at S
  match st, S with
  | vx :: st, S =>
  split at hq
  case isFalse => cases hq
  next hc =>
  cases hq
  have hcat := zGcat (E.at S.1)
  rw [if_neg hc] at hcat
  exact ⟨ρ, lo, vx :: vx :: st, h, by unfold zo_dup; exact if_pos hcat, zRx.rf, T, E, Mm, L, ⟨S.1, S.1, S.2⟩, zFm.rf⟩
noncomputable def zq_dup2 : zQop := fun _ _ _ _ _ _ q => match q.2.2.2 with
  | x :: y :: stk => if (zav q.1 x).1 ≠ 1 ∧ (zav q.1 y).1 ≠ 1 then some (q.1, q.2.1, q.2.2.1, x :: y :: x :: y :: stk) else none
  | _ => none
theorem zSd_dup2 : zSd zo_dup2 zq_dup2 := by
  intro tt sx dq d ms a b c k ty ρ q q' lo st h hd T E Mm L S hq
  unfold zq_dup2 at hq
  split at hq
  case h_2 => cases hq
  next ix iy stk hs =>
  rw [hs] at S
  match st, S with
  | vx :: vy :: st, S =>
  split at hq
  case isFalse => cases hq
  next hc =>
  cases hq
  have h1 := zGcat (E.at S.1)
  rw [if_neg hc.1] at h1
  have h2 := zGcat (E.at S.2.1)
  rw [if_neg hc.2] at h2
  exact ⟨ρ, lo, vx :: vy :: vx :: vy :: st, h, by unfold zo_dup2; exact if_pos ⟨h1, h2⟩, zRx.rf, T, E, Mm, L, ⟨S.1, S.2.1, S.1, S.2⟩, zFm.rf⟩
noncomputable def zq_pop : zQop := fun _ _ _ _ _ _ q => match q.2.2.2 with
  | x :: stk => if (zav q.1 x).1 ≠ 1 then some (q.1, q.2.1, q.2.2.1, stk) else none
  | _ => none
theorem zSd_pop : zSd zo_pop zq_pop := by
  intro tt sx dq d ms a b c k ty ρ q q' lo st h hd T E Mm L S hq
  unfold zq_pop at hq
  split at hq
  case h_2 => cases hq
  next ix stk hs =>
  rw [hs] at S
  match st, S with
  | vx :: st, S =>
  split at hq
  case isFalse => cases hq
  next hc =>
  cases hq
  have hcat := zGcat (E.at S.1)
  rw [if_neg hc] at hcat
  exact ⟨ρ, lo, st, h, by unfold zo_pop; exact if_pos hcat, zRx.rf, T, E, Mm, L, S.2, zFm.rf⟩
end
