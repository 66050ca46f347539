noncomputable def z_HR (p : Program) (l : Launch) (e : Env) (R : Room) (s : State) (m : MethodId) (args : Array Value) (below : List Frame) (meth : Method) (c : Code) (Z : Nat) (D : va_G) (tc : Nat → ClassId) (M : zMi) (cs : List zI) (is : List zJ) (hs : List zHd) (ad0 : Nat → Nat) (n0 C S : Nat) (Q : State → Prop) (d : Nat) (o : zO) (hF : zH) : Prop :=
  ∀ (k : Nat) (i : zI) (q : zJ) (lo : zL) (st : List Value) (x y : Nat), cs[k]? = some i → is[k]? = some q → z_ckA M is hs i q k = true → z_fin M i d st = some (o, x, y) → z_W p l e R s m args below meth c Z D tc M (z_nxOf is) ad0 n0 C S Q k lo st hF x y
noncomputable def z_HX (p : Program) (l : Launch) (e : Env) (R : Room) (s : State) (m : MethodId) (args : Array Value) (below : List Frame) (meth : Method) (c : Code) (Z : Nat) (D : va_G) (tc : Nat → ClassId) (is : List zJ) (hs : List zHd) (ad0 : Nat → Nat) (n0 C S : Nat) (Q : State → Prop) (o : zO) (hF : zH) : Prop :=
  ∀ (x : Nat) (E : String), o = .inr x → z_excs[x]? = some E → hs = [] → ∀ (k : Nat) (ad : Nat → Nat) (H : Heap) (locs : List Loc) (ls : Array Slot) (cells slots : Nat) (rest : List Value) (q9 : Addr) (ce : Cell), z_R Z D tc ad hF H → z_ag n0 ad0 ad → n0 ≤ hF.length → va_S (fun q => Z ≤ q) s.heap H locs → H[q9]? = some ce → ce.vm = .none → s.vm.findClass E = some ce.cls → cells ≤ C → slots ≤ S → vx_W p l e R s m args below meth c H locs cells slots Q (F0 m (z_nxOf is k) ls rest) q9
/-- the run from here is the machine's, in every frame of this method -/
noncomputable def z_Bd (sx : zX) (d j k : Nat) (lo : zL) (st : List Value) (h : zH) (o : zO) (hF : zH) (kc ks : Nat) : Prop :=
  ∀ (p : Program) (l : Launch) (e : Env) (R : Room) (s : State) (m : MethodId) (args : Array Value) (below : List Frame) (meth : Method) (c : Code) (Z : Nat) (D : va_G) (tc : Nat → ClassId) (adK adV : Nat → Nat) (sb : Nat) (M : zMi) (cs : List zI) (is : List zJ) (hs : List zHd) (ad0 : Nat → Nat) (n0 C S : Nat) (Q : State → Prop),
    z_ms[j]? = some M → z_cs[j]? = some cs → z_is[j]? = some is → z_hs[j]? = some hs → z_Fr p s m args meth c M → z_K l Z D tc adK adV sb sx s → z_A0 adK sb ad0 → z_Rm R d C S → z_HR p l e R s m args below meth c Z D tc M cs is hs ad0 n0 C S Q d o hF → z_HX p l e R s m args below meth c Z D tc is hs ad0 n0 C S Q o hF →
    z_W p l e R s m args below meth c Z D tc M (z_nxOf is) ad0 n0 C S Q k lo st h kc ks
theorem z_lgl (ad : Nat → Nat) : ∀ vs : List Value, (lg_sl (vs.map (z_tr ad))).length = (lg_sl vs).length
  | [] => rfl
  | v :: vs => by
    have ih := z_lgl ad vs
    unfold lg_sl at ih ⊢
    rw [List.map_cons, List.flatMap_cons, List.flatMap_cons, List.length_append, List.length_append, ih, z_tr_cat]
    by_cases h : v.category = 2
    · rw [if_pos h, if_pos h]; rfl
    · rw [if_neg h, if_neg h]; rfl
theorem z_xn_fit : ∀ n ∈ z_xn, Bundle.fit n = true := by decide +kernel
theorem z_R.grown {Z : Nat} {D : va_G} {tc : Nat → ClassId} {ad : Nat → Nat} {h : zH} {H H1 : Heap} (hR : z_R Z D tc ad h H) (hk : ∀ q : Nat, q < H.size → H1[q]? = H[q]?) : z_R Z D tc ad h H1 := ⟨hR.1.kept (fun k x hx => hk x.1 ((hR.1 k x hx).lt)), hR.2⟩
set_option maxHeartbeats 4000000 in
/-- a method's own ends: returns and throws -/
theorem z_ends {p : Program} {l : Launch} {e : Env} {R : Room} {s : State} {m : MethodId} {args : Array Value} {below : List Frame} {meth : Method} {c : Code} {Z : Nat} {D : va_G} {tc : Nat → ClassId} {adK adV : Nat → Nat} {sb : Nat} {sx : zX} {M : zMi} {cs : List zI} {is : List zJ} {hs : List zHd} {ad0 : Nat → Nat} {n0 C S d : Nat} {o : zO} {hF : zH}
    (hFr : z_Fr p s m args meth c M) (hK : z_K l Z D tc adK adV sb sx s) (hA : z_A0 adK sb ad0) (hR : z_Rm R d C S) (hhs : M.2.2.2.2.2 = hs.map (fun x => (x.1, x.2.1, x.2.2.1, x.2.2.2.1))) : z_HR p l e R s m args below meth c Z D tc M cs is hs ad0 n0 C S (vx_MQ below (z_Qm Z D tc ad0 n0 hF o) (z_Xm Z D tc ad0 n0 hF o) args s C S (fun q => Z ≤ q)) d o hF := by
  intro k i q lo st x y hi hq hck hfin
  obtain ⟨hx, hb, hml, hr, hown, hts, hlocks, htab, hnm⟩ := hFr
  have hnx : z_nxOf is k = q.1 := by unfold z_nxOf; rw [hq]; rfl
  intro ad H locs ls cells slots q1 q2 q3 q4 q5 q6 q7 q8 q9
  rw [hnx]
  unfold z_ckA at hck
  rw [Bool.or_eq_true, Bool.and_eq_true] at hck
  unfold z_fin at hfin
  split at hfin
  · next r hi1 =>
    split at hfin
    case h_2 => cases hfin
    next ty hty =>
    by_cases hn : narrow ty (.int r) = .int r
    case neg => rw [if_neg hn] at hfin; cases hfin
    rw [if_pos hn] at hfin
    simp only [Option.some.injEq, Prod.mk.injEq] at hfin
    obtain ⟨rfl, rfl, rfl⟩ := hfin
    rcases hck with h99 | ⟨hd, hck⟩
    · rw [decide_eq_true_eq, hi1] at h99; cases h99
    have hd := of_decide_eq_true hd
    rw [z_ckB50 hi1] at hck
    split at hck
    case h_2 => cases hck
    next hins =>
    rw [hins, of_decide_eq_true hck] at hd
    subst q8; subst q9
    exact vx_ret (W.zret hx hb (hr.trans hty) hn (fun t ht _ => ⟨_, rfl, ad, q2, rfl, by rw [ht]; exact q1, q3, fun w hw => by cases hw; exact z_okV_int _ _, q4.F ht⟩) q4.2.2 hd)
  · next r hi1 =>
    simp only [Option.some.injEq, Prod.mk.injEq] at hfin
    obtain ⟨rfl, rfl, rfl⟩ := hfin
    rcases hck with h99 | ⟨hd, hck⟩
    · rw [decide_eq_true_eq, hi1] at h99; cases h99
    have hd := of_decide_eq_true hd
    rw [z_ckB51 hi1] at hck
    split at hck
    case h_2 => cases hck
    next hins =>
    rw [Bool.and_eq_true] at hck
    rw [hins, of_decide_eq_true hck.1] at hd
    subst q8; subst q9
    exact vx_ret (W.lret hx hb (hr.trans (of_decide_eq_true hck.2)) (fun t ht _ => ⟨_, rfl, ad, q2, rfl, by rw [ht]; exact q1, q3, fun w hw => by cases hw; exact z_okV_long _ _, q4.F ht⟩) q4.2.2 hd)
  · next r hi1 =>
    simp only [Option.some.injEq, Prod.mk.injEq] at hfin
    obtain ⟨rfl, rfl, rfl⟩ := hfin
    rcases hck with h99 | ⟨hd, hck⟩
    · rw [decide_eq_true_eq, hi1] at h99; cases h99
    have hd := of_decide_eq_true hd
    rw [z_ckB52 hi1] at hck
    split at hck
    case h_2 => cases hck
    next hins =>
    rw [Bool.and_eq_true] at hck
    rw [hins, of_decide_eq_true hck.1] at hd
    subst q8; subst q9
    have hck2 := hck.2
    split at hck2
    · next nmr hrt =>
      exact vx_ret (W.aret hx hb (hr.trans hrt) (Or.inl ⟨_, rfl⟩) (Or.inr ⟨_, rfl⟩) (fun t ht _ => ⟨_, rfl, ad, q2, rfl, by rw [ht]; exact q1, q3, fun w hw => by cases hw; exact z_ok1 q7, q4.F ht⟩) q4.2.2 hd)
    · next nmr hrt =>
      exact vx_ret (W.aret hx hb (hr.trans hrt) (Or.inr ⟨_, rfl⟩) (Or.inr ⟨_, rfl⟩) (fun t ht _ => ⟨_, rfl, ad, q2, rfl, by rw [ht]; exact q1, q3, fun w hw => by cases hw; exact z_ok1 q7, q4.F ht⟩) q4.2.2 hd)
    · cases hck2
  · next hi1 =>
    simp only [Option.some.injEq, Prod.mk.injEq] at hfin
    obtain ⟨rfl, rfl, rfl⟩ := hfin
    rcases hck with h99 | ⟨hd, hck⟩
    · rw [decide_eq_true_eq, hi1] at h99; cases h99
    have hd := of_decide_eq_true hd
    rw [z_ckB53 hi1] at hck
    split at hck
    case h_2 => cases hck
    next hins =>
    rw [Bool.and_eq_true] at hck
    rw [hins, of_decide_eq_true hck.1] at hd
    subst q8; subst q9
    exact vx_ret (W.vret hx hb (hr.trans (of_decide_eq_true hck.2)) (fun t ht _ => ⟨_, rfl, ad, q2, rfl, by rw [ht]; exact q1, q3, (fun w hw => by cases hw), q4.F ht⟩) q4.2.2 hd)
  · next st9 x8 st8 hi1 =>
    by_cases hc : 6 ≤ d ∧ z_cat st9 ≤ 8
    case neg => rw [if_neg hc] at hfin; cases hfin
    rw [if_pos hc] at hfin
    simp only [Option.some.injEq, Prod.mk.injEq] at hfin
    obtain ⟨rfl, rfl, rfl⟩ := hfin
    rcases hck with h99 | ⟨hd, hck⟩
    · rw [decide_eq_true_eq, hi1] at h99; cases h99
    have hd := of_decide_eq_true hd
    rw [z_ckB62 hi1] at hck
    split at hck
    case h_2 => cases hck
    next ik cls ic sq hins hcls hic hsq =>
    simp only [Bool.and_eq_true, Bool.or_eq_true, decide_eq_true_eq] at hck
    obtain ⟨⟨⟨⟨⟨⟨⟨c1, c2⟩, c3⟩, c4⟩, c5⟩, c6⟩, c7⟩, c8⟩ := hck
    rw [hins, c3] at hd
    obtain ⟨ix, rx, ⟨x0, x1, x2, x5⟩, f1, f2, f3, f4⟩ := z_xf i.2.1 cls ic hcls hic
    have htab0 : ∀ z ∈ c.exceptionTable.toList, covers z (q.1 + 9) = false := by
      rw [htab, hhs, c2]
      intro z hz
      cases hz
    have htab1 : ∀ z ∈ c.exceptionTable.toList, covers z (q.1 + 10) = false := by
      rw [htab, hhs, c2]
      intro z hz
      cases hz
    have hat : ∀ w ∈ z_atX M.1 ic cls ix rx z_xn, w.before args s = true := by
      rw [c1]
      refine vx_hat (fun w hw => hts w (f1 w hw)) f2 (fun w hw => ?_)
      refine va_Nw.use ?_ (hK.2.2.2.2.2.2.2.2.2.2.2.2.2.2 w hw)
      simp only [z_xw, List.mem_cons, List.not_mem_nil, or_false] at hw
      rcases hw with rfl | rfl | rfl | rfl | rfl | rfl | rfl | rfl <;> rfl
    have hgood : ∀ w ∈ Cond.classLink M.1 ik cls :: Cond.initialized cls :: z_atX M.1 ic cls ix rx z_xn, vx_ot w = true := by
      intro w hw
      rcases List.mem_cons.mp hw with rfl | hw
      · unfold vx_ot; rw [(List.mem_filter.mp (z_w_in c4)).2, Bool.or_true]
      rcases List.mem_cons.mp hw with rfl | hw
      · unfold vx_ot; rw [(List.mem_filter.mp (z_w_in c5)).2, Bool.or_true]
      · rw [c1] at hw; exact f3 w hw
    have hstr := (hK.2.2.1 i.2.2.1 sq hsq).1
    rw [c6] at hstr
    obtain ⟨r1, r2, r3, r4⟩ := hR
    have hz := z_cat_tr ad st9
    have hxc : ∀ t : State, s.vm.Alike t.vm → H.size ≤ t.heap.size → (∀ q : Nat, q < H.size → t.heap[q]? = H[q]?) → z_Xm Z D tc ad0 n0 hF (.inr i.2.1) cls s t := by
      intro t _ g1 g2
      refine ⟨_, rfl, hcls, ad, q2, q1.grown g2, q3, Nat.le_trans q4.1 g1, fun q0 k1 k2 => ?_⟩
      rw [g2 q0 (Nat.lt_of_lt_of_le k1 q4.1)]
      exact q4.2.1 q0 k1 k2
    rcases c8 with ⟨⟨d4, d6⟩, d9⟩ | ⟨⟨d4, d7⟩, d10⟩
    · exact z_throwX hx hb hK.2.2.2.2.2.2.2.2.2.1 x0 x1 x2 x5 hown f4 z_xn_fit (hts _ (z_w_in c4)) (hts _ (z_w_in c5)) hstr hat hgood hK.2.2.2.1 hK.2.2.2.2.1 q4 (by rw [hml]; exact q5.1) hd c7 d4 d6 d9 htab0 (by show 2 + 3 < _; omega) (by show _ + (13 * (2 + 1) + 43) ≤ _; omega) (by omega) (by omega) hlocks hxc q4.2.2 (by omega) (by omega)
    · exact z_throwXW hx hb hK.2.2.2.2.2.2.2.2.2.1 x0 x1 x2 x5 hown f4 z_xn_fit (hts _ (z_w_in c4)) (hts _ (z_w_in c5)) hstr hat hgood hK.2.2.2.1 hK.2.2.2.2.1 q4 (by rw [hml]; exact q5.1) hd c7 d4 d7 d10 htab1 (by show 2 + 3 < _; omega) (by show _ + (13 * (2 + 1) + 43) ≤ _; omega) (by omega) (by omega) hlocks hxc q4.2.2 (by omega) (by omega)
  · cases hfin
theorem z_outs {p : Program} {l : Launch} {e : Env} {R : Room} {s : State} {m : MethodId} {args : Array Value} {below : List Frame} {meth : Method} {c : Code} {Z : Nat} {D : va_G} {tc : Nat → ClassId} {M : zMi} {is : List zJ} {hs : List zHd} {ad0 : Nat → Nat} {n0 C S : Nat} {o : zO} {hF : zH}
    (hFr : z_Fr p s m args meth c M) (hhs : M.2.2.2.2.2 = hs.map (fun x => (x.1, x.2.1, x.2.2.1, x.2.2.2.1))) : z_HX p l e R s m args below meth c Z D tc is hs ad0 n0 C S (vx_MQ below (z_Qm Z D tc ad0 n0 hF o) (z_Xm Z D tc ad0 n0 hF o) args s C S (fun q => Z ≤ q)) o hF := by
  intro x E ho hE hh k ad H locs ls cells slots rest q9 ce q1 q2 q3 q4 g1 g2 g3 g4 g5
  obtain ⟨hx, hb, hml, hr, hown, hts, hlocks, htab, hnm⟩ := hFr
  refine vx_out (fun z hz => ?_) hlocks g1 g2 g3 (fun t ht _ => ⟨x, ho, hE, ad, q2, by rw [ht]; exact q1, q3, q4.F ht⟩) q4.2.2 g4 g5
  rw [htab, hhs, hh] at hz
  cases hz
