/-! isTrue and sumOf of the class -/
theorem ztt100 {t : Nat} (h1 : 100 ≤ t) (h2 : t ≤ 112) : z_tt t = (0, 2, 6, [(0, 0, (0, ((t - 100 : Nat) : Int), ((t - 100 : Nat) : Int))), (1, 2, (2, ((t + 40 : Nat) : Int), ((t + 40 : Nat) : Int))), (3, 3, (2, ((t + 20 : Nat) : Int), ((t + 20 : Nat) : Int))), (4, 4, (2, 1000, 1400)), (5, 5, (2, 34, 34))]) := by
  unfold z_tt
  rw [if_neg (by omega), if_pos ⟨h1, h2⟩]
theorem ztt1000 {t : Nat} (h1 : 1000 ≤ t) (h2 : t ≤ 1400) : z_tt t = (1, 0, t - 1000, [(0, ((t : Nat) : Int) - 1001, zFull)]) := by
  unfold z_tt
  rw [if_neg (by omega), if_neg (by omega), if_neg (by omega), if_neg (by omega), if_pos ⟨h1, h2⟩]
theorem zmc5 {lo : zL} {h : zH} {x : Int32} (hg : z_get lo 5 = some (.int x)) : zmc lo h (1, 5, 0, 400) = (400 - x.toInt).toNat := by
  unfold zmc
  rw [if_neg (by decide), if_pos (Or.inl rfl)]
  unfold zcv2
  rw [if_pos (by decide), hg]
theorem zJ_43 : zJ3 43 z_m43 z_c43 z_h43 := ⟨rfl, rfl, rfl⟩
set_option maxRecDepth 100000 in
theorem zLp_T {sx : zX} {d0 : Nat} {ty0 : List Nat} {h0 : zH} (hd : 8 ≤ d0) (H : ∀ c, c < 34 → ∀ c', zCtl[c]? = some c' → zVd z_tt zE1 c') : ∀ (m : Nat) (ty : List Nat) (lo : zL) (h : zH) (vl : List Value), zExt ty0 ty → zTY z_tt ty h → zE1 ty h → zFm (zcM zC_T) ty0 h0 h → zVl ty lo zT4.2.1 vl → zmc lo h (1, 5, 0, 400) = m → zGo sx d0 (zPo z_tt zE1 zC_T ty0 h0) [(43, 4, lo, [])] h 0 0 := by
  intro m
  induction m using Nat.strongRecOn with
  | ind m ih =>
  intro ty lo h vl X T E F H1 hm
  match vl, H1 with
  | [v0, v1, v2, v3, v4, v5], H1 =>
  obtain ⟨g0, ⟨a, t, rfl, ha, t1, t2⟩, g1, ⟨x1, rfl, p1, q1⟩, g2, ⟨x2, rfl, p2, q2⟩, g3, ⟨b, t3, rfl, hb, t31, t32⟩, g4, ⟨x4, rfl, p4, q4⟩, g5, ⟨x5, rfl, p5, q5⟩, -⟩ := H1
  dsimp only at g0 g1 g2 g3 g4 g5
  rw [zmc5 g5] at hm
  have hstb : zStable z_tt zE1 (zcM zC_T) := zE1_stable (by decide +kernel)
  have e77 : zGo sx d0 (zPo z_tt zE1 zC_T ty0 h0) [(43, 77, lo, [])] h 0 0 := by
    refine zseg (ct := zC_T) (c0 := zT77) (vl := [.ref a, .int x1, .int x2]) hstb hd H zK_T77 rfl X T E F ⟨g0, ⟨a, t, rfl, ha, t1, t2⟩, g1, ⟨x1, rfl, p1, q1⟩, g2, ⟨x2, rfl, p2, q2⟩, trivial⟩ (fun c hc ty' lo' h' vl' vm' _ _ _ _ _ _ hl => ?_)
    rw [List.mem_singleton.mp hc] at hl
    rcases hl with hl | hl
    · exact absurd hl (Nat.not_lt_zero _)
    · exact hl.2.elim
  have z77 : z_ok sx (d0 - 0) 43 77 lo [] h (fun o h' a b => zKx sx d0 (zPo z_tt zE1 zC_T ty0 h0) [] o h' (a + 0) (b + 0)) := e77
  show z_ok sx (d0 - 0) 43 4 lo [] h (fun o h' a b => zKx sx d0 (zPo z_tt zE1 zC_T ty0 h0) [] o h' (a + 0) (b + 0))
  have et := ztt100 (t := t) (by omega) (by omega)
  obtain ⟨fs, he, hl⟩ := zcell0 (c := 2) (n := 6) T ha (by rw [et]) (by rw [et]) (by rw [et])
  obtain ⟨vc, hvc, tc, utc, rfl, hw, u1, u2⟩ := zfd (b := 4) (A := (2, 1000, 1400)) T ha he (by omega) (by rw [et]; rfl)
  have ec := ztt1000 (t := utc) (by omega) (by omega)
  obtain ⟨f, hf⟩ := zcell1 (n := utc - 1000) T hw (by rw [ec]) (by rw [ec])
  refine zh_ild zJ_43 (a := 5) (b := 0) (z := 0) rfl (k' := 5) rfl g5 ?_
  refine zh_ild zJ_43 (a := 2) (b := 0) (z := 0) rfl (k' := 6) rfl g2 ?_
  refine zh_icmp zJ_43 (a := 77) (b := 3) (z := 0) rfl (fun _ => z77) (fun hc => ?_)
  refine zh_ild zJ_43 (a := 5) (b := 0) (z := 0) rfl (k' := 8) rfl g5 ?_
  refine zh_ald zJ_43 (a := 0) (b := 0) (z := 0) rfl (k' := 9) rfl g0 ?_
  refine zh_get zJ_43 (b := 4) (c := 2) (z := 0) rfl (k' := 10) rfl he hvc ?_
  refine zh_alen zJ_43 (a := 0) (b := 0) (z := 0) rfl (k' := 11) rfl hf ?_
  refine zh_icmp zJ_43 (a := 77) (b := 3) (z := 0) rfl (fun _ => z77) (fun hc2 => ?_)
  have hlt : x5.toInt < ((utc - 1000 : Nat) : Int) := by
    have : ¬ (Int32.ofNat (utc - 1000)).toInt ≤ x5.toInt := fun e => hc2 (zcmp_ge.mpr e)
    rw [zofNat (by omega)] at this
    omega
  refine zh_ald zJ_43 (a := 0) (b := 0) (z := 0) rfl (k' := 13) rfl g0 ?_
  refine zh_get zJ_43 (b := 4) (c := 2) (z := 0) rfl (k' := 14) rfl he hvc ?_
  refine zh_ild zJ_43 (a := 5) (b := 0) (z := 0) rfl (k' := 15) rfl g5 ?_
  refine zh_iald zJ_43 (z := 0) rfl (k' := 16) rfl hf p5 hlt ?_
  refine zh_ist zJ_43 (a := 6) (b := 0) (z := 0) rfl (k' := 17) rfl ?_
  have k5 : z_get (z_set1 lo 6 (.int (f x5.toNatClampNeg))) 5 = some (.int x5) := zget_set1_ne g5 (by decide) rfl
  have e17 : zGo sx d0 (zPo z_tt zE1 zC_T ty0 h0) [(43, 17, z_set1 lo 6 (.int (f x5.toNatClampNeg)), [])] h 0 0 := by
    refine zseg (ct := zC_T) (c0 := zT17) (vl := [.ref a, .int x1, .int x2, .ref b, .int x4, .int x5, .int (f x5.toNatClampNeg)]) hstb hd H zK_T17 rfl X T E F ⟨zget_set1_ne g0 (by decide) rfl, ⟨a, t, rfl, ha, t1, t2⟩, zget_set1_ne g1 (by decide) rfl, ⟨x1, rfl, p1, q1⟩, zget_set1_ne g2 (by decide) rfl, ⟨x2, rfl, p2, q2⟩, zget_set1_ne g3 (by decide) rfl, ⟨b, t3, rfl, hb, t31, t32⟩, zget_set1_ne g4 (by decide) rfl, ⟨x4, rfl, p4, q4⟩, k5, ⟨x5, rfl, p5, by omega⟩, zget_self, zFull_ok _, trivial⟩ (fun c hc ty' lo' h' vl' vm' X' T' E' F' H1' _ hlx => ?_)
    have ecc := List.mem_singleton.mp hc
    subst ecc
    rcases hlx with hlx | hlx
    · refine ih _ ?_ ty' lo' h' vl' X' T' E' F' H1' rfl
      have hlx : zmc lo' h' (1, 5, 0, 400) < zmc (z_set1 lo 6 (.int (f x5.toNatClampNeg))) h (1, 5, 0, 400) := hlx
      rw [zmc5 k5, hm] at hlx
      exact hlx
    · exact hlx.2.elim
  exact e17
set_option maxRecDepth 100000 in
theorem zV_T (H : ∀ c, c < 34 → ∀ c', zCtl[c]? = some c' → zVd z_tt zE1 c') : zVd z_tt zE1 zC_T := by
  intro sx d ty h as hd T E hA
  have hd : 8 ≤ d := hd
  match as, hA with
  | [v0, v1, v2, v3], hA =>
  obtain ⟨⟨a, t, rfl, ha, t1, t2⟩, ⟨x1, rfl, p1, q1⟩, ⟨x2, rfl, p2, q2⟩, ⟨b, t3, rfl, hb, t31, t32⟩, -⟩ := hA
  show z_ok sx d 43 0 [(0, .ref a), (1, .int x1), (2, .int x2), (3, .ref b)] [] h _
  refine zh zJ_43 (i := (0, 0, 0, 0)) rfl rfl (k' := 1) (lo' := [(0, .ref a), (1, .int x1), (2, .int x2), (3, .ref b)]) (st' := [.int (Int32.ofInt 0)]) (h' := h) rfl ?_
  refine zh zJ_43 (i := (4, 4, 0, 0)) rfl rfl (k' := 2) (lo' := [(4, .int (Int32.ofInt 0)), (0, .ref a), (1, .int x1), (2, .int x2), (3, .ref b)]) (st' := []) (h' := h) rfl ?_
  refine zh zJ_43 (i := (1, 1, 0, 0)) rfl rfl (k' := 3) (lo' := [(4, .int (Int32.ofInt 0)), (0, .ref a), (1, .int x1), (2, .int x2), (3, .ref b)]) (st' := [.int x1]) (h' := h) rfl ?_
  refine zh zJ_43 (i := (4, 5, 0, 0)) rfl rfl (k' := 4) (lo' := [(5, .int x1), (4, .int (Int32.ofInt 0)), (0, .ref a), (1, .int x1), (2, .int x2), (3, .ref b)]) (st' := []) (h' := h) rfl ?_
  have hgo := zLp_T (sx := sx) (d0 := d) (ty0 := ty) (h0 := h) hd H _ ty [(5, .int x1), (4, .int (Int32.ofInt 0)), (0, .ref a), (1, .int x1), (2, .int x2), (3, .ref b)] h [.ref a, .int x1, .int x2, .ref b, .int (Int32.ofInt 0), .int x1] zExt.rf T E zFm.rf ⟨rfl, ⟨a, t, rfl, ha, t1, t2⟩, rfl, ⟨x1, rfl, p1, q1⟩, rfl, ⟨x2, rfl, p2, q2⟩, rfl, ⟨b, t3, rfl, hb, t31, t32⟩, rfl, ⟨Int32.ofInt 0, rfl, by decide, by decide⟩, rfl, ⟨x1, rfl, p1, q1⟩, trivial⟩ rfl
  refine z_ok.imp hgo (fun o h' x y q => ?_)
  have q : zPo z_tt zE1 zC_T ty h o h' (x + 0) (y + 0) := q
  exact q
