/-! pieces by the checker inside a proof by hand; isTrue of the class -/
theorem zget_set1_ne {lo : zL} {a i : Nat} {v w : Value} (h : z_get lo i = some w) (hne : i ≠ a) (hc : w.category = 1) : z_get (z_set1 lo a v) i = some w := by
  refine zget_cons (zget_filter h (fun q q1 q2 => ?_)) hne
  rw [q1, q2, hc]
  have e : (i == a) = false := by simpa using hne
  rw [e]
  simp
section ZHG
variable {sx : zX} {d j k : Nat} {lo : zL} {st : List Value} {h : zH} {Ψ : zO → zH → Nat → Nat → Prop} {M : zMi} {cs : List zI} {hs : List zHd}
theorem zh_ild {a b k' : Nat} {z : Int} {x : Int32} (J : zJ3 j M cs hs) (hi : cs[k]? = some (1, a, b, z)) (hk : k + 1 = k') (hg : z_get lo a = some (.int x)) (kk : z_ok sx d j k' lo (.int x :: st) h Ψ) : z_ok sx d j k lo st h Ψ := by
  refine zh J hi rfl ?_ kk
  show zo_iload sx d a b z k lo st h = _
  unfold zo_iload
  rw [hg, ← hk]
theorem zh_ald {a b k' r : Nat} {z : Int} (J : zJ3 j M cs hs) (hi : cs[k]? = some (2, a, b, z)) (hk : k + 1 = k') (hg : z_get lo a = some (.ref r)) (kk : z_ok sx d j k' lo (.ref r :: st) h Ψ) : z_ok sx d j k lo st h Ψ := by
  refine zh J hi rfl ?_ kk
  show zo_aload sx d a b z k lo st h = _
  unfold zo_aload
  rw [hg, ← hk]
theorem zh_ist {a b k' : Nat} {z : Int} {x : Int32} (J : zJ3 j M cs hs) (hi : cs[k]? = some (4, a, b, z)) (hk : k + 1 = k') (kk : z_ok sx d j k' (z_set1 lo a (.int x)) st h Ψ) : z_ok sx d j k lo (.int x :: st) h Ψ := by
  refine zh J hi rfl ?_ kk
  show zo_istore sx d a b z k lo (.int x :: st) h = _
  rw [← hk]
  rfl
theorem zh_alen {a b k' r n : Nat} {z : Int} {f : Nat → Int32} (J : zJ3 j M cs hs) (hi : cs[k]? = some (46, a, b, z)) (hk : k + 1 = k') (he : h[r]? = some (.inl (0, (n, .inl f)))) (kk : z_ok sx d j k' lo (.int (Int32.ofNat n) :: st) h Ψ) : z_ok sx d j k lo (.ref r :: st) h Ψ := by
  refine zh J hi rfl ?_ kk
  show zo_alen sx d a b z k lo (.ref r :: st) h = _
  unfold zo_alen
  dsimp only
  rw [he, ← hk]
  rfl
end ZHG
/-- from one place to the next cut, by the checker -/
theorem zseg {own : Nat} {ct : zCt} {c0 : zCut} {fuel : Nat} {ty0 : List Nat} {h0 : zH} {sx : zX} {d0 : Nat} {ty : List Nat} {lo : zL} {h : zH} {vl : List Value} (hst : zStable z_tt zE1 (zcM ct)) (hd : zcD ct ≤ d0) (hcts : ∀ c, c < own → ∀ c', zCtl[c]? = some c' → zVd z_tt zE1 c') (hck : zx z_tt zCtl zCand own ct (some c0) fuel (zc_st ct c0) = true) (hm : c0.2.2.1 = []) (a2 : zExt ty0 ty) (T : zTY z_tt ty h) (E : zE1 ty h) (F : zFm (zcM ct) ty0 h0 h) (H1 : zVl ty lo c0.2.1 vl) (hcut : ∀ c ∈ zcC ct, ∀ (ty' : List Nat) (lo' : zL) (h' : zH) (vl' vm' : List Value), zExt ty0 ty' → zTY z_tt ty' h' → zE1 ty' h' → zFm (zcM ct) ty0 h0 h' → zVl ty' lo' c.2.1 vl' → zVm ty' lo' h' c.2.2.1 vm' → zlex (c.2.2.2.map (zmc lo' h')) (c0.2.2.2.map (zmc lo h)) → zGo sx d0 (zPo z_tt zE1 ct ty0 h0) [(zcJ ct, c.1, lo', [])] h' 0 0) : zGo sx d0 (zPo z_tt zE1 ct ty0 h0) [(zcJ ct, c0.1, lo, [])] h 0 0 := by
  have H2 : zVm ty lo h c0.2.2.1 [] := by rw [hm]; trivial
  refine zx_ok (ρ0 := vl ++ []) hst hd hcts (fun s cf h' X Y R hh => ?_) fuel (zc_st ct c0) _ h 0 0 (zc_start a2 T E F H1 H2) hck
  obtain ⟨c', hc', ty', lo', vl', vm', rfl, rfl, rfl, p2, p3, p4, p5, p6, p7, p8⟩ := zhit_ok R hh
  exact hcut c' hc' ty' lo' h' vl' vm' p2 p3 p4 p5 p6 p7 (p8 c0 rfl lo h (zc_lo H1) (zc_mm H1 H2))
noncomputable def zT4 : zCut := (4, [(0, (2, 100, 112)), (1, (0, 0, 400)), (2, (0, 0, 400)), (3, (2, 12, 12)), (4, (0, 0, 32)), (5, (0, 0, 400))], [], [(1, 5, 0, 400)])
noncomputable def zT17 : zCut := (17, [(0, (2, 100, 112)), (1, (0, 0, 400)), (2, (0, 0, 400)), (3, (2, 12, 12)), (4, (0, 0, 32)), (5, (0, 0, 399)), (6, zFull)], [], [(1, 5, 0, 400)])
noncomputable def zT77 : zCut := (77, [(0, (2, 100, 112)), (1, (0, 0, 400)), (2, (0, 0, 400))], [], [(0, 0, 0, 0)])
noncomputable def zC_T : zCt := (43, [(2, 100, 112), (0, 0, 400), (0, 0, 400), (2, 12, 12)], [(0, 0, 1)], [], [(34, 0, 31)], 8, (0, 0, 0, 0), [zT4])
theorem zK_T17 : zx z_tt zCtl zCand 34 zC_T (some zT17) 4000 (zc_st zC_T zT17) = true := by decide +kernel
theorem zK_T77 : zx z_tt zCtl zCand 34 zC_T (some zT77) 4000 (zc_st zC_T zT77) = true := by decide +kernel
