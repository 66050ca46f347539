/-! looksFor from its entry -/
set_option maxRecDepth 100000 in
theorem zR_285 {sx : zX} {d a : Nat} {ty : List Nat} {h : zH} {hr v s : Int32} {cf : Nat → Int32} (hd : 14 ≤ d) (H : ∀ c, c < 240 → ∀ c', zCtl[c]? = some c' → zVd z_tt zE1 c') (ha : ty[a]? = some 20) (r1 : 0 ≤ hr.toInt) (r2 : hr.toInt ≤ 23) (T : zTY z_tt ty h) (E : zE1 ty h) (S : zSe h a s cf) (C : zChn s cf) (V : v.toInt = -1 ∨ (0 ≤ v.toInt ∧ v.toInt < 6 ∧ zbit s v = true)) : z_ok sx d 285 0 [(0, .ref a), (1, .int hr), (2, .int v)] [] h (zPlf ty h a) := by
  refine zh zJ_285 (i := (0, 0, 0, 0)) rfl rfl (k' := 1) (lo' := [(0, .ref a), (1, .int hr), (2, .int v)]) (st' := [.int (Int32.ofInt 0)]) (h' := h) rfl ?_
  refine zh zJ_285 (i := (4, 3, 0, 0)) rfl rfl (k' := 2) (lo' := [(3, .int (Int32.ofInt 0)), (0, .ref a), (1, .int hr), (2, .int v)]) (st' := []) (h' := h) rfl ?_
  exact zLp_285 hd H ha r1 r2 7 ty h 0 _ s cf zExt.rf T E zFm.rf rfl rfl S C V
/-- the chain is followed to its end -/
def zMch : List zMod := [(29, 0, 23)]
