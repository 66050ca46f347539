/-! what was seen, and whence: as the heap has it -/
noncomputable def zSe (h : zH) (a : Nat) (s : Int32) (cf : Nat → Int32) : Prop := ∃ (e ec : zE) (wc : Nat), h[a]? = some e ∧ z_rd e 22 = some (.int s) ∧ z_rd e 21 = some (.ref wc) ∧ h[wc]? = some ec ∧ ∀ i, i < 6 → z_rd ec i = some (.int (cf i))
theorem zSe.keep {ms : List zMod} {ty : List Nat} {h h' : zH} {a : Nat} {s : Int32} {cf : Nat → Int32} (S : zSe h a s cf) (T : zTY z_tt ty h) (ha : ty[a]? = some 20) (F : zFm ms ty h h') (h1 : ∀ i, 21 ≤ i → i ≤ 22 → ¬ zIn ms 20 i) (h2 : ∀ i, ¬ zIn ms 32 i) : zSe h' a s cf := by
  obtain ⟨e, ec, wc, k1, k2, k3, k4, k5⟩ := S
  have hla : a < h'.length := Nat.lt_of_lt_of_le (List.getElem?_eq_some_iff.mp k1).1 F.1
  have hlc : wc < h'.length := Nat.lt_of_lt_of_le (List.getElem?_eq_some_iff.mp k4).1 F.1
  have hc : ty[wc]? = some 32 := by
    obtain ⟨i, t, q1, q2, q3, q4⟩ := (T.2.2 a 20 e ha k1).2 21 _ k3 (21, 21, (2, 32, 32)) (by decide +kernel) (by decide) (by decide)
    cases q1
    have : t = 32 := by omega
    rw [← this]
    exact q2
  refine ⟨h'[a], h'[wc], wc, List.getElem?_eq_getElem hla, ?_, ?_, List.getElem?_eq_getElem hlc, fun i hi => ?_⟩
  · rw [F.2 a 20 e _ ha k1 (List.getElem?_eq_getElem hla) 22 (h1 22 (by omega) (by omega))]
    exact k2
  · rw [F.2 a 20 e _ ha k1 (List.getElem?_eq_getElem hla) 21 (h1 21 (by omega) (by omega))]
    exact k3
  · rw [F.2 wc 32 ec _ hc k4 (List.getElem?_eq_getElem hlc) i (h2 i)]
    exact k5 i hi
noncomputable def zC_fam : zCt := (184, [(2, 20, 20)], [(0, 0, 6)], [], [], 2, (0, 0, 0, 0), [])
noncomputable def zC_wsh : zCt := (191, [(2, 20, 20), (0, 0, 5), (0, 0, 23)], [(0, 0, 1)], [], [], 6, (0, 0, 0, 0), [])
noncomputable def zC_shr : zCt := (243, [(2, 20, 20), (0, 0, 5)], [zFull], [], [], 10, (0, 0, 0, 0), [])
theorem zK_fam : zck z_tt zCtl zCand 240 zC_fam 0 4000 = true := by decide +kernel
theorem zK_wsh : zck z_tt zCtl zCand 240 zC_wsh 0 4000 = true := by decide +kernel
theorem zK_shr : zck z_tt zCtl zCand 240 zC_shr 0 4000 = true := by decide +kernel
theorem zJ_285 : zJ3 285 z_m285 z_c285 z_h285 := ⟨rfl, rfl, rfl⟩
theorem zJ_286 : zJ3 286 z_m286 z_c286 z_h286 := ⟨rfl, rfl, rfl⟩
theorem zJ_287 : zJ3 287 z_m287 z_c287 z_h287 := ⟨rfl, rfl, rfl⟩
