/-! sumOf of the class: by the checker for each count of lines -/
noncomputable def zCandT : List (List Nat) := List.replicate 43 [] ++ [[0]]
noncomputable def zC_S (L : Nat) : zCt := (42, [(2, ((100 + L : Nat) : Int), ((100 + L : Nat) : Int)), zFull, (2, 12, 12)], [zFull], [], [(34, 0, 31)], 20, (0, 0, 0, 0), [(6, [(0, (2, ((100 + L : Nat) : Int), ((100 + L : Nat) : Int))), (1, zFull), (2, (2, 12, 12)), (3, zFull), (4, (0, 0, 400)), (5, (0, 0, (L : Int)))], [], [(1, 5, 0, (L : Int))])])
theorem zK_S : (List.range 13).all (fun L => zck z_tt [zC_T] zCandT 1 (zC_S L) 1 4000) = true := by decide +kernel
theorem zV_243 (H : ∀ c, c < 34 → ∀ c', zCtl[c]? = some c' → zVd z_tt zE1 c') : zVd z_tt zE1 zC243 := by
  intro sx d ty h as hd T E hA
  match as, hA with
  | [v0, v1, v2], hA =>
  obtain ⟨⟨a, t, rfl, ha, t1, t2⟩, h1, h2, -⟩ := hA
  have hK := List.all_eq_true.mp zK_S (t - 100) (List.mem_range.mpr (by omega))
  have V : zVd z_tt zE1 (zC_S (t - 100)) := zck_ok (zE1_stable (ms := [(34, 0, 31)]) (by decide +kernel)) (fun c hc c' hc' => by
    have : c = 0 := by omega
    subst this
    cases hc'
    exact zV_T H) hK
  exact V sx d ty h _ hd T E ⟨⟨a, t, rfl, ha, by omega, by omega⟩, h1, h2, trivial⟩
