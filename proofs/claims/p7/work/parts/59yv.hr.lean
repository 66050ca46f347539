/-! AN HOUR, pure: on a house as a row of ints -/
noncomputable def aMi (x y : Int32) : Int32 := if y < x then y else x
noncomputable def aMa (x y : Int32) : Int32 := if x < y then y else x
/-- a row more of the log -/
noncomputable def aTl (A : Nat → Int32) (d h f w v : Int32) (i : Nat) : Int32 := if 93 ≤ i ∧ i < 388 then A (i - 5) else if i = 88 then d else if i = 89 then h else if i = 90 then f else if i = 91 then w else if i = 92 then v else if i = 14 then aMi (Int32.ofInt 60) (A 14 + Int32.ofInt 1) else A i
theorem aTl_lo {A : Nat → Int32} {d h f w v : Int32} {i : Nat} (h1 : i < 88) (h2 : i ≠ 14) : aTl A d h f w v i = A i := by
  unfold aTl
  rw [if_neg (by omega), if_neg (by omega), if_neg (by omega), if_neg (by omega), if_neg (by omega), if_neg (by omega), if_neg h2]
theorem aTl_14 {A : Nat → Int32} {d h f w v : Int32} : aTl A d h f w v 14 = aMi (Int32.ofInt 60) (A 14 + Int32.ofInt 1) := rfl
/-- who is in, as a number or none -/
noncomputable def hN (A : Nat → Int32) : Nat := (A 4).toNatClampNeg
noncomputable def hO (x : Int32) : Option Nat := if x = Int32.ofInt (-1) then none else some x.toNatClampNeg
noncomputable def hWm (Lo : Option (Nat × List gLn4 × zSs)) (nt : Nat) (A : Nat → Int32) (n : Nat) : Option Nat → (Nat → Int32)
  | none => A
  | some F => aU (aU A 6 (aMi (Int32.ofInt 99) (A 6 + (A (42 + 4 * F) + eSm Lo (eFa A nt F n) 0)))) 7 (aMi (Int32.ofInt 99) (A 7 + (A (41 + 4 * F) + eSm Lo (eFa A nt F n) 1)))
noncomputable def hCd (A : Nat → Int32) : Nat → Int32 := aU A 6 (aMa (Int32.ofInt 0) (A 6 - A 10))
noncomputable def hSd (x : Int32) : Int32 := Int32.ofInt 1103515245 * x + Int32.ofInt 12345
noncomputable def hDr (x : Int32) : Int32 := ((x >>> (Int32.ofInt 16 &&& 31)) &&& Int32.ofInt 32767) - ((x >>> (Int32.ofInt 16 &&& 31)) &&& Int32.ofInt 32767) / Int32.ofInt 100 * Int32.ofInt 100
noncomputable def hVi (A : Nat → Int32) (o : Option Nat) : Nat → Int32 := match o with
  | none => aU A 15 (hSd (A 15))
  | some F => if (hDr (hSd (A 15))).toInt < (A 13).toInt then aTl (aU (aU (aU A 15 (hSd (A 15))) 8 (aMi (Int32.ofInt 9) (A 8 + Int32.ofInt 1))) 9 (Int32.ofNat F)) (A 5) (A 4) (Int32.ofNat F) (Int32.ofInt 0) (aMi (Int32.ofInt 9) (A 8 + Int32.ofInt 1)) else aU A 15 (hSd (A 15))
noncomputable def hCk (A : Nat → Int32) (n : Nat) : Nat → Int32 := if n = 23 then aU (aU A 4 (Int32.ofInt 0)) 5 (aMi (Int32.ofInt 9999) (A 5 + Int32.ofInt 1)) else aU A 4 (Int32.ofNat (n + 1))
noncomputable def hSm (Lo : Option (Nat × List gLn4 × zSs)) (nt : Nat) (A : Nat → Int32) (F n t : Nat) : Int32 := A 11 * A (65 + 3 * t) + eSm Lo (eFa A nt F n) 2
noncomputable def hF1 (A : Nat → Int32) (F t : Nat) (s : Int32) : Nat → Int32 := aTl (aU (aU A (40 + 4 * F) (aPy (A (40 + 4 * F)) s)) (66 + 3 * t) (Int32.ofInt 0)) (A 5) (A 4) (Int32.ofNat F) (Int32.ofInt 1) s
noncomputable def hFi (Lo : Option (Nat × List gLn4 × zSs)) (nt : Nat) (A : Nat → Int32) (F n : Nat) : Nat → (Nat → Int32) × Nat
  | 0 => (A, 0)
  | t + 1 => if (hFi Lo nt A F n t).1 (64 + 3 * t) = Int32.ofNat F ∧ (hFi Lo nt A F n t).1 (66 + 3 * t) = Int32.ofInt 1 then (hF1 (hFi Lo nt A F n t).1 F t (hSm Lo nt (hFi Lo nt A F n t).1 F n t), (hFi Lo nt A F n t).2 + 1) else hFi Lo nt A F n t
/-- ahead of the clock's turn -/
noncomputable def hMd (Lo : Option (Nat × List gLn4 × zSs)) (nt : Nat) (calm : Bool) (A : Nat → Int32) : Nat → Int32 :=
  bif calm then hCd (hWm Lo nt A (hN A) (hO (A (16 + hN A)))) else hVi (hCd (hWm Lo nt A (hN A) (hO (A (16 + hN A))))) (hO (A (16 + hN A)))
noncomputable def hEd (Lo : Option (Nat × List gLn4 × zSs)) (nt : Nat) (B : Nat → Int32) (x : Int32) : (Nat → Int32) × Nat :=
  if x = Int32.ofInt (-1) ∨ B (16 + hN B) = x then (B, 0) else hFi Lo nt B x.toNatClampNeg (hN B) nt
noncomputable def hHr (Lo : Option (Nat × List gLn4 × zSs)) (nt : Nat) (calm : Bool) (A : Nat → Int32) : (Nat → Int32) × Nat := hEd Lo nt (hCk (hMd Lo nt calm A) (hN A)) (A (16 + hN A))
/-- so many hours -/
noncomputable def hHs (Lo : Option (Nat × List gLn4 × zSs)) (nt : Nat) (calm : Bool) (A : Nat → Int32) : Nat → (Nat → Int32) × Nat
  | 0 => (A, 0)
  | n + 1 => ((hHr Lo nt calm (hHs Lo nt calm A n).1).1, (hHs Lo nt calm A n).2 + (hHr Lo nt calm (hHs Lo nt calm A n).1).2)
/-! what stays -/
theorem aMi_r {x y : Int32} (h : 0 ≤ x.toInt) (hy : 0 ≤ y.toInt) : 0 ≤ (aMi x y).toInt ∧ (aMi x y).toInt ≤ x.toInt ∧ (aMi x y).toInt ≤ y.toInt := by
  unfold aMi
  by_cases q : y < x
  · rw [if_pos q]; rw [Int32.lt_iff_toInt_lt] at q; omega
  · rw [if_neg q]; rw [Int32.lt_iff_toInt_lt] at q; omega
theorem hO_n {F : Nat} (h : F ≤ 900) : hO (Int32.ofNat F) = some F := by
  unfold hO
  rw [if_neg, o32n (by omega)]
  intro q
  have := congrArg Int32.toInt q
  rw [o32 (by omega)] at this
  have e : (Int32.ofInt (-1)).toInt = -1 := rfl
  omega
theorem hO_0 : hO (Int32.ofInt (-1)) = none := if_pos rfl
theorem hN_n {A : Nat → Int32} {n : Nat} (h : A 4 = Int32.ofNat n) (hn : n ≤ 900) : hN A = n := by
  unfold hN
  rw [h, o32n (by omega)]
/-- an hour keeps these places: holders, families but for purses, things but for what is left, settings -/
noncomputable def hK9 (k : Nat) : Prop := k < 4 ∨ (10 ≤ k ∧ k ≤ 13) ∨ (16 ≤ k ∧ k < 40) ∨ (40 ≤ k ∧ k < 64 ∧ k % 4 ≠ 0) ∨ (64 ≤ k ∧ k < 88 ∧ k % 3 ≠ 0)
theorem hWm_k {Lo : Option (Nat × List gLn4 × zSs)} {nt n k : Nat} {A : Nat → Int32} {o : Option Nat} (h6 : k ≠ 6) (h7 : k ≠ 7) : hWm Lo nt A n o k = A k := by
  cases o with
  | none => rfl
  | some F =>
    show aU (aU A 6 _) 7 _ k = _
    rw [aU_ne h7, aU_ne h6]
theorem hCd_k {A : Nat → Int32} {k : Nat} (h6 : k ≠ 6) : hCd A k = A k := aU_ne h6
theorem hVi_k {A : Nat → Int32} {o : Option Nat} {k : Nat} (h : k < 88) (h1 : k ≠ 15) (h2 : k ≠ 8) (h3 : k ≠ 9) (h4 : k ≠ 14) : hVi A o k = A k := by
  cases o with
  | none => exact aU_ne h1
  | some F =>
    unfold hVi
    dsimp only
    by_cases q : (hDr (hSd (A 15))).toInt < (A 13).toInt
    · rw [if_pos q, aTl_lo h h4, aU_ne h3, aU_ne h2, aU_ne h1]
    · rw [if_neg q, aU_ne h1]
theorem hCk_k {A : Nat → Int32} {n k : Nat} (h4 : k ≠ 4) (h5 : k ≠ 5) : hCk A n k = A k := by
  unfold hCk
  by_cases q : n = 23
  · rw [if_pos q, aU_ne h5, aU_ne h4]
  · rw [if_neg q, aU_ne h4]
theorem hCk_4 {A : Nat → Int32} {n : Nat} (h : n < 24) : hCk A n 4 = Int32.ofNat ((n + 1) % 24) := by
  unfold hCk
  by_cases q : n = 23
  · rw [if_pos q, aU_ne (by omega), aU_at, q]; rfl
  · rw [if_neg q, aU_at, show (n + 1) % 24 = n + 1 by omega]
theorem hF1_k {A : Nat → Int32} {F t k : Nat} {s : Int32} (h : k < 88) (h0 : k ≠ 40 + 4 * F) (h1 : k ≠ 66 + 3 * t) (h2 : k ≠ 14) : hF1 A F t s k = A k := by
  unfold hF1
  rw [aTl_lo h h2, aU_ne h1, aU_ne h0]
theorem hFi_k {Lo : Option (Nat × List gLn4 × zSs)} {nt F n k : Nat} {A : Nat → Int32} (h : k < 88) (h0 : k ≠ 40 + 4 * F) (h2 : k ≠ 14) : ∀ t, (∀ u, u < t → k ≠ 66 + 3 * u) → (hFi Lo nt A F n t).1 k = A k
  | 0, _ => rfl
  | t + 1, hu => by
    have ih := hFi_k (Lo := Lo) (nt := nt) (F := F) (n := n) (A := A) h h0 h2 t (fun u q => hu u (by omega))
    unfold hFi
    by_cases q : (hFi Lo nt A F n t).1 (64 + 3 * t) = Int32.ofNat F ∧ (hFi Lo nt A F n t).1 (66 + 3 * t) = Int32.ofInt 1
    · rw [if_pos q]
      exact (hF1_k h h0 (hu t (by omega)) h2).trans ih
    · rw [if_neg q]
      exact ih
theorem hFi_c {Lo : Option (Nat × List gLn4 × zSs)} {nt F n : Nat} {A : Nat → Int32} : ∀ t, (hFi Lo nt A F n t).2 ≤ t
  | 0 => Nat.le_refl _
  | t + 1 => by
    have ih := hFi_c (Lo := Lo) (nt := nt) (F := F) (n := n) (A := A) t
    unfold hFi
    by_cases q : (hFi Lo nt A F n t).1 (64 + 3 * t) = Int32.ofNat F ∧ (hFi Lo nt A F n t).1 (66 + 3 * t) = Int32.ofInt 1
    · rw [if_pos q]
      show _ + 1 ≤ t + 1
      omega
    · rw [if_neg q]
      omega
theorem aMi60 {g : Nat} (h : g ≤ 60) : aMi (Int32.ofInt 60) (Int32.ofNat g + Int32.ofInt 1) = Int32.ofNat (min 60 (g + 1)) := by
  unfold aMi
  rw [o32i (by omega)]
  by_cases q : g + 1 < 60
  · rw [if_pos (Int32.lt_iff_toInt_lt.mpr (by rw [o32 (by omega), show (Int32.ofInt 60).toInt = 60 from rfl]; omega)), show min 60 (g + 1) = g + 1 by omega]
  · rw [if_neg (fun w => by rw [Int32.lt_iff_toInt_lt, o32 (by omega), show (Int32.ofInt 60).toInt = 60 from rfl] at w; omega), show min 60 (g + 1) = 60 by omega]
    rfl
section AIK
variable {nf nt n F : Nat} {A B : Nat → Int32} {Lo : Option (Nat × List gLn4 × zSs)} {o : Option Nat}
theorem aI.of (K : aI nf nt A) (hs : ∀ k, (k < 3 ∨ k = 12 ∨ (16 ≤ k ∧ k < 40) ∨ (64 ≤ k ∧ k < 88 ∧ k % 3 = 1)) → B k = A k) (hz : dZ nt B) (h8 : 0 ≤ (B 8).toInt ∧ (B 8).toInt ≤ 9) (h4 : ∃ n, n < 24 ∧ B 4 = Int32.ofNat n) (h14 : ∃ g, g ≤ 60 ∧ B 14 = Int32.ofNat g) : aI nf nt B := by
  obtain ⟨⟨a0, a1, a2, a3, a4⟩, a5, a6, a7, a8, a9, a10, tx, a11, a12⟩ := K
  refine ⟨⟨(hs 0 (by omega)).trans a0, a1, (hs 1 (by omega)).trans a2, a3, hz⟩, fun h hh => ?_, fun t ht => ?_, ?_, h8, h4, h14, tx, a11, (hs 2 (by omega)).trans a12⟩
  · rw [hs (16 + h) (by omega)]; exact a5 h hh
  · rw [hs (64 + 3 * t) (by omega)]; exact a6 t ht
  · rw [hs 12 (by omega)]; exact a7
theorem aI.wm (K : aI nf nt A) : aI nf nt (hWm Lo nt A n o) := K.of (fun k hk => hWm_k (by omega) (by omega)) (fun t h1 h2 => (hWm_k (by omega) (by omega)).trans (K.1.2.2.2.2 t h1 h2)) (by rw [hWm_k (by omega) (by omega)]; exact K.2.2.2.2.1) (by rw [hWm_k (by omega) (by omega)]; exact K.2.2.2.2.2.1) (by rw [hWm_k (by omega) (by omega)]; exact K.2.2.2.2.2.2.1)
theorem aI.cd (K : aI nf nt A) : aI nf nt (hCd A) := K.of (fun k hk => hCd_k (by omega)) (fun t h1 h2 => (hCd_k (by omega)).trans (K.1.2.2.2.2 t h1 h2)) (by rw [hCd_k (by omega)]; exact K.2.2.2.2.1) (by rw [hCd_k (by omega)]; exact K.2.2.2.2.2.1) (by rw [hCd_k (by omega)]; exact K.2.2.2.2.2.2.1)
theorem aMi9 {x : Int32} (h0 : 0 ≤ x.toInt) (h9 : x.toInt ≤ 9) : 0 ≤ (aMi (Int32.ofInt 9) (x + Int32.ofInt 1)).toInt ∧ (aMi (Int32.ofInt 9) (x + Int32.ofInt 1)).toInt ≤ 9 := by
  have e : (x + Int32.ofInt 1).toInt = x.toInt + 1 := zI_add rfl rfl (by omega) (by omega)
  have := aMi_r (x := Int32.ofInt 9) (y := x + Int32.ofInt 1) (by decide) (by omega)
  rw [show (Int32.ofInt 9).toInt = 9 from rfl] at this
  omega
theorem aI.vi (K : aI nf nt A) : aI nf nt (hVi A o) := by
  have h8 := K.2.2.2.2.1
  obtain ⟨g, hg, eg⟩ := K.2.2.2.2.2.2.1
  refine K.of (fun k hk => hVi_k (by omega) (by omega) (by omega) (by omega) (by omega)) (fun t h1 h2 => (hVi_k (by omega) (by omega) (by omega) (by omega) (by omega)).trans (K.1.2.2.2.2 t h1 h2)) ?_ (by rw [hVi_k (by omega) (by omega) (by omega) (by omega) (by omega)]; exact K.2.2.2.2.2.1) ?_
  · cases o with
    | none => show 0 ≤ (aU A 15 _ 8).toInt ∧ (aU A 15 _ 8).toInt ≤ 9; rw [aU_ne (by omega)]; exact h8
    | some F =>
      unfold hVi
      dsimp only
      by_cases q : (hDr (hSd (A 15))).toInt < (A 13).toInt
      · rw [if_pos q, aTl_lo (by omega) (by omega), aU_ne (by omega), aU_at]; exact aMi9 h8.1 h8.2
      · rw [if_neg q, aU_ne (by omega)]; exact h8
  · cases o with
    | none => exact ⟨g, hg, (aU_ne (by omega)).trans eg⟩
    | some F =>
      unfold hVi
      dsimp only
      by_cases q : (hDr (hSd (A 15))).toInt < (A 13).toInt
      · rw [if_pos q, aTl_14, aU_ne (by omega), aU_ne (by omega), aU_ne (by omega), eg, aMi60 hg]
        exact ⟨_, by omega, rfl⟩
      · rw [if_neg q, aU_ne (by omega)]; exact ⟨g, hg, eg⟩
theorem aI.ck (K : aI nf nt A) (hn : n < 24) : aI nf nt (hCk A n) := K.of (fun k hk => hCk_k (by omega) (by omega)) (fun t h1 h2 => (hCk_k (by omega) (by omega)).trans (K.1.2.2.2.2 t h1 h2)) (by rw [hCk_k (by omega) (by omega)]; exact K.2.2.2.2.1) ⟨(n + 1) % 24, Nat.mod_lt _ (by omega), hCk_4 hn⟩ (by rw [hCk_k (by omega) (by omega)]; exact K.2.2.2.2.2.2.1)
theorem hFi_14 {g : Nat} (hg : g ≤ 60) (eg : A 14 = Int32.ofNat g) : ∀ t, ∃ g', g' ≤ 60 ∧ (hFi Lo nt A F n t).1 14 = Int32.ofNat g'
  | 0 => ⟨g, hg, eg⟩
  | t + 1 => by
    obtain ⟨g', hg', eg'⟩ := hFi_14 hg eg t
    unfold hFi
    by_cases q : (hFi Lo nt A F n t).1 (64 + 3 * t) = Int32.ofNat F ∧ (hFi Lo nt A F n t).1 (66 + 3 * t) = Int32.ofInt 1
    · rw [if_pos q]
      show ∃ g', g' ≤ 60 ∧ hF1 _ F t _ 14 = Int32.ofNat g'
      unfold hF1
      rw [aTl_14, aU_ne (by omega), aU_ne (by omega), eg', aMi60 hg']
      exact ⟨_, by omega, rfl⟩
    · rw [if_neg q]
      exact ⟨g', hg', eg'⟩
theorem hFi_z {t0 : Nat} (h8 : t0 < 8) (h : A (66 + 3 * t0) = Int32.ofInt 0) (hF : F < 6) : ∀ t, (hFi Lo nt A F n t).1 (66 + 3 * t0) = Int32.ofInt 0
  | 0 => h
  | t + 1 => by
    have ih := hFi_z h8 h hF t
    unfold hFi
    by_cases q : (hFi Lo nt A F n t).1 (64 + 3 * t) = Int32.ofNat F ∧ (hFi Lo nt A F n t).1 (66 + 3 * t) = Int32.ofInt 1
    · rw [if_pos q]
      show hF1 _ F t _ (66 + 3 * t0) = _
      by_cases e : t0 = t
      · subst e
        unfold hF1
        rw [aTl_lo (by omega) (by omega), aU_at]
      · rw [hF1_k (by omega) (by omega) (by omega) (by omega)]; exact ih
    · rw [if_neg q]; exact ih
theorem aI.fi (K : aI nf nt A) (hF : F < 6) (t : Nat) (ht : t ≤ nt) : aI nf nt (hFi Lo nt A F n t).1 := by
  obtain ⟨g, hg, eg⟩ := K.2.2.2.2.2.2.1
  have k3 := K.1.2.2.2.1
  have hk : ∀ k, k < 88 → k ≠ 40 + 4 * F → k ≠ 14 → (∀ u, u < t → k ≠ 66 + 3 * u) → (hFi Lo nt A F n t).1 k = A k := fun k h h0 h2 hu => hFi_k h h0 h2 t hu
  refine K.of (fun k h => hk k (by omega) (by omega) (by omega) (fun u hu => by omega)) (fun u h1 h2 => hFi_z h2 (K.1.2.2.2.2 u h1 h2) hF t) ?_ ?_ (hFi_14 hg eg t)
  · rw [hk 8 (by omega) (by omega) (by omega) (fun u hu => by omega)]; exact K.2.2.2.2.1
  · rw [hk 4 (by omega) (by omega) (by omega) (fun u hu => by omega)]; exact K.2.2.2.2.2.1
/-- who is in: nobody, or a family that there is -/
theorem aI.in (K : aI nf nt A) : hN A < 24 ∧ A 4 = Int32.ofNat (hN A) ∧ ((A (16 + hN A) = Int32.ofInt (-1) ∧ hO (A (16 + hN A)) = none) ∨ ∃ F, F < nf ∧ A (16 + hN A) = Int32.ofNat F ∧ hO (A (16 + hN A)) = some F) := by
  obtain ⟨n, hn, en⟩ := K.2.2.2.2.2.1
  have e := hN_n en (by omega)
  have k1 := K.1.2.1
  rw [e]
  refine ⟨hn, en, ?_⟩
  rcases K.2.1 n hn with h | ⟨F, hF, h⟩
  · exact Or.inl ⟨h, by rw [h]; exact hO_0⟩
  · exact Or.inr ⟨F, hF, h, by rw [h]; exact hO_n (by omega)⟩
theorem hN_cg {A B : Nat → Int32} (h : B 4 = A 4) : hN B = hN A := by unfold hN; rw [h]
theorem hMd_4 (K : aI nf nt A) {calm : Bool} {k : Nat} (hk : k < 5 ∨ (10 ≤ k ∧ k ≤ 13) ∨ (16 ≤ k ∧ k < 88)) : hMd Lo nt calm A k = A k := by
  unfold hMd
  cases calm
  · show hVi _ _ k = _
    rw [hVi_k (by omega) (by omega) (by omega) (by omega) (by omega), hCd_k (by omega), hWm_k (by omega) (by omega)]
  · show hCd _ k = _
    rw [hCd_k (by omega), hWm_k (by omega) (by omega)]
theorem aI.md (K : aI nf nt A) {calm : Bool} : aI nf nt (hMd Lo nt calm A) := by
  unfold hMd
  cases calm
  · exact K.wm.cd.vi
  · exact K.wm.cd
theorem aI.ed (K : aI nf nt A) {x : Int32} (hx : x = Int32.ofInt (-1) ∨ ∃ F, F < nf ∧ x = Int32.ofNat F) : aI nf nt (hEd Lo nt A x).1 := by
  unfold hEd
  have k1 := K.1.2.1
  by_cases q : x = Int32.ofInt (-1) ∨ A (16 + hN A) = x
  · rw [if_pos q]; exact K
  · rw [if_neg q]
    rcases hx with hx | ⟨F, hF, hx⟩
    · exact absurd (Or.inl hx) q
    · rw [hx, o32n (by omega)]
      exact K.fi (by omega) nt (Nat.le_refl _)
theorem aI.hr (K : aI nf nt A) {calm : Bool} : aI nf nt (hHr Lo nt calm A).1 := by
  obtain ⟨h1, h2, h3⟩ := K.in
  refine (K.md.ck h1).ed ?_
  rcases h3 with h | ⟨F, hF, h, -⟩
  · exact Or.inl h.1
  · exact Or.inr ⟨F, hF, h⟩
theorem aI.hs (K : aI nf nt A) {calm : Bool} : ∀ i, aI nf nt (hHs Lo nt calm A i).1
  | 0 => K
  | i + 1 => (K.hs i).hr
/-- an hour leaves the law, the texts and counts as they were -/
theorem hHr_k (K : aI nf nt A) {calm : Bool} {k : Nat} (hk : k < 4) : (hHr Lo nt calm A).1 k = A k := by
  obtain ⟨h1, h2, h3⟩ := K.in
  have k1 := K.1.2.1
  unfold hHr hEd
  have e : hCk (hMd Lo nt calm A) (hN A) k = A k := (hCk_k (by omega) (by omega)).trans (hMd_4 K (by omega))
  by_cases q : A (16 + hN A) = Int32.ofInt (-1) ∨ hCk (hMd Lo nt calm A) (hN A) (16 + hN (hCk (hMd Lo nt calm A) (hN A))) = A (16 + hN A)
  · rw [if_pos q]; exact e
  · rw [if_neg q]
    exact (hFi_k (by omega) (by omega) (by omega) nt (fun u hu => by omega)).trans e
theorem hHs_k (K : aI nf nt A) {calm : Bool} {k : Nat} (hk : k < 4) : ∀ i, (hHs Lo nt calm A i).1 k = A k
  | 0 => rfl
  | i + 1 => (hHr_k (K.hs i) hk).trans (hHs_k K hk i)
end AIK
/-! a row more in the class's ring -/
noncomputable def cTl (σ : zSg) (b nx : Nat) (d h f w v z : Int32) : zSg := q_w (q_w (q_w (q_w (q_w (q_w (q_w σ (b + 11) (5 * nx) (.int d)) (b + 11) (5 * nx + 1) (.int h)) (b + 11) (5 * nx + 2) (.int f)) (b + 11) (5 * nx + 3) (.int w)) (b + 11) (5 * nx + 4) (.int v)) (b + 10) 1 (.int (Int32.ofNat ((nx + 1) % 60)))) (b + 10) 2 (.int z)
theorem cTl_ne {σ : zSg} {b nx c k : Nat} {d h f w v z : Int32} (q : ¬ (c = b + 11 ∧ 5 * nx ≤ k ∧ k < 5 * nx + 5)) (q2 : ¬ (c = b + 10 ∧ (k = 1 ∨ k = 2))) : (cTl σ b nx d h f w v z).1 c k = σ.1 c k := by
  unfold cTl
  rw [q_w_ne (fun e1 e2 => by omega), q_w_ne (fun e1 e2 => by omega), q_w_ne (fun e1 e2 => by omega), q_w_ne (fun e1 e2 => by omega), q_w_ne (fun e1 e2 => by omega), q_w_ne (fun e1 e2 => by omega), q_w_ne (fun e1 e2 => by omega)]
noncomputable def tl5 (d h f w v : Int32) (j : Nat) : Int32 := match j with
  | 0 => d
  | 1 => h
  | 2 => f
  | 3 => w
  | _ => v
theorem cTl_at {σ : zSg} {b nx j : Nat} {d h f w v z : Int32} (hj : j < 5) : (cTl σ b nx d h f w v z).1 (b + 11) (5 * nx + j) = .int (tl5 d h f w v j) := by
  unfold cTl
  rw [q_w_ne (fun e1 e2 => by omega), q_w_ne (fun e1 e2 => by omega)]
  have : j = 0 ∨ j = 1 ∨ j = 2 ∨ j = 3 ∨ j = 4 := by omega
  rcases this with rfl | rfl | rfl | rfl | rfl
  · rw [q_w_ne (fun e1 e2 => by omega), q_w_ne (fun e1 e2 => by omega), q_w_ne (fun e1 e2 => by omega), q_w_ne (fun e1 e2 => by omega)]; exact q_w_at _ _ _ _
  · rw [q_w_ne (fun e1 e2 => by omega), q_w_ne (fun e1 e2 => by omega), q_w_ne (fun e1 e2 => by omega)]; exact q_w_at _ _ _ _
  · rw [q_w_ne (fun e1 e2 => by omega), q_w_ne (fun e1 e2 => by omega)]; exact q_w_at _ _ _ _
  · rw [q_w_ne (fun e1 e2 => by omega)]; exact q_w_at _ _ _ _
  · exact q_w_at _ _ _ _
theorem aTl_row {A : Nat → Int32} {d h f w v : Int32} {i j : Nat} (hi : i < 60) (hj : j < 5) : aTl A d h f w v (88 + 5 * i + j) = if i = 0 then tl5 d h f w v j else A (88 + 5 * (i - 1) + j) := by
  unfold aTl
  by_cases h0 : i = 0
  · subst h0
    rw [if_pos rfl, if_neg (by omega)]
    have : j = 0 ∨ j = 1 ∨ j = 2 ∨ j = 3 ∨ j = 4 := by omega
    rcases this with rfl | rfl | rfl | rfl | rfl <;> rfl
  · rw [if_neg h0, if_pos (by omega), show 88 + 5 * i + j - 5 = 88 + 5 * (i - 1) + j by omega]
theorem hH.tl {σ : zSg} {b nx : Nat} {A : Nat → Int32} {d h f w v : Int32} (K : hH σ b A) (hx : nx < 60) (ex : σ.1 (b + 10) 1 = .int (Int32.ofNat nx)) : hH (cTl σ b nx d h f w v (aMi (Int32.ofInt 60) (A 14 + Int32.ofInt 1))) b (aTl A d h f w v) := by
  obtain ⟨h1, h2, ⟨l, h3, h3'⟩, ⟨ny, h4, h4', h4''⟩, h5, h6, h7⟩ := K
  have en : ny = nx := by
    rw [h4'] at ex
    have := congrArg (fun x => (q_i x).toInt) ex
    have this : (Int32.ofNat ny).toInt = (Int32.ofNat nx).toInt := this
    rw [o32 (by omega), o32 (by omega)] at this
    omega
  subst en
  refine ⟨fun c j d hk => ?_, fun k c j hp => ?_, ⟨l, ?_, fun t ht => ?_⟩, ⟨(ny + 1) % 60, Nat.mod_lt _ (by omega), ?_, fun i j hi hj => ?_⟩, ?_, h6, h7⟩
  · rw [cTl_ne (by unfold hKr at hk; omega) (by unfold hKr at hk; omega)]; exact h1 c j d hk
  · have hn := hp.no
    by_cases e14 : k = 14
    · subst e14
      obtain ⟨rfl, rfl⟩ := hp.fn hp_14
      rw [aTl_14]
      exact q_w_at _ _ _ _
    · rw [aTl_lo (by omega) e14, cTl_ne (fun q => hn.2.2.2.2.2.1 q.1) (fun q => by
        have : j = 2 := by
          rcases q.2 with r | r
          · exact absurd ⟨q.1, r⟩ hn.2.2.2.2.1
          · exact r
        subst this
        obtain ⟨rfl, -⟩ := q
        exact e14 (hp.inj hp_14))]
      exact h2 k c j hp
  · rw [cTl_ne (by omega) (by omega)]; exact h3
  · rw [aTl_lo (by omega) (by omega)]; exact h3' t ht
  · unfold cTl
    rw [q_w_ne (fun _ q => by omega)]; exact q_w_at _ _ _ _
  · rw [aTl_row hi hj]
    by_cases h0 : i = 0
    · subst h0
      rw [if_pos rfl, show ((ny + 1) % 60 + 59 - 0) % 60 = ny by omega]
      exact cTl_at hj
    · rw [if_neg h0, cTl_ne (by omega) (by omega), show ((ny + 1) % 60 + 59 - i) % 60 = (ny + 59 - (i - 1)) % 60 by omega]
      exact h4'' (i - 1) j (by omega) hj
  · unfold hWe
    rw [cTl_ne (by omega) (by omega), aTl_lo (by omega) (by omega)]
    exact h5
theorem n60_all : (List.range 60).all (fun n => decide (Int32.ofNat n + Int32.ofInt 1 - (Int32.ofNat n + Int32.ofInt 1) / Int32.ofInt 60 * Int32.ofInt 60 = Int32.ofNat ((n + 1) % 60))) = true := by decide +kernel
theorem n60 {n : Nat} (h : n < 60) : Int32.ofNat n + Int32.ofInt 1 - (Int32.ofNat n + Int32.ofInt 1) / Int32.ofInt 60 * Int32.ofInt 60 = Int32.ofNat ((n + 1) % 60) := of_decide_eq_true (List.all_eq_true.mp n60_all n (List.mem_range.mpr h))
theorem aMi_sw (x y : Int32) : aMi x y = aMi y x := by
  unfold aMi
  by_cases h1 : y < x
  · by_cases h2 : x < y
    · rw [Int32.lt_iff_toInt_lt] at h1 h2; omega
    · rw [if_pos h1, if_neg h2]
  · by_cases h2 : x < y
    · rw [if_neg h1, if_pos h2]
    · rw [if_neg h1, if_neg h2]
      rw [Int32.lt_iff_toInt_lt] at h1 h2
      exact Int32.toInt_inj.mp (by omega)
/-- unsigned or signed: the bits 16 to 30 -/
theorem hDr_u (x : Int32) : ((x.toUInt32 >>> ((Int32.ofInt 16).toUInt32 &&& Int32.toUInt32 31)).toInt32) &&& Int32.ofInt 32767 = (x >>> (Int32.ofInt 16 &&& 31)) &&& Int32.ofInt 32767 := by
  refine Int32.toBitVec_inj.1 ?_
  rw [Int32.toBitVec_and, Int32.toBitVec_and]
  refine BitVec.eq_of_getLsbD_eq (fun i hi => ?_)
  rw [BitVec.getLsbD_and, BitVec.getLsbD_and]
  by_cases h : i < 15
  · have e : ∀ b c : Bool, b = c → (b && (Int32.ofInt 32767).toBitVec.getLsbD i) = (c && (Int32.ofInt 32767).toBitVec.getLsbD i) := fun b c q => by rw [q]
    refine e _ _ ?_
    have h1 : (x >>> (Int32.ofInt 16 &&& 31)).toBitVec = x.toBitVec.sshiftRight 16 := by
      show (x >>> (Int32.ofInt 16)).toBitVec = _
      rw [Int32.toBitVec_shiftRight]
      rfl
    have h2 : ((x.toUInt32 >>> ((Int32.ofInt 16).toUInt32 &&& Int32.toUInt32 31)).toInt32).toBitVec = x.toBitVec >>> 16 := by
      show (x.toUInt32 >>> (16 : UInt32)).toBitVec = _
      rw [UInt32.toBitVec_shiftRight]
      rfl
    rw [h1, h2, BitVec.getLsbD_ushiftRight, BitVec.getLsbD_sshiftRight]
    rw [if_pos (by omega)]
    simp only [show ¬ (32 ≤ i) by omega, decide_false, Bool.not_false, Bool.true_and]
  · have : (Int32.ofInt 32767).toBitVec.getLsbD i = false := by
      have h3 : (List.range 32).all (fun j => decide (j < 15) || !(Int32.ofInt 32767).toBitVec.getLsbD j) = true := by decide
      have h4 := List.all_eq_true.mp h3 i (List.mem_range.mpr hi)
      rw [decide_eq_false h, Bool.false_or, Bool.not_eq_true'] at h4
      exact h4
    rw [this, Bool.and_false, Bool.and_false]
