/-! A HOUSE AS A ROW OF INTS (in the reference's own order), and THE GRAMMAR of a deed's text: what each line tells, or the wrong place -/
noncomputable def aU (A : Nat → Int32) (k : Nat) (v : Int32) : Nat → Int32 := fun i => if i = k then v else A i
noncomputable def btb (x k : Int32) : Bool := decide (((x >>> (k &&& 31)) &&& Int32.ofInt 1).toInt = 1)
/-- the hours from one to another as bits -/
noncomputable def hBn (f n : Nat) : Int32 := (List.range n).foldl (fun b i => b ||| (Int32.ofInt 1 <<< (Int32.ofNat ((f + i) % 24) &&& 31))) (Int32.ofInt 0)
noncomputable def hB (f t : Nat) : Int32 := hBn f ((t + 24 - f) % 24 + 1)
theorem hBn_s (f n : Nat) : hBn f (n + 1) = hBn f n ||| (Int32.ofInt 1 <<< (Int32.ofNat ((f + n) % 24) &&& 31)) := by
  unfold hBn
  rw [List.range_succ, List.foldl_append]
  rfl
theorem hB_ge_all : (List.range 24).all (fun f => (List.range 24).all (fun t => decide (0 ≤ (hB f t).toInt))) = true := by decide +kernel
theorem hB_ge {f t : Nat} (hf : f < 24) (ht : t < 24) : 0 ≤ (hB f t).toInt := of_decide_eq_true (List.all_eq_true.mp (List.all_eq_true.mp hB_ge_all f (List.mem_range.mpr hf)) t (List.mem_range.mpr ht))
noncomputable def wPurse : List Int := [112, 117, 114, 115, 101]
noncomputable def wStove : List Int := [115, 116, 111, 118, 101]
noncomputable def wHours : List Int := [104, 111, 117, 114, 115]
noncomputable def wWishes : List Int := [119, 105, 115, 104, 101, 115]
noncomputable def wTo : List Int := [116, 111]
noncomputable def wFree : List Int := [102, 114, 101, 101]
noncomputable def wThing : List Int := [116, 104, 105, 110, 103]
noncomputable def wBulk : List Int := [98, 117, 108, 107]
noncomputable def wCold : List Int := [99, 111, 108, 100]
noncomputable def wPrice : List Int := [112, 114, 105, 99, 101]
noncomputable def wGuests : List Int := [103, 117, 101, 115, 116, 115]
abbrev dOp : Type := Nat × (Nat × Nat × Nat) × Int32 × Int32
section DGR
variable (b : Nat → Int) (E : Nat)
noncomputable def dH (A : Nat) : (Nat × Int32) ⊕ Nat := match tn b E 0 23 A with
  | none => .inr A
  | some (A1, f) => (match tw b E wTo A1 with
    | none => .inr A1
    | some A2 => (match tn b E 0 23 A2 with
      | none => .inr A2
      | some (A3, t) => .inl (A3, hB f t)))
noncomputable def dAf (s : List Int) (lo hi : Int) (A : Nat) : (Nat × Nat) ⊕ Nat := match tw b E s A with
  | none => .inr A
  | some A1 => (match tn b E lo hi A1 with
    | none => .inr A1
    | some (A2, v) => .inl (A2, v))
noncomputable def dOh (s : List Int) (A : Nat) : (Nat × Int32) ⊕ Nat := match tw b E s A with
  | none => .inl (A, 0)
  | some A1 => dH b E A1
noncomputable def dFam (A : Nat) : (Nat × dOp) ⊕ Nat := match dAf b E wPurse 0 999 A with
  | .inr F => .inr F
  | .inl (A1, p) => (match dAf b E wDust 0 9 A1 with
    | .inr F => .inr F
    | .inl (A2, d) => (match dAf b E wStove 0 9 A2 with
      | .inr F => .inr F
      | .inl (A3, s) => (match dOh b E wHours A3 with
        | .inr F => .inr F
        | .inl (A4, q) => (match dOh b E wWishes A4 with
          | .inr F => .inr F
          | .inl (A5, w) => .inl (A5, (0, (p, d, s), q, w))))))
noncomputable def dHf (nf A : Nat) : (Nat × Nat × Int32) ⊕ Nat := match tn b E 0 ((nf : Int) - 1) A with
  | none => .inr A
  | some (A1, f) => (match dH b E A1 with
    | .inr F => .inr F
    | .inl (A2, q) => .inl (A2, f, q))
noncomputable def dTh (nf A : Nat) : (Nat × dOp) ⊕ Nat := match tn b E 0 ((nf : Int) - 1) A with
  | none => .inr A
  | some (A1, f) => (match dAf b E wBulk 1 9 A1 with
    | .inr F => .inr F
    | .inl (A2, v) => (match tw b E wLeft A2 with
      | some A3 => .inl (A3, (3, (f, v, 1), 0, 0))
      | none => .inl (A2, (3, (f, v, 0), 0, 0))))
noncomputable def dSt (k : Nat) (hi : Int) (A : Nat) : (Nat × dOp) ⊕ Nat := match tn b E 0 hi A with
  | none => .inr A
  | some (A1, v) => .inl (A1, (5, (k, v, 0), 0, 0))
noncomputable def dLk (nf nt A A1 : Nat) : Nat → (Nat × dOp) ⊕ Nat
  | 0 => if nf = 6 then .inr A else dFam b E A1
  | 1 => (match dHf b E nf A1 with
    | .inr F => .inr F
    | .inl (A2, f, q) => .inl (A2, (1, (f, 0, 0), q, 0)))
  | 2 => (match dH b E A1 with
    | .inr F => .inr F
    | .inl (A2, q) => .inl (A2, (2, (0, 0, 0), q, 0)))
  | 3 => if nt = 8 then .inr A else dTh b E nf A1
  | 4 => (match dHf b E nf A1 with
    | .inr F => .inr F
    | .inl (A2, f, q) => .inl (A2, (4, (f, 0, 0), 0, q)))
  | 5 => dSt b E 10 9 A1
  | 6 => dSt b E 11 20 A1
  | 7 => dSt b E 12 99 A1
  | 8 => dSt b E 13 100 A1
  | _ => dSt b E 4 23 A1
noncomputable def dWs : List (List Int) := [wFamily, wHours, wFree, wThing, wWishes, wCold, wFine, wPrice, wGuests, wHour]
noncomputable def dLine (nf nt A : Nat) : (Nat × dOp) ⊕ Nat := match tws b E A dWs 0 with
  | none => .inr A
  | some (A1, c) => dLk b E nf nt A A1 c
/-- how many families, things a line brings -/
noncomputable def dF1 (o : dOp) : Nat := if o.1 = 0 then 1 else 0
noncomputable def dT1 (o : dOp) : Nat := if o.1 = 3 then 1 else 0
noncomputable def dText : Nat → Nat → Nat → Nat → List dOp → List dOp ⊕ Nat
  | 0, _, _, A, _ => .inr A
  | n + 1, nf, nt, A, os => match dLine b E nf nt A with
    | .inr F => .inr F
    | .inl (A1, o) => if A1 = E then .inl (os ++ [o]) else (match ts b E 59 A1 with
      | none => .inr A1
      | some A2 => dText n (nf + dF1 o) (nt + dT1 o) A2 (os ++ [o]))
noncomputable def dDeed (nf nt : Nat) : List dOp ⊕ Nat := if zBl b E 0 = E then .inl [] else dText b E 14 nf nt (zBl b E 0) []
end DGR
/-! what a line does to a house -/
noncomputable def dG (A : Nat → Int32) (q f : Int32) : Nat → Int32 := fun k => if 16 ≤ k ∧ k < 40 ∧ btb q (Int32.ofNat (k - 16)) = true then f else A k
theorem aU_at {A : Nat → Int32} {k : Nat} {v : Int32} : aU A k v k = v := if_pos rfl
theorem aU_ne {A : Nat → Int32} {k i : Nat} {v : Int32} (h : i ≠ k) : aU A k v i = A i := if_neg h
theorem dG_ne {A : Nat → Int32} {q f : Int32} {k : Nat} (h : ¬ (16 ≤ k ∧ k < 40)) : dG A q f k = A k := if_neg (fun e => h ⟨e.1, e.2.1⟩)
noncomputable def dApp (nf nt : Nat) (A : Nat → Int32) (o : dOp) : Nat → Int32 := match o with
  | (0, (p, d, s), q, w) => aU (dG (aU (aU (aU (aU A (40 + 4 * nf) (Int32.ofNat p)) (41 + 4 * nf) (Int32.ofNat d)) (42 + 4 * nf) (Int32.ofNat s)) (43 + 4 * nf) w) q (Int32.ofNat nf)) 0 (Int32.ofNat (nf + 1))
  | (1, (f, _, _), q, _) => dG A q (Int32.ofNat f)
  | (2, _, q, _) => dG A q (Int32.ofInt (-1))
  | (3, (f, v, l), _, _) => aU (aU (aU (aU A (64 + 3 * nt) (Int32.ofNat f)) (65 + 3 * nt) (Int32.ofNat v)) (66 + 3 * nt) (Int32.ofNat l)) 1 (Int32.ofNat (nt + 1))
  | (4, (f, _, _), _, w) => aU A (43 + 4 * f) (A (43 + 4 * f) ||| w)
  | (5, (k, v, _), _, _) => aU A k (Int32.ofNat v)
  | _ => A
noncomputable def dApps : List dOp → Nat → Nat → (Nat → Int32) → (Nat → Int32)
  | [], _, _, A => A
  | o :: r, nf, nt, A => dApps r (nf + dF1 o) (nt + dT1 o) (dApp nf nt A o)
noncomputable def dFs : List dOp → Nat
  | [] => 0
  | o :: r => dF1 o + dFs r
noncomputable def dTs : List dOp → Nat
  | [] => 0
  | o :: r => dT1 o + dTs r
theorem dFs_app : ∀ (l m : List dOp), dFs (l ++ m) = dFs l + dFs m
  | [], m => by rw [List.nil_append]; show _ = 0 + _; omega
  | o :: r, m => by
    show dF1 o + dFs (r ++ m) = dF1 o + dFs r + dFs m
    rw [dFs_app r m]
    omega
theorem dTs_app : ∀ (l m : List dOp), dTs (l ++ m) = dTs l + dTs m
  | [], m => by rw [List.nil_append]; show _ = 0 + _; omega
  | o :: r, m => by
    show dT1 o + dTs (r ++ m) = dT1 o + dTs r + dTs m
    rw [dTs_app r m]
    omega
theorem dApps_app : ∀ (l m : List dOp) (nf nt : Nat) (A : Nat → Int32), dApps (l ++ m) nf nt A = dApps m (nf + dFs l) (nt + dTs l) (dApps l nf nt A)
  | [], m, nf, nt, A => rfl
  | o :: r, m, nf, nt, A => by
    show dApps (r ++ m) (nf + dF1 o) (nt + dT1 o) (dApp nf nt A o) = dApps m (nf + (dF1 o + dFs r)) (nt + (dT1 o + dTs r)) (dApps r (nf + dF1 o) (nt + dT1 o) (dApp nf nt A o))
    rw [dApps_app r m, Nat.add_assoc, Nat.add_assoc]
/-! words exclude each other -/
theorem zWa.uniq {b : Nat → Int} {E A : Nat} {s s' : List Int} (h : zWa b E s A) (h' : zWa b E s' A) : s = s' := by
  obtain ⟨h1, h2⟩ := h
  obtain ⟨g1, g2⟩ := h'
  have hl : s.length = s'.length := by omega
  refine List.ext_getElem hl (fun k p q => ?_)
  have e1 := h2 k p
  have e2 := g2 k q
  rw [List.getD_eq_getElem?_getD, List.getElem?_eq_getElem p] at e1
  rw [List.getD_eq_getElem?_getD, List.getElem?_eq_getElem q] at e2
  exact (e1.symm.trans e2)
theorem tw_ex {b : Nat → Int} {E A A1 : Nat} {s s' : List Int} (h : tw b E s A = some A1) (hn : s ≠ s') : tw b E s' A = none := tw_neg (fun h' => hn ((tw_some h).uniq h'))
theorem tws_at {b : Nat → Int} {E A A1 : Nat} {s : List Int} (h : tw b E s A = some A1) : ∀ (l : List (List Int)) (i c : Nat), l[i]? = some s → (∀ k, k < i → l[k]? ≠ some s) → tws b E A l c = some (A1, c + i)
  | [], i, c, hi, _ => by cases hi
  | w :: r, 0, c, hi, _ => by
    have hi : w = s := Option.some.inj hi
    unfold tws
    rw [hi, h]
    rfl
  | w :: r, i + 1, c, hi, hk => by
    have h0 : tw b E w A = none := tw_ex h (fun e => hk 0 (by omega) (by rw [e]; rfl))
    unfold tws
    rw [h0]
    dsimp only
    rw [tws_at h r i (c + 1) hi (fun k hki e => hk (k + 1) (by omega) e)]
    exact congrArg some (Prod.ext rfl (by omega))
theorem tws_none {b : Nat → Int} {E A : Nat} : ∀ (l : List (List Int)) (c : Nat), (∀ s ∈ l, tw b E s A = none) → tws b E A l c = none
  | [], _, _ => rfl
  | w :: r, c, h => by
    unfold tws
    rw [h w List.mem_cons_self]
    exact tws_none r (c + 1) (fun s hs => h s (List.mem_cons_of_mem _ hs))
theorem dLine_at {b : Nat → Int} {E A A1 nf nt : Nat} {s : List Int} (i : Nat) (h : tw b E s A = some A1) (hi : dWs[i]? = some s) (hk : ∀ k, k < i → dWs[k]? ≠ some s) : dLine b E nf nt A = dLk b E nf nt A A1 i := by
  unfold dLine
  rw [tws_at h dWs i 0 hi hk, Nat.zero_add]
theorem dLine_no {b : Nat → Int} {E A nf nt : Nat} (h : ∀ s ∈ dWs, tw b E s A = none) : dLine b E nf nt A = .inr A := by
  unfold dLine
  rw [tws_none dWs 0 h]
theorem dLk_0 {b : Nat → Int} {E nf nt A A1 : Nat} : dLk b E nf nt A A1 0 = if nf = 6 then .inr A else dFam b E A1 := rfl
theorem dLk_3 {b : Nat → Int} {E nf nt A A1 : Nat} : dLk b E nf nt A A1 3 = if nt = 8 then .inr A else dTh b E nf A1 := rfl
theorem dLk_5 {b : Nat → Int} {E nf nt A A1 : Nat} : dLk b E nf nt A A1 5 = dSt b E 10 9 A1 := rfl
theorem dLk_6 {b : Nat → Int} {E nf nt A A1 : Nat} : dLk b E nf nt A A1 6 = dSt b E 11 20 A1 := rfl
theorem dLk_7 {b : Nat → Int} {E nf nt A A1 : Nat} : dLk b E nf nt A A1 7 = dSt b E 12 99 A1 := rfl
theorem dLk_8 {b : Nat → Int} {E nf nt A A1 : Nat} : dLk b E nf nt A A1 8 = dSt b E 13 100 A1 := rfl
theorem dLk_9 {b : Nat → Int} {E nf nt A A1 : Nat} : dLk b E nf nt A A1 9 = dSt b E 4 23 A1 := rfl
