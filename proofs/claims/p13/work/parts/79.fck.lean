/-! THE CHECKER, quicker: numbers and rows of a state brought to their plain forms between two steps -/
noncomputable def zlit {β : Type} (n : Nat) (F : Nat → β) : β := match Nat.add n 1 with
  | 0 => F n
  | m + 1 => F m
theorem zlit_eq {β : Type} {n : Nat} {F : Nat → β} : zlit n F = F n := rfl
noncomputable def zspn {α β : Type} (l : List α) (k : List α → β) : β := List.rec (motive := fun _ => (List α → β) → β) (fun k => k []) (fun x _ ih k => ih (fun ys => k (x :: ys))) l k
theorem zspn_eq {α β : Type} : ∀ {l : List α} {k : List α → β}, zspn l k = k l
  | [], _ => rfl
  | x :: xs, k => zspn_eq (l := xs) (k := fun ys => k (x :: ys))
noncomputable def zstepF (tt : Nat → zTy) (cts : List zCt) (cand : List (List Nat)) (own : Nat) (ct : zCt) (env : List zEn) (me : List zMe) (j k : Nat) (loc : zLs) (stk : List Nat) (fs : List zAf) (X Y : Nat) : Option (List zSt) := match z_ms[j]?, z_cs[j]?, z_hs[j]? with
    | some M, some cs, some _ => (match cs[k]? with
      | none => none
      | some i => if i.1 = 54 ∨ i.1 = 55 ∨ i.1 = 72 then zt_call tt cts cand own ct i env me j k loc stk fs X Y
        else if 30 ≤ i.1 ∧ i.1 ≤ 33 then zt_if i env me j k loc stk fs X Y
        else if i.1 = 35 ∨ i.1 = 36 then zt_sw i env me j loc stk fs X Y
        else if 50 ≤ i.1 ∧ i.1 ≤ 53 then zt_ret ct M i env me stk fs X Y
        else if i.1 = 62 then zt_thr ct i env me stk fs X Y
        else zt_op tt ct i env me j k loc stk fs X Y)
    | _, _, _ => none
theorem zstepF_eq {tt : Nat → zTy} {cts : List zCt} {cand : List (List Nat)} {own : Nat} {ct : zCt} {env : List zEn} {me : List zMe} {j k : Nat} {loc : zLs} {stk : List Nat} {fs : List zAf} {X Y : Nat} : zstep tt cts cand own ct (env, me, (j, k, loc, stk) :: fs, X, Y) = zstepF tt cts cand own ct env me j k loc stk fs X Y := rfl
noncomputable def zxf (tt : Nat → zTy) (cts : List zCt) (cand : List (List Nat)) (own : Nat) (ct : zCt) (src : Option zCut) : Nat → zSt → Bool
  | 0, _ => false
  | n + 1, s => match s.2.2.1 with
    | [] => false
    | f :: fs => zspn s.1 fun env => zspn s.2.1 fun me => zlit f.1 fun j => zlit f.2.1 fun k => zspn f.2.2.1 fun loc => zspn f.2.2.2 fun stk => zlit s.2.2.2.1 fun X => zlit s.2.2.2.2 fun Y => match zstepF tt cts cand own ct env me j k loc stk fs X Y with
      | none => false
      | some l => l.all (fun s' => if zat ct s' = true then zhit tt ct src s' else zxf tt cts cand own ct src n s')
theorem zxf_eq {tt : Nat → zTy} {cts : List zCt} {cand : List (List Nat)} {own : Nat} {ct : zCt} {src : Option zCut} : ∀ (n : Nat) (s : zSt), zxf tt cts cand own ct src n s = zx tt cts cand own ct src n s
  | 0, _ => rfl
  | n + 1, (env, me, [], X, Y) => rfl
  | n + 1, (env, me, (j, k, loc, stk) :: fs, X, Y) => by
    have ih : zxf tt cts cand own ct src n = zx tt cts cand own ct src n := funext fun s => zxf_eq n s
    rw [zx, zstepF_eq, zxf]
    simp only [zspn_eq, zlit_eq, ih]
    cases zstepF tt cts cand own ct env me j k loc stk fs X Y <;> rfl
noncomputable def zckF (tt : Nat → zTy) (cts : List zCt) (cand : List (List Nat)) (own : Nat) (ct : zCt) (N fuel : Nat) : Bool :=
  (zcC ct).all (fun c => decide (c.2.2.2.length = N)) && ((if zat ct (zc_st ct (zc_0 ct)) = true then zhit tt ct none (zc_st ct (zc_0 ct)) else zxf tt cts cand own ct none fuel (zc_st ct (zc_0 ct))) && (zcC ct).all (fun c => zxf tt cts cand own ct (some c) fuel (zc_st ct c)))
theorem zckF_ok {tt : Nat → zTy} {cts : List zCt} {cand : List (List Nat)} {own : Nat} {ct : zCt} {N fuel : Nat} (h : zckF tt cts cand own ct N fuel = true) : zck tt cts cand own ct N fuel = true := by
  unfold zckF at h
  unfold zck
  simp only [zxf_eq] at h
  exact h
