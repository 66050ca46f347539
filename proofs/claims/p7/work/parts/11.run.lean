/-! THE RUN of the abstract machine: fuel, depth, method, step -/
noncomputable def z_no : zNop := fun _ _ _ _ _ _ _ _ _ => none
noncomputable def zk_no : zCk := fun _ _ _ _ _ _ _ _ _ _ => false
theorem zs_no : z_Sn z_no zk_no := by
  intro p l e R s m args below meth c Z D tc adK adV sb sx M nx ad0 n0 C S d Q a b ci k ins len pl hF hK hA hR hd hck
  cases hck
noncomputable def z_ops : List zNop := [zo_const, zo_iload, zo_aload, zo_lload, zo_istore, zo_astore, zo_lstore, zo_iinc, zo_iadd, zo_isub, zo_imul, zo_idiv, zo_irem, zo_ishl, zo_ishr, zo_iushr, zo_iand, zo_ior, zo_ixor, zo_i2l, zo_l2i, zo_i2b, zo_ladd, zo_lmul, zo_ldiv, zo_lconst, zo_lcmp, zo_dup, zo_dup2, zo_pop, zo_goto, zo_if, zo_icmp, zo_ifnn, zo_lald, zo_tsw, zo_lsw2, zo_get, zo_put, zo_iald, zo_iast, zo_bald, zo_bast, zo_last, zo_aald, zo_aast, zo_alen, zo_newa, zo_anew, zo_new, z_no, z_no, z_no, z_no, z_no, z_no, z_no, zo_oinit, zo_ldcs, zo_slength, zo_scharAt, zo_acopy, z_no, zo_null, z_no, zo_sald, zo_slen, zo_min, zo_max, z_no, zo_clone, zo_cast]
noncomputable def z_cks : List zCk := [zk_const, zk_iload, zk_aload, zk_lload, zk_istore, zk_astore, zk_lstore, zk_iinc, zk_iadd, zk_isub, zk_imul, zk_idiv, zk_irem, zk_ishl, zk_ishr, zk_iushr, zk_iand, zk_ior, zk_ixor, zk_i2l, zk_l2i, zk_i2b, zk_ladd, zk_lmul, zk_ldiv, zk_lconst, zk_lcmp, zk_dup, zk_dup2, zk_pop, zk_goto, zk_if, zk_icmp, zk_ifnn, zk_lald, zk_tsw, zk_lsw2, zk_get, zk_put, zk_iald, zk_iast, zk_bald, zk_bast, zk_last, zk_aald, zk_aast, zk_alen, zk_newa, zk_anew, zk_new, zk_no, zk_no, zk_no, zk_no, zk_no, zk_no, zk_no, zk_oinit, zk_ldcs, zk_slength, zk_scharAt, zk_acopy, zk_no, zk_null, zk_no, zk_sald, zk_slen, zk_min, zk_max, zk_no, zk_clone, zk_cast]
theorem z_all : ∀ o, z_Sn (z_ops.getD o z_no) (z_cks.getD o zk_no)
  | 0 => zs_const | 1 => zs_iload | 2 => zs_aload | 3 => zs_lload | 4 => zs_istore | 5 => zs_astore | 6 => zs_lstore | 7 => zs_iinc
  | 8 => zs_iadd | 9 => zs_isub | 10 => zs_imul | 11 => zs_idiv | 12 => zs_irem | 13 => zs_ishl | 14 => zs_ishr | 15 => zs_iushr
  | 16 => zs_iand | 17 => zs_ior | 18 => zs_ixor | 19 => zs_i2l | 20 => zs_l2i | 21 => zs_i2b | 22 => zs_ladd | 23 => zs_lmul
  | 24 => zs_ldiv | 25 => zs_lconst | 26 => zs_lcmp | 27 => zs_dup | 28 => zs_dup2 | 29 => zs_pop | 30 => zs_goto | 31 => zs_if
  | 32 => zs_icmp | 33 => zs_ifnn | 34 => zs_lald | 35 => zs_tsw | 36 => zs_lsw2 | 37 => zs_get | 38 => zs_put | 39 => zs_iald
  | 40 => zs_iast | 41 => zs_bald | 42 => zs_bast | 43 => zs_last | 44 => zs_aald | 45 => zs_aast | 46 => zs_alen | 47 => zs_newa
  | 48 => zs_anew | 49 => zs_new | 50 => zs_no | 51 => zs_no | 52 => zs_no | 53 => zs_no | 54 => zs_no | 55 => zs_no
  | 56 => zs_no | 57 => zs_oinit | 58 => zs_ldcs | 59 => zs_slength | 60 => zs_scharAt | 61 => zs_acopy | 62 => zs_no | 63 => zs_null
  | 64 => zs_no | 65 => zs_sald | 66 => zs_slen | 67 => zs_min | 68 => zs_max | 69 => zs_no | 70 => zs_clone | 71 => zs_cast
  | n + 72 => zs_no
/-- how a method ends here -/
noncomputable def z_fin (M : zMi) (i : zI) (d : Nat) (st : List Value) : Option (zO × Nat × Nat) := match i.1, st with
  | 50, [.int r] => (match M.2.2.2.2.1 with | some ty => if narrow ty (.int r) = .int r then some (.inl (some (.int r)), 0, 0) else none | none => none)
  | 51, [.long r] => some (.inl (some (.long r)), 0, 0)
  | 52, [.ref r] => some (.inl (some (.ref r)), 0, 0)
  | 53, [] => some (.inl none, 0, 0)
  | 62, st => if 6 ≤ d ∧ z_cat st ≤ 8 then some (.inr i.2.1, 1, 6) else none
  | _, _ => none
/-- which method is called here, with what -/
noncomputable def z_cal0 (i : zI) (d : Nat) (st : List Value) (h : zH) : Option (Nat × List Value × List Value) :=
  if d = 0 ∨ st.length < i.2.2.1 then none else match i.1 with
  | 54 => (match st.drop i.2.2.1 with
    | .ref r :: rest => (match h[r]? with
      | some (.inr (c, _)) => if (c : Int) = i.2.2.2 ∧ z_cat rest ≤ 8 then some (i.2.1, .ref r :: (st.take i.2.2.1).reverse, rest) else none
      | _ => none)
    | _ => none)
  | 55 => if z_cat (st.drop i.2.2.1) ≤ 8 then some (i.2.1, (st.take i.2.2.1).reverse, st.drop i.2.2.1) else none
  | 72 => if z_cat (st.drop i.2.2.1) ≤ 8 then some (i.2.1, (st.take i.2.2.1).reverse, st.drop i.2.2.1) else none
  | 56 => (match st.drop i.2.2.1 with
    | .ref r :: rest => if z_cat rest ≤ 8 then some (i.2.1, .ref r :: (st.take i.2.2.1).reverse, rest) else none
    | _ => none)
  | 73 => (match st.drop i.2.2.1 with
    | .ref r :: rest => if z_cat rest ≤ 8 then some (i.2.1, .ref r :: (st.take i.2.2.1).reverse, rest) else none
    | _ => none)
  | _ => none
noncomputable def z_cal (i : zI) (d : Nat) (st : List Value) (h : zH) : Option (Nat × List Value × List Value) := match z_cal0 i d st h with
  | some (a, as, rest) => (match z_ms[a]? with | some M' => if (lg_sl as).length ≤ M'.2.2.2.1 then some (a, as, rest) else none | none => none)
  | none => none
noncomputable def z_drop (l : zL) (x : Nat) : zL := l.filter (fun q => !(q.1 == x) && !(q.1 + 1 == x && q.2.category == 2))
abbrev zRes : Type := zO × zH × Nat × Nat
noncomputable def z_add (x y : Nat) (r : zRes) : zRes := (r.1, r.2.1, r.2.2.1 + x, r.2.2.2 + y)
noncomputable def z_run (sx : zX) : Nat → Nat → Nat → Nat → zL → List Value → zH → Option zRes
  | 0, _, _, _, _, _, _ => none
  | n + 1, d, j, k, lo, st, h => match z_ms[j]?, z_cs[j]?, z_hs[j]? with
    | some M, some cs, some hs => (match cs[k]? with
      | none => none
      | some i => (match z_fin M i d st with
        | some (o, x, y) => some (o, h, x, y)
        | none => (match z_cal i d st h with
          | some (j', as, rest) => (match z_run sx n (d - 1) j' 0 (lv_args 0 as) [] h with
            | some (.inl v, h', x, y) => (z_run sx n d j (k + 1) lo (v.toList ++ rest) h').map (z_add x y)
            | some (.inr E, h', x, y) => if i.1 = 54 then (match hs.find? (fun q => q.2.2.2.2.1 == E) with
                | some q => (z_run sx n d j q.2.2.2.2.2.1 (z_drop lo q.2.2.2.2.2.2) [] h').map (z_add x y)
                | none => if hs = [] then some (.inr E, h', x, y) else none) else none
            | none => none)
          | none => (match (z_ops.getD i.1 z_no) sx d i.2.1 i.2.2.1 i.2.2.2 k lo st h with
            | some (k', lo', st', h', x, y) => (z_run sx n d j k' lo' st' h').map (z_add x y)
            | none => none))))
    | _, _, _ => none
