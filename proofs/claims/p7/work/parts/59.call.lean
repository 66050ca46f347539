/-! calls by hand -/
section ZHC
variable {sx : zX} {d j k : Nat} {lo : zL} {st rest : List Value} {h : zH} {Ψ : zO → zH → Nat → Nat → Prop} {M M' : zMi} {cs : List zI} {hs : List zHd}
theorem zcal54 {j' n r c' : Nat} {c : Int} {xs fs : List Value} (hd : 0 < d) (hst : st = xs ++ .ref r :: rest) (hx : xs.length = n) (hr : h[r]? = some (.inr (c', fs))) (hc : (c' : Int) = c) (hz : z_cat rest ≤ 8) (hM : z_ms[j']? = some M') (hl : (lg_sl (.ref r :: xs.reverse)).length ≤ M'.2.2.2.1) : z_cal (54, j', n, c) d st h = some (j', .ref r :: xs.reverse, rest) := by
  subst hst
  have h0 : z_cal0 (54, j', n, c) d (xs ++ .ref r :: rest) h = some (j', .ref r :: xs.reverse, rest) := by
    unfold z_cal0
    have e1 : ¬ (d = 0 ∨ (xs ++ Value.ref r :: rest).length < n) := by
      rw [List.length_append, List.length_cons]
      omega
    have e2 : (xs ++ Value.ref r :: rest).drop n = .ref r :: rest := by rw [← hx]; exact List.drop_left
    have e3 : (xs ++ Value.ref r :: rest).take n = xs := by rw [← hx]; exact List.take_left
    dsimp only
    rw [if_neg e1, e2, e3]
    dsimp only
    rw [hr]
    dsimp only
    rw [if_pos ⟨hc, hz⟩]
    rfl
  unfold z_cal
  rw [h0]
  dsimp only
  rw [hM]
  dsimp only
  rw [if_pos hl]
theorem zcal55 {j' n : Nat} {c : Int} {xs : List Value} (hd : 0 < d) (hst : st = xs ++ rest) (hx : xs.length = n) (hz : z_cat rest ≤ 8) (hM : z_ms[j']? = some M') (hl : (lg_sl xs.reverse).length ≤ M'.2.2.2.1) : z_cal (55, j', n, c) d st h = some (j', xs.reverse, rest) := by
  subst hst
  have h0 : z_cal0 (55, j', n, c) d (xs ++ rest) h = some (j', xs.reverse, rest) := by
    unfold z_cal0
    have e1 : ¬ (d = 0 ∨ (xs ++ rest).length < n) := by
      rw [List.length_append]
      omega
    have e2 : (xs ++ rest).drop n = rest := by rw [← hx]; exact List.drop_left
    have e3 : (xs ++ rest).take n = xs := by rw [← hx]; exact List.take_left
    dsimp only
    rw [if_neg e1, e2, e3, if_pos hz]
    rfl
  unfold z_cal
  rw [h0]
  dsimp only
  rw [hM]
  dsimp only
  rw [if_pos hl]
/-- a call whose run is known -/
theorem zh_run {j' : Nat} {as : List Value} {i : zI} {Φ : zO → zH → Nat → Nat → Prop} (J : zJ3 j M cs hs) (hi : cs[k]? = some i) (hn : i.1 ≠ 50 ∧ i.1 ≠ 51 ∧ i.1 ≠ 52 ∧ i.1 ≠ 53 ∧ i.1 ≠ 62) (hc : z_cal i d st h = some (j', as, rest)) (R : z_ok sx (d - 1) j' 0 (lv_args 0 as) [] h Φ) (kk : ∀ o h' x y, Φ o h' x y → ∃ v, o = .inl v ∧ x = 0 ∧ y = 0 ∧ z_ok sx d j (k + 1) lo (v.toList ++ rest) h' Ψ) : z_ok sx d j k lo st h Ψ := by
  refine z_ok.call J.1 J.2.1 J.2.2 hi (z_fin_no hn) hc (z_ok.imp R (fun o h' x y q => ?_))
  obtain ⟨v, rfl, rfl, rfl, h9⟩ := kk o h' x y q
  exact h9
/-- a call by a contract that throws nothing and makes nothing -/
theorem zh_con {j' : Nat} {as : List Value} {i : zI} {ct : zCt} {ty : List Nat} (J : zJ3 j M cs hs) (hi : cs[k]? = some i) (hn : i.1 ≠ 50 ∧ i.1 ≠ 51 ∧ i.1 ≠ 52 ∧ i.1 ≠ 53 ∧ i.1 ≠ 62) (hc : z_cal i d st h = some (j', as, rest)) (V : zVd z_tt zE1 ct) (hj : zcJ ct = j') (hd : zcD ct + 1 ≤ d) (he : zcE ct = []) (hk : (zcK ct).1 = 0 ∧ (zcK ct).2.1 = 0) (T : zTY z_tt ty h) (E : zE1 ty h) (hA : zAg ty (zcA ct) as) (kk : ∀ (ty' : List Nat) (h' : zH) (v : Option Value), zExt ty ty' → zTY z_tt ty' h' → zE1 ty' h' → zFm (zcM ct) ty h h' → zRt ty' (zcR ct) v → z_ok sx d j (k + 1) lo (v.toList ++ rest) h' Ψ) : z_ok sx d j k lo st h Ψ := by
  subst hj
  refine zh_run J hi hn hc (V sx (d - 1) ty h as (by omega) T E hA) (fun o h' x y q => ?_)
  obtain ⟨ty', q1, q2, q3, q4, q5⟩ := q
  cases o with
  | inl v =>
    obtain ⟨q5, q6, q7⟩ := q5
    exact ⟨v, rfl, by omega, by omega, kk ty' h' v q1 q2 q3 q4 q5⟩
  | inr e =>
    rw [he] at q5
    exact absurd q5.1 List.not_mem_nil
end ZHC
/-- the types stay where no cell is new -/
theorem zty_eq {ty ty' : List Nat} {h h' : zH} (T : zTY z_tt ty h) (T' : zTY z_tt ty' h') (hx : zExt ty ty') (hl : h'.length = h.length) : ty' = ty := by
  refine List.ext_getElem? (fun i => ?_)
  by_cases hi : i < ty.length
  · have e : ty[i]? = some ty[i] := List.getElem?_eq_getElem hi
    rw [e]
    exact hx i _ e
  · rw [List.getElem?_eq_none (show ty'.length ≤ i by rw [T'.1, hl, ← T.1]; omega), List.getElem?_eq_none (show ty.length ≤ i by omega)]
