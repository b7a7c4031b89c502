/-! constructors: worlds as lists while they are made -/
def PW (cs : va_W) (h0 h : AH) : Prop := (∀ (k : Nat) (p : Nat × va_E), cs[k]? = some p → h p.1 = some p.2) ∧ (∀ (i j : Nat) (p q : Nat × va_E), cs[i]? = some p → cs[j]? = some q → p.1 = q.1 → i = j) ∧ ∀ a, (∀ (k : Nat) (c : va_E), cs[k]? ≠ some (a, c)) → h a = h0 a
section PWs
variable {cs : va_W} {h0 h : AH}
theorem PW.set (hP : PW cs h0 h) {k a : Nat} {e e1 : va_E} (hk : cs[k]? = some (a, e)) : PW (cs.set k (a, e1)) h0 (ah_set h a e1) := by
  have hl := (List.getElem?_eq_some_iff.mp hk).1
  have key : ∀ (j : Nat) (p : Nat × va_E), (cs.set k (a, e1))[j]? = some p → (j = k ∧ p = (a, e1)) ∨ (j ≠ k ∧ cs[j]? = some p) := by
    intro j p hj
    by_cases hjk : j = k
    · subst hjk
      rw [List.getElem?_set_self hl] at hj
      exact Or.inl ⟨rfl, (Option.some.inj hj).symm⟩
    · rw [List.getElem?_set_ne (Ne.symm hjk)] at hj
      exact Or.inr ⟨hjk, hj⟩
  refine ⟨fun j p hj => ?_, fun i j p q hi hj hpq => ?_, fun b hb => ?_⟩
  · rcases key j p hj with ⟨-, rfl⟩ | ⟨hjk, hj⟩
    · exact ah_same
    · rw [ah_ne (fun hh => hjk (hP.2.1 j k p (a, e) hj hk hh))]
      exact hP.1 j p hj
  · rcases key i p hi with ⟨ei, rfl⟩ | ⟨hik, hi2⟩ <;> rcases key j q hj with ⟨ej, rfl⟩ | ⟨hjk, hj2⟩
    · rw [ei, ej]
    · rw [ei]; exact hP.2.1 _ _ (a, e) q hk hj2 hpq
    · rw [ej]; exact hP.2.1 _ _ p (a, e) hi2 hk hpq
    · exact hP.2.1 _ _ p q hi2 hj2 hpq
  · have hba : b ≠ a := fun hh => hb k e1 (by rw [List.getElem?_set_self hl, hh])
    rw [ah_ne hba]
    refine hP.2.2 b (fun j c hj => ?_)
    by_cases hjk : j = k
    · subst hjk
      rw [hk] at hj
      cases hj
      exact hba rfl
    · exact hb j c (by rw [List.getElem?_set_ne (Ne.symm hjk)]; exact hj)
theorem PW.fresh (hP : PW cs h0 h) {q : Nat} (hq : h q = none) : ∀ (k : Nat) (c : va_E), cs[k]? ≠ some (q, c) := fun k c hk => by
  have := hP.1 k _ hk
  rw [hq] at this
  cases this
theorem PW.push (hP : PW cs h0 h) {q : Nat} {c : va_E} (hq : h q = none) : PW (cs ++ [(q, c)]) h0 (ah_set h q c) := by
  have hf := hP.fresh hq
  have key : ∀ (j : Nat) (p : Nat × va_E), (cs ++ [(q, c)])[j]? = some p → (j = cs.length ∧ p = (q, c)) ∨ (j < cs.length ∧ cs[j]? = some p ∧ p.1 ≠ q) := by
    intro j p hj
    by_cases hl : j < cs.length
    · rw [List.getElem?_append_left hl] at hj
      exact Or.inr ⟨hl, hj, fun hh => hf j p.2 (by rw [hj, ← hh])⟩
    · rw [List.getElem?_append_right (by omega)] at hj
      have hz : j - cs.length < 1 := (List.getElem?_eq_some_iff.mp hj).1
      rw [show j - cs.length = 0 by omega] at hj
      exact Or.inl ⟨by omega, (Option.some.inj hj).symm⟩
  refine ⟨fun j p hj => ?_, fun i j p r hi hj hpr => ?_, fun b hb => ?_⟩
  · rcases key j p hj with ⟨-, rfl⟩ | ⟨-, hj, hne⟩
    · exact ah_same
    · rw [ah_ne hne]
      exact hP.1 j p hj
  · rcases key i p hi with ⟨e1, rfl⟩ | ⟨-, hi, hn1⟩ <;> rcases key j r hj with ⟨e2, rfl⟩ | ⟨-, hj, hn2⟩
    · omega
    · exact absurd hpr.symm hn2
    · exact absurd hpr hn1
    · exact hP.2.1 _ _ p r hi hj hpr
  · have hbq : b ≠ q := fun hh => hb cs.length c (by rw [List.getElem?_append_right (Nat.le_refl _), Nat.sub_self, hh]; rfl)
    rw [ah_ne hbq]
    refine hP.2.2 b (fun j c' hj => hb j c' ?_)
    rw [List.getElem?_append_left (List.getElem?_eq_some_iff.mp hj).1]
    exact hj
theorem PW.one {o : Nat} {c : va_E} (ho : h o = some c) : PW [(o, c)] h h := by
  have key : ∀ (j : Nat) (p : Nat × va_E), [(o, c)][j]? = some p → j = 0 ∧ p = (o, c) := by
    intro j p hj
    have hz : j < 1 := (List.getElem?_eq_some_iff.mp hj).1
    rw [show j = 0 by omega] at hj
    exact ⟨by omega, (Option.some.inj hj).symm⟩
  refine ⟨fun j p hj => ?_, fun i j p q hi hj _ => ?_, fun _ _ => rfl⟩
  · obtain ⟨-, rfl⟩ := key j p hj
    exact ho
  · rw [(key i p hi).1, (key j q hj).1]
end PWs
theorem va_RA_fun {U : State} {c1 c2 : ClassId} {ty : FieldType} (h1 : va_RA U c1 ty) (h2 : va_RA U c2 ty) : c1 = c2 := by
  cases ty with
  | object C =>
    obtain ⟨_, _, -, -, -, h4⟩ := h1
    obtain ⟨_, _, -, -, -, h5⟩ := h2
    exact Option.some.inj (h4.symm.trans h5)
  | _ => exact Option.some.inj ((show U.vm.findClass _ = some c1 from h1).symm.trans h2)
/-- a world's cells by a list, as a map -/
def hOf (ws : va_W) : AH := fun a => (ws.find? (fun p => p.1 == a)).map (fun p => p.2)
theorem hOf_cov {A : Nat → Prop} {ws : va_W} (hD : va_D A ws) : ah_cov (hOf ws) ws := by
  intro a c
  unfold hOf
  constructor
  · intro h
    cases hf : ws.find? (fun p => p.1 == a) with
    | none => rw [hf] at h; cases h
    | some p =>
      rw [hf] at h
      have hm := List.mem_of_find?_eq_some hf
      have hp := List.find?_some hf
      have e1 : p.1 = a := by simpa using hp
      obtain ⟨k, hk⟩ := List.getElem?_of_mem hm
      refine ⟨k, ?_⟩
      rw [hk]
      have e2 : p.2 = c := Option.some.inj h
      rw [← e1, ← e2]
  · rintro ⟨k, hk⟩
    cases hf : ws.find? (fun p => p.1 == a) with
    | none =>
      have := List.find?_eq_none.mp hf (a, c) (List.mem_of_getElem? hk)
      simp at this
    | some p =>
      have hm := List.mem_of_find?_eq_some hf
      have hp := List.find?_some hf
      have e1 : p.1 = a := by simpa using hp
      obtain ⟨j, hj⟩ := List.getElem?_of_mem hm
      have e3 := hD.1 j k p (a, c) hj hk e1
      subst e3
      rw [hk] at hj
      cases hj
      rfl
section CT
variable {l : Launch} {D : va_G} {cl : List vw_C} {R : Room} {nL : Nat} {X : CX} {cc : ByteArray} {own : String} {Ts : List Cond} {tys : List (ClassId × FieldType)} {NN : List Cond} {cells slots pc : Nat} {h : AH} {lv lv' : List (Nat × Value)} {rest : List Value}
theorem ax_newa (M : Mx D cl nL X cc own Ts tys NN) {atype : ArrayType} {ty : FieldType} (hty : newarray.typeOf atype = ty) (hw : Cond.arrayClass ty ∈ Ts) (t0 : Nat) {cA : ClassId} (ht : tys[t0]? = some (cA, ty)) {n : Int32} {N' : Nat} {a0 : vp_A} (ha : ∀ c : ClassId, vp_cell c a0 = arrV c N' (fun _ => defaultValue ty)) (hn : ¬ n < 0) (hN : n.toNatClampNeg = N') (hbytes : N' * componentBytes ty ≤ 536870912) (hcells : cells + 1 ≤ R.cells) (hslots : slots + N' ≤ R.slots) (d : decode cc pc = .ok (.newarray atype, 2))
    (k : ∀ q : Nat, h q = none → AW l D cl R nL X (cells + 1) (slots + N') (ah_set h q (.inl (cA, a0))) (pc + 2) lv (.ref q :: rest)) : AW l D cl R nL X cells slots h pc lv (.int n :: rest) := fun H locs ls hP hS hl => by
  obtain ⟨ws, h1, h2, h3⟩ := id hP
  refine va_newa M.1 M.2.1 (M.2.2.2.2.1 _ (by rw [hty]; exact hw)) hty M.2.2.2.2.2.1 h1 h2 hS M.2.2.2.2.2.2.2.1 ha hn hN hbytes hcells hslots d (fun q cA' H1 g0 g1 g2 g3 => ?_)
  have e1 : cA' = cA := va_RA_fun (g0.2 tys.length (cA', ty) (by rw [List.getElem?_append_right (Nat.le_refl _), Nat.sub_self]; rfl)).2 (M.2.2.2.2.2.1.2 t0 _ ht).2
  subst e1
  exact k q (ah_cov_push h3 g2).1 H1 locs ls ⟨_, g1, g2, (ah_cov_push h3 g2).2⟩ g3 hl
theorem ax_newq (M : Mx D cl nL X cc own Ts tys NN) {C : String} {index : Nat} (hcl : Cond.classLink own index C ∈ Ts) (hov : Cond.arrayOver (.object C) ∈ Ts) (t0 : Nat) {cA : ClassId} (ht : tys[t0]? = some (cA, .object C)) {n : Int32} {N' : Nat} (hn : ¬ n < 0) (hN : n.toNatClampNeg = N') (hbytes : N' * 4 ≤ 536870912) (hcells : cells + 1 ≤ R.cells) (hslots : slots + N' ≤ R.slots) (d : decode cc pc = .ok (.anewarray index, 3))
    (k : ∀ q : Nat, h q = none → AW l D cl R nL X (cells + 1) (slots + N') (ah_set h q (.inl (cA, N', .inr (.inr (.inr (.inr (fun _ => none))))))) (pc + 3) lv (.ref q :: rest)) : AW l D cl R nL X cells slots h pc lv (.int n :: rest) := fun H locs ls hP hS hl => by
  obtain ⟨ws, h1, h2, h3⟩ := id hP
  refine va_newq M.1 M.2.1 M.2.2.2.1 (M.2.2.2.2.1 _ hcl) (va_AO.of (M.2.2.2.2.1 _ hov)) M.2.2.2.2.2.1 h1 h2 hS M.2.2.2.2.2.2.2.1 hn hN hbytes hcells hslots d (fun q cA' H1 g0 g1 g2 g3 => ?_)
  have e1 : cA' = cA := va_RA_fun (g0.2 tys.length (cA', .object C) (by rw [List.getElem?_append_right (Nat.le_refl _), Nat.sub_self]; rfl)).2 (M.2.2.2.2.2.1.2 t0 _ ht).2
  subst e1
  exact k q (ah_cov_push h3 g2).1 H1 locs ls ⟨_, g1, g2, (ah_cov_push h3 g2).2⟩ g3 hl
/-- another function for the same array -/
theorem ax_recell {a : Nat} {cA : ClassId} {x x' : vp_A} (ha : h a = some (.inl (cA, x))) (hx : vp_cell cA x = vp_cell cA x') (k : AW l D cl R nL X cells slots (ah_set h a (.inl (cA, x'))) pc lv rest) : AW l D cl R nL X cells slots h pc lv rest := fun H locs ls hP hS hl => by
  obtain ⟨ws, h1, h2, h3⟩ := hP
  obtain ⟨q, hq⟩ := (h3 _ _).mp ha
  refine k H locs ls ⟨ws.set q (a, .inl (cA, x')), h1.set h2 hq ?_ (fun _ _ => rfl), h2.set hq, ah_cov_set h3 h2 hq⟩ hS hl
  have h4 : H[a]? = some (vp_cell cA x) := h1 q _ hq
  show H[a]? = some (vp_cell cA x')
  rw [h4, hx]
theorem vp_cell_refs {cA : ClassId} {n : Nat} {f g : Nat → Option Nat} (hfg : ∀ j, j < n → f j = g j) : vp_cell cA (n, .inr (.inr (.inr (.inr f)))) = vp_cell cA (n, .inr (.inr (.inr (.inr g)))) := by
  rw [vp_cell_q, vp_cell_q]
  unfold arrV
  congr 2
  funext j
  show va_rf (f j.val) = va_rf (g j.val)
  rw [hfg j.val j.isLt]
end CT
