/-! constructors: worlds as lists while they are made -/
def PW (cs : va_W) (h0 h : AH) : Prop := (∀ (k : Nat) (p : Nat × va_E), cs[k]? = some p → h p.1 = some p.2) ∧ (∀ (i j : Nat) (p q : Nat × va_E), cs[i]? = some p → cs[j]? = some q → p.1 = q.1 → i = j) ∧ (∀ a, (∀ (k : Nat) (c : va_E), cs[k]? ≠ some (a, c)) → h a = h0 a) ∧ ∀ (k : Nat) (p : Nat × va_E), 0 < k → cs[k]? = some p → h0 p.1 = none
section PWs
variable {cs : va_W} {h0 h : AH}
theorem PW.set (hP : PW cs h0 h) {k a : Nat} {e e1 : va_E} (hk : cs[k]? = some (a, e)) : PW (cs.set k (a, e1)) h0 (ah_set h a e1) := by
  have hl := (List.getElem?_eq_some_iff.mp hk).1
  have key : ∀ (j : Nat) (p : Nat × va_E), (cs.set k (a, e1))[j]? = some p → (j = k ∧ p = (a, e1)) ∨ (j ≠ k ∧ cs[j]? = some p) := by
    intro j p hj
    by_cases hjk : j = k
    · subst hjk
      rw [List.getElem?_set_self hl] at hj
      exact Or.inl ⟨rfl, (Option.some.inj hj).symm⟩
    · rw [List.getElem?_set_ne (Ne.symm hjk)] at hj
      exact Or.inr ⟨hjk, hj⟩
  refine ⟨fun j p hj => ?_, fun i j p q hi hj hpq => ?_, fun b hb => ?_, fun j p h9 hj => ?_⟩
  · rcases key j p hj with ⟨-, rfl⟩ | ⟨hjk, hj⟩
    · exact ah_same
    · rw [ah_ne (fun hh => hjk (hP.2.1 j k p (a, e) hj hk hh))]
      exact hP.1 j p hj
  · rcases key i p hi with ⟨ei, rfl⟩ | ⟨hik, hi2⟩ <;> rcases key j q hj with ⟨ej, rfl⟩ | ⟨hjk, hj2⟩
    · rw [ei, ej]
    · rw [ei]; exact hP.2.1 _ _ (a, e) q hk hj2 hpq
    · rw [ej]; exact hP.2.1 _ _ p (a, e) hi2 hk hpq
    · exact hP.2.1 _ _ p q hi2 hj2 hpq
  · have hba : b ≠ a := fun hh => hb k e1 (by rw [List.getElem?_set_self hl, hh])
    rw [ah_ne hba]
    refine hP.2.2.1 b (fun j c hj => ?_)
    by_cases hjk : j = k
    · subst hjk
      rw [hk] at hj
      cases hj
      exact hba rfl
    · exact hb j c (by rw [List.getElem?_set_ne (Ne.symm hjk)]; exact hj)
  · rcases key j p hj with ⟨ej, rfl⟩ | ⟨hjk, hj⟩
    · exact hP.2.2.2 j (a, e) h9 (by rw [ej]; exact hk)
    · exact hP.2.2.2 j p h9 hj
theorem PW.fresh (hP : PW cs h0 h) {q : Nat} (hq : h q = none) : ∀ (k : Nat) (c : va_E), cs[k]? ≠ some (q, c) := fun k c hk => by
  have := hP.1 k _ hk
  rw [hq] at this
  cases this
theorem PW.push (hP : PW cs h0 h) {q : Nat} {c : va_E} (hq : h q = none) : PW (cs ++ [(q, c)]) h0 (ah_set h q c) := by
  have hf := hP.fresh hq
  have key : ∀ (j : Nat) (p : Nat × va_E), (cs ++ [(q, c)])[j]? = some p → (j = cs.length ∧ p = (q, c)) ∨ (j < cs.length ∧ cs[j]? = some p ∧ p.1 ≠ q) := by
    intro j p hj
    by_cases hl : j < cs.length
    · rw [List.getElem?_append_left hl] at hj
      exact Or.inr ⟨hl, hj, fun hh => hf j p.2 (by rw [hj, ← hh])⟩
    · rw [List.getElem?_append_right (by omega)] at hj
      have hz : j - cs.length < 1 := (List.getElem?_eq_some_iff.mp hj).1
      rw [show j - cs.length = 0 by omega] at hj
      exact Or.inl ⟨by omega, (Option.some.inj hj).symm⟩
  refine ⟨fun j p hj => ?_, fun i j p r hi hj hpr => ?_, fun b hb => ?_, fun j p h9 hj => ?_⟩
  · rcases key j p hj with ⟨-, rfl⟩ | ⟨-, hj, hne⟩
    · exact ah_same
    · rw [ah_ne hne]
      exact hP.1 j p hj
  · rcases key i p hi with ⟨e1, rfl⟩ | ⟨-, hi, hn1⟩ <;> rcases key j r hj with ⟨e2, rfl⟩ | ⟨-, hj, hn2⟩
    · omega
    · exact absurd hpr.symm hn2
    · exact absurd hpr hn1
    · exact hP.2.1 _ _ p r hi hj hpr
  · have hbq : b ≠ q := fun hh => hb cs.length c (by rw [List.getElem?_append_right (Nat.le_refl _), Nat.sub_self, hh]; rfl)
    rw [ah_ne hbq]
    refine hP.2.2.1 b (fun j c' hj => hb j c' ?_)
    rw [List.getElem?_append_left (List.getElem?_eq_some_iff.mp hj).1]
    exact hj
  · rcases key j p hj with ⟨-, rfl⟩ | ⟨-, hj, -⟩
    · rw [← hP.2.2.1 q hf]
      exact hq
    · exact hP.2.2.2 j p h9 hj
theorem PW.one {o : Nat} {c : va_E} (ho : h o = some c) : PW [(o, c)] h h := by
  have key : ∀ (j : Nat) (p : Nat × va_E), [(o, c)][j]? = some p → j = 0 ∧ p = (o, c) := by
    intro j p hj
    have hz : j < 1 := (List.getElem?_eq_some_iff.mp hj).1
    rw [show j = 0 by omega] at hj
    exact ⟨by omega, (Option.some.inj hj).symm⟩
  refine ⟨fun j p hj => ?_, fun i j p q hi hj _ => ?_, fun _ _ => rfl, fun j p h9 hj => ?_⟩
  · obtain ⟨-, rfl⟩ := key j p hj
    exact ho
  · rw [(key i p hi).1, (key j q hj).1]
  · have := (key j p hj).1
    omega
end PWs
theorem va_RA_fun {U : State} {c1 c2 : ClassId} {ty : FieldType} (h1 : va_RA U c1 ty) (h2 : va_RA U c2 ty) : c1 = c2 := by
  cases ty with
  | object C =>
    obtain ⟨_, _, -, -, -, h4⟩ := h1
    obtain ⟨_, _, -, -, -, h5⟩ := h2
    exact Option.some.inj (h4.symm.trans h5)
  | _ => exact Option.some.inj ((show U.vm.findClass _ = some c1 from h1).symm.trans h2)
/-- a world's cells by a list, as a map -/
def hOf (ws : va_W) : AH := fun a => (ws.find? (fun p => p.1 == a)).map (fun p => p.2)
theorem hOf_cov {A : Nat → Prop} {ws : va_W} (hD : va_D A ws) : ah_cov (hOf ws) ws := by
  intro a c
  unfold hOf
  constructor
  · intro h
    cases hf : ws.find? (fun p => p.1 == a) with
    | none => rw [hf] at h; cases h
    | some p =>
      rw [hf] at h
      have hm := List.mem_of_find?_eq_some hf
      have hp := List.find?_some hf
      have e1 : p.1 = a := by simpa using hp
      obtain ⟨k, hk⟩ := List.getElem?_of_mem hm
      refine ⟨k, ?_⟩
      rw [hk]
      have e2 : p.2 = c := Option.some.inj h
      rw [← e1, ← e2]
  · rintro ⟨k, hk⟩
    cases hf : ws.find? (fun p => p.1 == a) with
    | none =>
      have := List.find?_eq_none.mp hf (a, c) (List.mem_of_getElem? hk)
      simp at this
    | some p =>
      have hm := List.mem_of_find?_eq_some hf
      have hp := List.find?_some hf
      have e1 : p.1 = a := by simpa using hp
      obtain ⟨j, hj⟩ := List.getElem?_of_mem hm
      have e3 := hD.1 j k p (a, c) hj hk e1
      subst e3
      rw [hk] at hj
      cases hj
      rfl
section CT
variable {l : Launch} {D : va_G} {cl : List vw_C} {R : Room} {nL : Nat} {X : CX} {cc : ByteArray} {own : String} {Ts : List Cond} {tys : List (ClassId × FieldType)} {NN : List Cond} {cells slots pc : Nat} {h : AH} {lv lv' : List (Nat × Value)} {rest : List Value}
theorem ax_newa (M : Mx D cl nL X cc own Ts tys NN) {atype : ArrayType} {ty : FieldType} (hty : newarray.typeOf atype = ty) (hw : Cond.arrayClass ty ∈ Ts) (t0 : Nat) {cA : ClassId} (ht : tys[t0]? = some (cA, ty)) {n : Int32} {N' : Nat} {a0 : vp_A} (ha : ∀ c : ClassId, vp_cell c a0 = arrV c N' (fun _ => defaultValue ty)) (hn : ¬ n < 0) (hN : n.toNatClampNeg = N') (hbytes : N' * componentBytes ty ≤ 536870912) (hcells : cells + 1 ≤ R.cells) (hslots : slots + N' ≤ R.slots) (d : decode cc pc = .ok (.newarray atype, 2))
    (k : ∀ q : Nat, h q = none → AW l D cl R nL X (cells + 1) (slots + N') (ah_set h q (.inl (cA, a0))) (pc + 2) lv (.ref q :: rest)) : AW l D cl R nL X cells slots h pc lv (.int n :: rest) := fun H locs ls hP hS hl => by
  obtain ⟨ws, h1, h2, h3⟩ := id hP
  refine va_newa M.1 M.2.1 (M.2.2.2.2.1 _ (by rw [hty]; exact hw)) hty M.2.2.2.2.2.1 h1 h2 hS M.2.2.2.2.2.2.2.1 ha hn hN hbytes hcells hslots d (fun q cA' H1 g0 g1 g2 g3 => ?_)
  have e1 : cA' = cA := va_RA_fun (g0.2 tys.length (cA', ty) (by rw [List.getElem?_append_right (Nat.le_refl _), Nat.sub_self]; rfl)).2 (M.2.2.2.2.2.1.2 t0 _ ht).2
  subst e1
  exact k q (ah_cov_push h3 g2).1 H1 locs ls ⟨_, g1, g2, (ah_cov_push h3 g2).2⟩ g3 hl
theorem ax_newq (M : Mx D cl nL X cc own Ts tys NN) {C : String} {index : Nat} (hcl : Cond.classLink own index C ∈ Ts) (hov : Cond.arrayOver (.object C) ∈ NN) (t0 : Nat) {cA : ClassId} (ht : tys[t0]? = some (cA, .object C)) {n : Int32} {N' : Nat} (hn : ¬ n < 0) (hN : n.toNatClampNeg = N') (hbytes : N' * 4 ≤ 536870912) (hcells : cells + 1 ≤ R.cells) (hslots : slots + N' ≤ R.slots) (d : decode cc pc = .ok (.anewarray index, 3))
    (k : ∀ q : Nat, h q = none → AW l D cl R nL X (cells + 1) (slots + N') (ah_set h q (.inl (cA, N', .inr (.inr (.inr (.inr (fun _ => none))))))) (pc + 3) lv (.ref q :: rest)) : AW l D cl R nL X cells slots h pc lv (.int n :: rest) := fun H locs ls hP hS hl => by
  obtain ⟨ws, h1, h2, h3⟩ := id hP
  refine va_newq M.1 M.2.1 M.2.2.2.1 (M.2.2.2.2.1 _ hcl) (M.2.2.2.2.2.2.2.2 _ hov).2 M.2.2.2.2.2.1 h1 h2 hS M.2.2.2.2.2.2.2.1 hn hN hbytes hcells hslots d (fun q cA' H1 g0 g1 g2 g3 => ?_)
  have e1 : cA' = cA := va_RA_fun (g0.2 tys.length (cA', .object C) (by rw [List.getElem?_append_right (Nat.le_refl _), Nat.sub_self]; rfl)).2 (M.2.2.2.2.2.1.2 t0 _ ht).2
  subst e1
  exact k q (ah_cov_push h3 g2).1 H1 locs ls ⟨_, g1, g2, (ah_cov_push h3 g2).2⟩ g3 hl
/-- another function for the same array -/
theorem ax_recell {a : Nat} {cA : ClassId} {x x' : vp_A} (ha : h a = some (.inl (cA, x))) (hx : vp_cell cA x = vp_cell cA x') (k : AW l D cl R nL X cells slots (ah_set h a (.inl (cA, x'))) pc lv rest) : AW l D cl R nL X cells slots h pc lv rest := fun H locs ls hP hS hl => by
  obtain ⟨ws, h1, h2, h3⟩ := hP
  obtain ⟨q, hq⟩ := (h3 _ _).mp ha
  refine k H locs ls ⟨ws.set q (a, .inl (cA, x')), h1.set h2 hq ?_ (fun _ _ => rfl), h2.set hq, ah_cov_set h3 h2 hq⟩ hS hl
  have h4 : H[a]? = some (vp_cell cA x) := h1 q _ hq
  show H[a]? = some (vp_cell cA x')
  rw [h4, hx]
theorem vp_cell_refs {cA : ClassId} {n : Nat} {f g : Nat → Option Nat} (hfg : ∀ j, j < n → f j = g j) : vp_cell cA (n, .inr (.inr (.inr (.inr f)))) = vp_cell cA (n, .inr (.inr (.inr (.inr g)))) := by
  rw [vp_cell_q, vp_cell_q]
  unfold arrV
  congr 2
  funext j
  show va_rf (f j.val) = va_rf (g j.val)
  rw [hfg j.val j.isLt]
end CT
theorem PW.many {cs ns : va_W} {h0 h h' : AH} (hP : PW cs h0 h) (hv : ∀ (k : Nat) (p : Nat × va_E), ns[k]? = some p → h' p.1 = some p.2 ∧ h p.1 = none) (hd : ∀ (i j : Nat) (p q : Nat × va_E), ns[i]? = some p → ns[j]? = some q → p.1 = q.1 → i = j) (ho : ∀ a, (∀ (k : Nat) (c : va_E), ns[k]? ≠ some (a, c)) → h' a = h a) : PW (cs ++ ns) h0 h' := by
  have key : ∀ (j : Nat) (p : Nat × va_E), (cs ++ ns)[j]? = some p → (j < cs.length ∧ cs[j]? = some p) ∨ (cs.length ≤ j ∧ ns[j - cs.length]? = some p) := by
    intro j p hj
    by_cases hl : j < cs.length
    · rw [List.getElem?_append_left hl] at hj
      exact Or.inl ⟨hl, hj⟩
    · rw [List.getElem?_append_right (by omega)] at hj
      exact Or.inr ⟨by omega, hj⟩
  have apart : ∀ (i j : Nat) (p q : Nat × va_E), cs[i]? = some p → ns[j]? = some q → p.1 ≠ q.1 := by
    intro i j p q hi hj he
    have h1 := hP.1 i p hi
    rw [he, (hv j q hj).2] at h1
    cases h1
  refine ⟨fun j p hj => ?_, fun i j p q hi hj hpq => ?_, fun a ha => ?_, fun j p h9 hj => ?_⟩
  · rcases key j p hj with ⟨-, hj⟩ | ⟨-, hj⟩
    · rw [ho p.1 (fun k c hk => apart j k p _ hj hk rfl)]
      exact hP.1 j p hj
    · exact (hv _ p hj).1
  · rcases key i p hi with ⟨l1, hi2⟩ | ⟨l1, hi2⟩ <;> rcases key j q hj with ⟨l2, hj2⟩ | ⟨l2, hj2⟩
    · exact hP.2.1 i j p q hi2 hj2 hpq
    · exact absurd hpq (apart _ _ p q hi2 hj2)
    · exact absurd hpq.symm (apart _ _ q p hj2 hi2)
    · have := hd _ _ p q hi2 hj2 hpq
      omega
  · rw [ho a (fun k c hk => ha (cs.length + k) c (by rw [List.getElem?_append_right (by omega), Nat.add_sub_cancel_left]; exact hk))]
    exact hP.2.2.1 a (fun k c hk => ha k c (by rw [List.getElem?_append_left (List.getElem?_eq_some_iff.mp hk).1]; exact hk))
  · rcases key j p hj with ⟨-, hj⟩ | ⟨-, hj⟩
    · exact hP.2.2.2 j p h9 hj
    · rw [← hP.2.2.1 p.1 (fun k c hk => apart k _ _ p hk hj rfl)]
      exact (hv _ p hj).2
section PR
variable {l : Launch} {D : va_G} {cl : List vw_C} {R : Room} {nL : Nat} {X : CX} {cc : ByteArray} {own : String} {Ts : List Cond} {tys : List (ClassId × FieldType)} {NN : List Cond} {cells slots pc : Nat} {h0 h : AH} {lv lv' : List (Nat × Value)} {rest : List Value} {cs : va_W}
theorem pw_newa (hP : PW cs h0 h) (M : Mx D cl nL X cc own Ts tys NN) {atype : ArrayType} {ty : FieldType} (hty : newarray.typeOf atype = ty) (hw : Cond.arrayClass ty ∈ Ts) (t0 : Nat) {cA : ClassId} (ht : tys[t0]? = some (cA, ty)) {n : Int32} {N' : Nat} {a0 : vp_A} (ha : ∀ c : ClassId, vp_cell c a0 = arrV c N' (fun _ => defaultValue ty)) (hn : ¬ n < 0) (hN : n.toNatClampNeg = N') (hbytes : N' * componentBytes ty ≤ 536870912) (hcells : cells + 1 ≤ R.cells) (hslots : slots + N' ≤ R.slots) (d : decode cc pc = .ok (.newarray atype, 2))
    (k : ∀ (q : Nat) (h1 : AH), PW (cs ++ [(q, .inl (cA, a0))]) h0 h1 → AW l D cl R nL X (cells + 1) (slots + N') h1 (pc + 2) lv (.ref q :: rest)) : AW l D cl R nL X cells slots h pc lv (.int n :: rest) :=
  ax_newa M hty hw t0 ht ha hn hN hbytes hcells hslots d (fun q hq => k q _ (hP.push hq))
theorem pw_newq (hP : PW cs h0 h) (M : Mx D cl nL X cc own Ts tys NN) {C : String} {index : Nat} (hcl : Cond.classLink own index C ∈ Ts) (hov : Cond.arrayOver (.object C) ∈ NN) (t0 : Nat) {cA : ClassId} (ht : tys[t0]? = some (cA, .object C)) {n : Int32} {N' : Nat} (hn : ¬ n < 0) (hN : n.toNatClampNeg = N') (hbytes : N' * 4 ≤ 536870912) (hcells : cells + 1 ≤ R.cells) (hslots : slots + N' ≤ R.slots) (d : decode cc pc = .ok (.anewarray index, 3))
    (k : ∀ (q : Nat) (h1 : AH), PW (cs ++ [(q, .inl (cA, N', .inr (.inr (.inr (.inr (fun _ => none))))))]) h0 h1 → AW l D cl R nL X (cells + 1) (slots + N') h1 (pc + 3) lv (.ref q :: rest)) : AW l D cl R nL X cells slots h pc lv (.int n :: rest) :=
  ax_newq M hcl hov t0 ht hn hN hbytes hcells hslots d (fun q hq => k q _ (hP.push hq))
theorem pw_new (hP : PW cs h0 h) (M : Mx D cl nL X cc own Ts tys NN) {C : String} {T : u_T} {N ci index : Nat} (hin : ∀ w ∈ u_ws C T N, w ∈ Ts) (ty : Nat → FieldType) (hty : ∀ k, k < N → parseFieldDescriptor (T k).2.2.1 = some (ty k)) (hcl : Cond.classLink own index C ∈ Ts) (hinst : Cond.instantiable C N ∈ Ts) (hini : Cond.initialized C ∈ Ts) (hc : cl[ci]? = some (C, T, N)) {fs : List Value} (hfs : ∀ j, j < N → defaultValue (ty j) = vp_V fs j) (hcells : cells + 1 ≤ R.cells) (hslots : slots + N ≤ R.slots) (d : decode cc pc = .ok (.new index, 3)) (k : ∀ (q : Nat) (h1 : AH), PW (cs ++ [(q, .inr (ci, fs))]) h0 h1 → AW l D cl R nL X (cells + 1) (slots + N) h1 (pc + 3) lv (.ref q :: rest)) : AW l D cl R nL X cells slots h pc lv rest :=
  ax_new M hin ty hty hcl hinst hini hc hfs hcells hslots d (fun q hq => k q _ (hP.push hq))
theorem pw_get (hP : PW cs h0 h) (M : Mx D cl nL X cc own Ts tys NN) {C : String} {T : u_T} {N ci index a : Nat} (hin : ∀ w ∈ u_ws C T N, w ∈ Ts) (p : Nat) {fs : List Value} (hp : cs[p]? = some (a, .inr (ci, fs))) (hc : cl[ci]? = some (C, T, N)) (k0 : Nat) (hk : k0 < N) (hlink : Cond.fieldLink own index (T k0).1 (T k0).2.1 (T k0).2.2.1 ∈ Ts) {v : Value} (hv : fs[k0]? = some v) (d : decode cc pc = .ok (.getfield index, 3)) (k : AW l D cl R nL X cells slots h (pc + 3) lv (v :: rest)) : AW l D cl R nL X cells slots h pc lv (.ref a :: rest) :=
  ax_get M hin (hP.1 p _ hp) hc k0 hk hlink hv d k
theorem pw_putF (hP : PW cs h0 h) (M : Mx D cl nL X cc own Ts tys NN) {C : String} {T : u_T} {N ci index a : Nat} (hin : ∀ w ∈ u_ws C T N, w ∈ Ts) (ty0 : Nat → FieldType) (hty : ∀ k, k < N → parseFieldDescriptor (T k).2.2.1 = some (ty0 k)) (hnm : ∀ a, a < N → ∀ b, b < N → a ≠ b → (T a).2.1 ≠ (T b).2.1) (p : Nat) {fs : List Value} (hp : cs[p]? = some (a, .inr (ci, fs))) (hc : cl[ci]? = some (C, T, N)) (k0 : Nat) (hk : k0 < N) (hlink : Cond.fieldLink own index (T k0).1 (T k0).2.1 (T k0).2.2.1 ∈ Ts) (hfin : (T k0).2.2.2 = true) (hi2 : (xh X).name = "<init>") (hdecl : (T k0).1 = own) {v : Value} (hn : narrow (ty0 k0) v = v) (hfit : fits (ty0 k0) v = true) (hlen : k0 < fs.length) (d : decode cc pc = .ok (.putfield index, 3)) (k : ∀ h1 : AH, PW (cs.set p (a, .inr (ci, fs.set k0 v))) h0 h1 → AW l D cl R nL X cells slots h1 (pc + 3) lv rest) : AW l D cl R nL X cells slots h pc lv (v :: .ref a :: rest) :=
  ax_putF M hin ty0 hty hnm (hP.1 p _ hp) hc k0 hk hlink hfin hi2 hdecl hn hfit hlen d (k _ (hP.set hp))
theorem pw_astq (hP : PW cs h0 h) (M : Mx D cl nL X cc own Ts tys NN) {a ci : Nat} {cA : ClassId} {r : vw_C} {n v : Nat} {vs : List Value} {f : Nat → Option Nat} (p pv : Nat) (hp : cs[p]? = some (a, .inl (cA, n, .inr (.inr (.inr (.inr f)))))) (t0 : Nat) (ht : tys[t0]? = some (cA, .object r.1)) (hv : cs[pv]? = some (v, .inr (ci, vs))) (hc : cl[ci]? = some r) {i : Int32} (hi : inb i n) (j : Nat) (hj : ix i = j) (d : decode cc pc = .ok (.aastore, 1)) (k : ∀ h1 : AH, PW (cs.set p (a, .inl (cA, n, .inr (.inr (.inr (.inr (va_up f j (some v)))))))) h0 h1 → AW l D cl R nL X cells slots h1 (pc + 1) lv rest) : AW l D cl R nL X cells slots h pc lv (.ref v :: .int i :: .ref a :: rest) := by
  subst hj
  exact ax_astq M (hP.1 p _ hp) t0 ht (hP.1 pv _ hv) hc hi d (k _ (hP.set hp))
theorem pw_recell (hP : PW cs h0 h) (p : Nat) {a : Nat} {cA : ClassId} {x x' : vp_A} (hp : cs[p]? = some (a, .inl (cA, x))) (hx : vp_cell cA x = vp_cell cA x') (k : ∀ h1 : AH, PW (cs.set p (a, .inl (cA, x'))) h0 h1 → AW l D cl R nL X cells slots h1 pc lv rest) : AW l D cl R nL X cells slots h pc lv rest :=
  ax_recell (hP.1 p _ hp) hx (k _ (hP.set hp))
theorem pw_mna8 (hP : PW cs h0 h) (M : Mx D cl nL X cc own Ts tys NN) {index : Nat} (hcl : Cond.classLink own index "[[I" ∈ Ts) (hov : Cond.arrayOver (.array .int) ∈ NN) (hac : Cond.arrayClass .int ∈ Ts) (t0 t1 : Nat) {cI cG : ClassId} (ht0 : tys[t0]? = some (cI, .int)) (ht1 : tys[t1]? = some (cG, .array .int)) (hcells : cells + 9 ≤ R.cells) (hslots : slots + 72 ≤ R.slots) (d : decode cc pc = .ok (.multianewarray index 2, 4))
    (k : ∀ (q : Nat) (r : Nat → Nat) (h1 : AH), PW (cs ++ ((q, .inl (cG, 8, .inr (.inr (.inr (.inr (fun i => if i < 8 then some (r i) else none)))))) :: (List.range 8).map (fun i => (r i, .inl (cI, 8, .inl (fun _ => 0)))))) h0 h1 → AW l D cl R nL X (cells + 9) (slots + 72) h1 (pc + 4) lv (.ref q :: rest)) : AW l D cl R nL X cells slots h pc lv (.int 8 :: .int 8 :: rest) := fun H locs ls hX hS hl => by
  obtain ⟨ws, h1, h2, h3⟩ := id hX
  have hn : ws ++ va_pl [] (fun _ => .inl (cI, 0, .inl (fun _ => 0))) = ws := List.append_nil ws
  refine va_mna (X := ws) (L := []) (f := fun _ => .inl (cI, 0, .inl (fun _ => 0))) (ty := .int) (cy := cI) (N' := 8) (K' := 8) (z := (8, .inl (fun _ => 0))) M.1 M.2.1 M.2.2.2.1 (M.2.2.2.2.1 _ hcl) (over_moved (Vm.Alike.refl _) (M.2.2.2.2.2.2.2.2 _ hov).2) (M.2.2.2.2.1 _ hac) (M.2.2.2.2.2.1.2 t0 _ ht0).2 M.2.2.2.2.2.1 (by rw [hn]; exact h1) (by rw [hn]; exact h2) hS M.2.2.2.2.2.2.2.1 (by decide) (by decide) (by decide) (by decide) (by decide) (by decide) (by decide) rfl rfl hcells hslots (fun c => (arrV_new c 8 (.int 0))) d (fun q r cA H1 hr hrL g0 g1 g2 g3 => ?_)
  have e1 : cA = cG := va_RA_fun (g0.2 tys.length (cA, .array .int) (by rw [List.getElem?_append_right (Nat.le_refl _), Nat.sub_self]; rfl)).2 (M.2.2.2.2.2.1.2 t1 _ ht1).2
  subst e1
  have hW : (ws ++ [(q, .inl (cA, 8, .inr (.inr (.inr (.inr (fun i => if i < 8 then some (r i) else none))))))]) ++ va_pl ([] ++ (List.range 8).map r) (vr_up (fun _ => .inl (cI, 0, .inl (fun _ => 0))) ((List.range 8).map r) (.inl (cI, (8, .inl (fun _ => 0))))) = ws ++ ((q, .inl (cA, 8, .inr (.inr (.inr (.inr (fun i => if i < 8 then some (r i) else none)))))) :: (List.range 8).map (fun i => (r i, .inl (cI, 8, .inl (fun _ => 0))))) := by
    rw [List.append_assoc, List.nil_append]
    congr 1
    show _ :: va_pl _ _ = _ :: _
    congr 1
    unfold va_pl
    rw [List.map_map]
    apply List.map_congr_left
    intro i hi
    show (r i, vr_up _ _ _ (r i)) = _
    rw [vr_up_in (List.mem_map.mpr ⟨i, hi, rfl⟩)]
  rw [hW] at g1 g2
  have hcov := hOf_cov g2
  generalize hNs : ((q, Sum.inl (cA, 8, .inr (.inr (.inr (.inr (fun i => if i < 8 then some (r i) else none)))))) :: (List.range 8).map (fun i => (r i, Sum.inl (cI, 8, .inl (fun _ => 0)))) : va_W) = ns at g1 g2 hcov
  have hat : ∀ (j : Nat) (p : Nat × va_E), ns[j]? = some p → (ws ++ ns)[ws.length + j]? = some p := fun j p hj => by rw [List.getElem?_append_right (by omega), Nat.add_sub_cancel_left]; exact hj
  have hold : ∀ (j : Nat) (p : Nat × va_E), ws[j]? = some p → (ws ++ ns)[j]? = some p := fun j p hj => by rw [List.getElem?_append_left (List.getElem?_eq_some_iff.mp hj).1]; exact hj
  have hfin : AW l D cl R nL X (cells + 9) (slots + 72) (hOf (ws ++ ns)) (pc + 4) lv (.ref q :: rest) := by
    refine k q r _ ?_
    rw [hNs]
    refine hP.many (fun j p hj => ⟨(hcov p.1 p.2).mpr ⟨_, hat j p hj⟩, ?_⟩) (fun i j p p2 hi hj he => ?_) (fun a ha => ?_)
    · cases hh : h p.1 with
      | none => rfl
      | some c =>
        obtain ⟨j2, hj2⟩ := (h3 _ _).mp hh
        have := g2.1 _ _ _ _ (hat j p hj) (hold j2 _ hj2) rfl
        have := (List.getElem?_eq_some_iff.mp hj2).1
        omega
    · have := g2.1 _ _ _ _ (hat i p hi) (hat j p2 hj) he
      omega
    · cases hh : h a with
      | none =>
        cases hh2 : hOf (ws ++ ns) a with
        | none => rfl
        | some c =>
          obtain ⟨j, hj⟩ := (hcov a c).mp hh2
          by_cases hl : j < ws.length
          · rw [List.getElem?_append_left hl] at hj
            rw [(h3 a c).mpr ⟨j, hj⟩] at hh
            cases hh
          · rw [List.getElem?_append_right (by omega)] at hj
            exact absurd hj (ha _ c)
      | some c =>
        obtain ⟨j, hj⟩ := (h3 a c).mp hh
        exact (hcov a c).mpr ⟨j, hold j _ hj⟩
  exact hfin H1 locs ls ⟨_, g1, g2, hcov⟩ g3 hl
end PR
