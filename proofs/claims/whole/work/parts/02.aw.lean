/-! the layer AW: a method's walk over a map from addresses to cells -/
abbrev AH : Type := Nat → Option va_E
def ah_set (h : AH) (a : Nat) (c : va_E) : AH := fun q => if q = a then some c else h q
theorem ah_same {h : AH} {a : Nat} {c : va_E} : ah_set h a c a = some c := by simp [ah_set]
theorem ah_ne {h : AH} {a q : Nat} {c : va_E} (hq : q ≠ a) : ah_set h a c q = h q := by simp [ah_set, hq]
/-- the map as a list of cells -/
def ah_cov (h : AH) (ws : va_W) : Prop := ∀ (a : Nat) (c : va_E), h a = some c ↔ ∃ k : Nat, ws[k]? = some (a, c)
/-- the heap holds the map's cells, and they lie in A -/
def XP (D : va_G) (cl : List vw_C) (A : Nat → Prop) (h : AH) (H : Heap) : Prop := ∃ ws : va_W, va_P D cl ws H ∧ va_D A ws ∧ ah_cov h ws
theorem ah_cov_set {A : Nat → Prop} {h : AH} {ws : va_W} (hc : ah_cov h ws) (hD : va_D A ws) {a k : Nat} {e e1 : va_E} (hk : ws[k]? = some (a, e)) : ah_cov (ah_set h a e1) (ws.set k (a, e1)) := by
  have hl := (List.getElem?_eq_some_iff.mp hk).1
  intro q c
  by_cases hq : q = a
  · subst hq
    rw [ah_same]
    constructor
    · intro h1
      cases h1
      exact ⟨k, List.getElem?_set_self hl⟩
    · rintro ⟨j, hj⟩
      by_cases hjk : j = k
      · subst hjk
        rw [List.getElem?_set_self hl] at hj
        cases hj
        rfl
      · rw [List.getElem?_set_ne (Ne.symm hjk)] at hj
        exact absurd (hD.1 j k _ _ hj hk rfl) hjk
  · rw [ah_ne hq, hc q c]
    constructor
    · rintro ⟨j, hj⟩
      have hjk : j ≠ k := by
        intro e2
        subst e2
        rw [hk] at hj
        cases hj
        exact hq rfl
      exact ⟨j, by rw [List.getElem?_set_ne (Ne.symm hjk)]; exact hj⟩
    · rintro ⟨j, hj⟩
      by_cases hjk : j = k
      · subst hjk
        rw [List.getElem?_set_self hl] at hj
        cases hj
        exact absurd rfl hq
      · rw [List.getElem?_set_ne (Ne.symm hjk)] at hj
        exact ⟨j, hj⟩
theorem ah_cov_push {A : Nat → Prop} {h : AH} {ws : va_W} (hc : ah_cov h ws) {a : Nat} {e1 : va_E} (hD : va_D A (ws ++ [(a, e1)])) : h a = none ∧ ah_cov (ah_set h a e1) (ws ++ [(a, e1)]) := by
  have hlast : (ws ++ [(a, e1)])[ws.length]? = some (a, e1) := by rw [List.getElem?_append_right (Nat.le_refl _), Nat.sub_self]; rfl
  have key : ∀ (j : Nat) (c : va_E), ws[j]? ≠ some (a, c) := by
    intro j c hj
    have hl := (List.getElem?_eq_some_iff.mp hj).1
    have h1 : (ws ++ [(a, e1)])[j]? = some (a, c) := by rw [List.getElem?_append_left hl]; exact hj
    have := hD.1 j ws.length _ _ h1 hlast rfl
    omega
  refine ⟨?_, ?_⟩
  · cases hh : h a with
    | none => rfl
    | some c =>
      obtain ⟨j, hj⟩ := (hc a c).mp hh
      exact absurd hj (key j c)
  · intro q c
    by_cases hq : q = a
    · subst hq
      rw [ah_same]
      constructor
      · intro h1
        cases h1
        exact ⟨_, hlast⟩
      · rintro ⟨j, hj⟩
        have h2 := hD.1 j ws.length _ _ hj hlast rfl
        subst h2
        rw [hlast] at hj
        cases hj
        rfl
    · rw [ah_ne hq, hc q c]
      constructor
      · rintro ⟨j, hj⟩
        exact ⟨j, by rw [List.getElem?_append_left (List.getElem?_eq_some_iff.mp hj).1]; exact hj⟩
      · rintro ⟨j, hj⟩
        by_cases hl : j < ws.length
        · rw [List.getElem?_append_left hl] at hj
          exact ⟨j, hj⟩
        · rw [List.getElem?_append_right (by omega)] at hj
          have hz : j - ws.length < 1 := (List.getElem?_eq_some_iff.mp hj).1
          rw [show j - ws.length = 0 by omega] at hj
          cases hj
          exact absurd rfl hq
/-- which cells a method may change: those of its map, and those that it makes -/
def ah_A (h : AH) (sz : Nat) : Nat → Prop := fun q => h q ≠ none ∨ sz ≤ q
theorem XP.weaken {D : va_G} {cl : List vw_C} {A B : Nat → Prop} {h : AH} {H : Heap} (hP : XP D cl A h H) (hAB : ∀ q, A q → B q) : XP D cl B h H := by
  obtain ⟨ws, h1, h2, h3⟩ := hP
  exact ⟨ws, h1, h2.weaken (fun _ _ _ hq => hAB _ hq), h3⟩
theorem XP.self {D : va_G} {cl : List vw_C} {A : Nat → Prop} {h : AH} {H : Heap} (hP : XP D cl A h H) (sz : Nat) : XP D cl (ah_A h sz) h H := by
  obtain ⟨ws, h1, h2, h3⟩ := hP
  refine ⟨ws, h1, ⟨h2.1, fun k q hk => Or.inl ?_⟩, h3⟩
  rw [(h3 q.1 q.2).mpr ⟨k, hk⟩]
  exact fun hn => by cases hn
theorem XP.in {D : va_G} {cl : List vw_C} {A : Nat → Prop} {h : AH} {H : Heap} (hP : XP D cl A h H) {q : Nat} (hq : h q ≠ none) : A q := by
  obtain ⟨ws, h1, h2, h3⟩ := hP
  cases hh : h q with
  | none => exact absurd hh hq
  | some c =>
    obtain ⟨k, hk⟩ := (h3 q c).mp hh
    exact h2.2 k _ hk
/-- what stays along a walk: program, env, start, method, arguments, frames below, its method, its code, region, end -/
abbrev CX : Type := Program × Env × State × MethodId × Array Value × List Frame × Method × Code × (Nat → Prop) × (State → Prop)
abbrev xp (X : CX) : Program := X.1
abbrev xe (X : CX) : Env := X.2.1
abbrev xs (X : CX) : State := X.2.2.1
abbrev xm (X : CX) : MethodId := X.2.2.2.1
abbrev xa (X : CX) : Array Value := X.2.2.2.2.1
abbrev xb (X : CX) : List Frame := X.2.2.2.2.2.1
abbrev xh (X : CX) : Method := X.2.2.2.2.2.2.1
abbrev xc (X : CX) : Code := X.2.2.2.2.2.2.2.1
abbrev xA (X : CX) : Nat → Prop := X.2.2.2.2.2.2.2.2.1
abbrev xQ (X : CX) : State → Prop := X.2.2.2.2.2.2.2.2.2
def AW (l : Launch) (D : va_G) (cl : List vw_C) (R : Room) (nL : Nat) (X : CX) (cells slots : Nat) (h : AH) (pc : Nat) (lv : List (Nat × Value)) (st : List Value) : Prop :=
  ∀ (H : Heap) (locs : List Loc) (ls : Array Slot), XP D cl (xA X) h H → va_S (xA X) (xs X).heap H locs → lv_has ls nL lv →
    W (xp X) l (xe X) R (xs X) (xm X) (xa X) (xb X) (xh X) (xc X) H locs cells slots (xQ X) (F0 (xm X) pc ls st)
/-- words on nest mates: they hold along a run, but not by the general law -/
def nw_b : Cond → Bool
  | .fieldLinkNest .. => true
  | .methodLinkNest .. => true
  | .arrayOver (.object _) => true
  | .arrayOver (.array _) => true
  | _ => false
theorem nw_warm {w : Cond} (hw : nw_b w = true) {s U : State} (hW : s.WarmedH U.vm) (h : va_Nw w s) : va_Nw w U := by
  cases w with
  | fieldLinkNest a i b n d c => exact va_Nw.warmF hW h
  | methodLinkNest a i x c => exact va_Nw.warmM hW h
  | arrayOver t =>
    cases t with
    | object C => exact va_AO.moved hW.alike h
    | array t => exact over_moved hW.alike h
    | _ => cases hw
  | _ => cases hw
theorem nw_same {w : Cond} (hw : nw_b w = true) {s U : State} (he : s.vm = U.vm) (h : va_Nw w s) : va_Nw w U := by
  have hal : s.vm.Alike U.vm := by rw [he]; exact Vm.Alike.refl _
  cases w with
  | fieldLinkNest a i b n d c => exact va_Nw.same rfl he h
  | methodLinkNest a i x c => exact va_Nw.same rfl he h
  | arrayOver t =>
    cases t with
    | object C => exact va_AO.moved hal h
    | array t => exact over_moved hal h
    | _ => cases hw
  | _ => cases hw
/-- what a walk knows: its code, its own class's name, its words, the array classes -/
def Mx (D : va_G) (cl : List vw_C) (nL : Nat) (X : CX) (cc : ByteArray) (own : String) (Ts : List Cond) (tys : List (ClassId × FieldType)) (NN : List Cond) : Prop :=
  (xp X).tables.exec = Jvm.exec ∧ (xc X).code = cc ∧ (xc X).maxLocals = nL ∧ (xs X).vm.findClass own = some (xm X).cls ∧ (∀ w ∈ Ts, w.before (xa X) (xs X) = true) ∧ va_K D cl tys (xs X) ∧ (xh X).locks = false ∧ (∀ q, (xs X).heap.size ≤ q → xA X q) ∧ ∀ w ∈ NN, nw_b w = true ∧ va_Nw w (xs X)
/-- a method's end -/
def Qx (D : va_G) (cl : List vw_C) (A : Nat → Prop) (post : Option Value → AH → Prop) : Array Value → State → Outcome → State → Prop := fun _ st oc t => (∃ (r : Option Value) (h' : AH), oc = .returned r ∧ post r h' ∧ XP D cl A h' t.heap) ∧ va_F A st t
def Rx (D : va_G) (cl : List vw_C) (R : Room) (X : CX) (ret : Option FieldType) (post : Option Value → AH → Prop) : Prop :=
  xQ X = MQ (xb X) (Qx D cl (xA X) post) (xa X) (xs X) R.cells R.slots (xA X) ∧ (xh X).sig.returnType = ret
/-- a contract: from the map h with these arguments the method returns, with post -/
def AC (l : Launch) (D : va_G) (cl : List vw_C) (tys : List (ClassId × FieldType)) (NN : List Cond) (y : MethodName) (ws : List Cond) (rm : Room) (av : List Value) (h : AH) (post : Option Value → AH → Prop) : Prop :=
  ∀ sz : Nat, Met l y ws rm (va_Pc av (fun U => U.heap.size = sz ∧ XP D cl (fun _ => True) h U.heap ∧ va_K D cl tys U ∧ ∀ w ∈ NN, nw_b w = true ∧ va_Nw w U)) (Qx D cl (ah_A h sz) post) rm.cells rm.slots (ah_A h sz)
section AX
variable {l : Launch} {D : va_G} {cl : List vw_C} {R : Room} {nL : Nat} {X : CX} {cc : ByteArray} {own : String} {Ts : List Cond} {tys : List (ClassId × FieldType)} {NN : List Cond} {cells slots pc : Nat} {h : AH} {lv lv' : List (Nat × Value)} {rest : List Value}
theorem ax_iconst (M : Mx D cl nL X cc own Ts tys NN) {n : Int} {v : Int32} (d : decode cc pc = .ok (.iconst n, 1)) (hv : Int32.ofInt n = v) (k : AW l D cl R nL X cells slots h (pc + 1) lv (.int v :: rest)) : AW l D cl R nL X cells slots h pc lv (rest) := fun H locs ls hP hS hl => lv_iconst M.1 M.2.1 d hv (k H locs ls hP hS hl)
theorem ax_bipush (M : Mx D cl nL X cc own Ts tys NN) {n : Int} {v : Int32} (d : decode cc pc = .ok (.bipush n, 2)) (hv : (Int8.ofInt n).toInt32 = v) (k : AW l D cl R nL X cells slots h (pc + 2) lv (.int v :: rest)) : AW l D cl R nL X cells slots h pc lv (rest) := fun H locs ls hP hS hl => lv_bipush M.1 M.2.1 d hv (k H locs ls hP hS hl)
theorem ax_sipush (M : Mx D cl nL X cc own Ts tys NN) {n : Int} {v : Int32} (d : decode cc pc = .ok (.sipush n, 3)) (hv : (Int16.ofInt n).toInt32 = v) (k : AW l D cl R nL X cells slots h (pc + 3) lv (.int v :: rest)) : AW l D cl R nL X cells slots h pc lv (rest) := fun H locs ls hP hS hl => lv_sipush M.1 M.2.1 d hv (k H locs ls hP hS hl)
theorem ax_lconst (M : Mx D cl nL X cc own Ts tys NN) {n : Fin 2} {v : Int64} (d : decode cc pc = .ok (.lconst n, 1)) (hv : Int64.ofNat (n : Nat) = v) (k : AW l D cl R nL X cells slots h (pc + 1) lv (.long v :: rest)) : AW l D cl R nL X cells slots h pc lv (rest) := fun H locs ls hP hS hl => lv_lconst M.1 M.2.1 d hv (k H locs ls hP hS hl)
theorem ax_iload_n (M : Mx D cl nL X cc own Ts tys NN) {kf : Fin 4} {x : Int32} (d : decode cc pc = .ok (.iload_n kf, 1)) (j : Nat) (hj : lv[j]? = some ((kf : Nat), .int x)) (k : AW l D cl R nL X cells slots h (pc + 1) lv (.int x :: rest)) : AW l D cl R nL X cells slots h pc lv rest := fun H locs ls hP hS hl => lv_iload_n M.1 M.2.1 d rfl (lv_at hl j hj) (k H locs ls hP hS hl)
theorem ax_iload (M : Mx D cl nL X cc own Ts tys NN) {i : Nat} {x : Int32} (d : decode cc pc = .ok (.iload i, 2)) (j : Nat) (hj : lv[j]? = some (i, .int x)) (k : AW l D cl R nL X cells slots h (pc + 2) lv (.int x :: rest)) : AW l D cl R nL X cells slots h pc lv rest := fun H locs ls hP hS hl => lv_iload M.1 M.2.1 d (lv_at hl j hj) (k H locs ls hP hS hl)
theorem ax_lload_n (M : Mx D cl nL X cc own Ts tys NN) {kf : Fin 4} {x : Int64} (d : decode cc pc = .ok (.lload_n kf, 1)) (j : Nat) (hj : lv[j]? = some ((kf : Nat), .long x)) (k : AW l D cl R nL X cells slots h (pc + 1) lv (.long x :: rest)) : AW l D cl R nL X cells slots h pc lv rest := fun H locs ls hP hS hl => lv_lload_n M.1 M.2.1 d rfl (lv_at hl j hj) (k H locs ls hP hS hl)
theorem ax_lload (M : Mx D cl nL X cc own Ts tys NN) {i : Nat} {x : Int64} (d : decode cc pc = .ok (.lload i, 2)) (j : Nat) (hj : lv[j]? = some (i, .long x)) (k : AW l D cl R nL X cells slots h (pc + 2) lv (.long x :: rest)) : AW l D cl R nL X cells slots h pc lv rest := fun H locs ls hP hS hl => lv_lload M.1 M.2.1 d (lv_at hl j hj) (k H locs ls hP hS hl)
theorem ax_aload_n (M : Mx D cl nL X cc own Ts tys NN) {kf : Fin 4} {x : Nat} (d : decode cc pc = .ok (.aload_n kf, 1)) (j : Nat) (hj : lv[j]? = some ((kf : Nat), .ref x)) (k : AW l D cl R nL X cells slots h (pc + 1) lv (.ref x :: rest)) : AW l D cl R nL X cells slots h pc lv rest := fun H locs ls hP hS hl => lv_aload_n M.1 M.2.1 d rfl (lv_at hl j hj) (k H locs ls hP hS hl)
theorem ax_aload (M : Mx D cl nL X cc own Ts tys NN) {i : Nat} {x : Nat} (d : decode cc pc = .ok (.aload i, 2)) (j : Nat) (hj : lv[j]? = some (i, .ref x)) (k : AW l D cl R nL X cells slots h (pc + 2) lv (.ref x :: rest)) : AW l D cl R nL X cells slots h pc lv rest := fun H locs ls hP hS hl => lv_aload M.1 M.2.1 d (lv_at hl j hj) (k H locs ls hP hS hl)
theorem ax_istore_n (M : Mx D cl nL X cc own Ts tys NN) {kf : Fin 4} {x : Int32} (d : decode cc pc = .ok (.istore_n kf, 1)) (hn : (kf : Nat) < nL) (js : List Nat) (hl' : lv_pick (((kf : Nat), Value.int x) :: lv.filter (fun q => !(q.1 == (kf : Nat)) && !(q.1 + 1 == (kf : Nat) && q.2.category == 2))) js = lv') (k : AW l D cl R nL X cells slots h (pc + 1) lv' rest) : AW l D cl R nL X cells slots h pc lv (.int x :: rest) := fun H locs ls hP hS hl => lv_istore_n M.1 M.2.1 d rfl hl hn rfl (fun ls' hl2 => k H locs ls' hP hS (lv_sub hl2 js hl'))
theorem ax_istore (M : Mx D cl nL X cc own Ts tys NN) {i : Nat} {x : Int32} (d : decode cc pc = .ok (.istore i, 2)) (hn : i < nL) (js : List Nat) (hl' : lv_pick ((i, Value.int x) :: lv.filter (fun q => !(q.1 == i) && !(q.1 + 1 == i && q.2.category == 2))) js = lv') (k : AW l D cl R nL X cells slots h (pc + 2) lv' rest) : AW l D cl R nL X cells slots h pc lv (.int x :: rest) := fun H locs ls hP hS hl => lv_istore M.1 M.2.1 d hl hn rfl (fun ls' hl2 => k H locs ls' hP hS (lv_sub hl2 js hl'))
theorem ax_astore_n (M : Mx D cl nL X cc own Ts tys NN) {kf : Fin 4} {x : Nat} (d : decode cc pc = .ok (.astore_n kf, 1)) (hn : (kf : Nat) < nL) (js : List Nat) (hl' : lv_pick (((kf : Nat), Value.ref x) :: lv.filter (fun q => !(q.1 == (kf : Nat)) && !(q.1 + 1 == (kf : Nat) && q.2.category == 2))) js = lv') (k : AW l D cl R nL X cells slots h (pc + 1) lv' rest) : AW l D cl R nL X cells slots h pc lv (.ref x :: rest) := fun H locs ls hP hS hl => lv_astore_n M.1 M.2.1 d rfl hl hn rfl (fun ls' hl2 => k H locs ls' hP hS (lv_sub hl2 js hl'))
theorem ax_astore (M : Mx D cl nL X cc own Ts tys NN) {i : Nat} {x : Nat} (d : decode cc pc = .ok (.astore i, 2)) (hn : i < nL) (js : List Nat) (hl' : lv_pick ((i, Value.ref x) :: lv.filter (fun q => !(q.1 == i) && !(q.1 + 1 == i && q.2.category == 2))) js = lv') (k : AW l D cl R nL X cells slots h (pc + 2) lv' rest) : AW l D cl R nL X cells slots h pc lv (.ref x :: rest) := fun H locs ls hP hS hl => lv_astore M.1 M.2.1 d hl hn rfl (fun ls' hl2 => k H locs ls' hP hS (lv_sub hl2 js hl'))
theorem ax_lstore_n (M : Mx D cl nL X cc own Ts tys NN) {kf : Fin 4} {x : Int64} (d : decode cc pc = .ok (.lstore_n kf, 1)) (hn : (kf : Nat) + 1 < nL) (js : List Nat) (hl' : lv_pick (((kf : Nat), Value.long x) :: lv.filter (fun q => !(q.1 == (kf : Nat)) && (!(q.1 == (kf : Nat) + 1) && !(q.1 + 1 == (kf : Nat) && q.2.category == 2)))) js = lv') (k : AW l D cl R nL X cells slots h (pc + 1) lv' rest) : AW l D cl R nL X cells slots h pc lv (.long x :: rest) := fun H locs ls hP hS hl => lv_lstore_n M.1 M.2.1 d rfl hl hn rfl (fun ls' hl2 => k H locs ls' hP hS (lv_sub hl2 js hl'))
theorem ax_lstore (M : Mx D cl nL X cc own Ts tys NN) {i : Nat} {x : Int64} (d : decode cc pc = .ok (.lstore i, 2)) (hn : i + 1 < nL) (js : List Nat) (hl' : lv_pick ((i, Value.long x) :: lv.filter (fun q => !(q.1 == i) && (!(q.1 == i + 1) && !(q.1 + 1 == i && q.2.category == 2)))) js = lv') (k : AW l D cl R nL X cells slots h (pc + 2) lv' rest) : AW l D cl R nL X cells slots h pc lv (.long x :: rest) := fun H locs ls hP hS hl => lv_lstore M.1 M.2.1 d hl hn rfl (fun ls' hl2 => k H locs ls' hP hS (lv_sub hl2 js hl'))
theorem ax_iinc (M : Mx D cl nL X cc own Ts tys NN) {i : Nat} {n : Int} {x v : Int32} (d : decode cc pc = .ok (.iinc i n, 3)) (j : Nat) (hj : lv[j]? = some (i, .int x)) (hv : x + Int32.ofInt n = v) (hn : i < nL) (js : List Nat) (hl' : lv_pick ((i, Value.int v) :: lv.filter (fun q => !(q.1 == i) && !(q.1 + 1 == i && q.2.category == 2))) js = lv') (k : AW l D cl R nL X cells slots h (pc + 3) lv' rest) : AW l D cl R nL X cells slots h pc lv rest := fun H locs ls hP hS hl => lv_iinc M.1 M.2.1 d hl hj hv hn rfl (fun ls' hl2 => k H locs ls' hP hS (lv_sub hl2 js hl'))
theorem ax_lv (js : List Nat) (hl' : lv_pick lv js = lv') (k : AW l D cl R nL X cells slots h pc lv' rest) : AW l D cl R nL X cells slots h pc lv rest := fun H locs ls hP hS hl => k H locs ls hP hS (lv_sub hl js hl')
theorem ax_topi {x : Int32} (y : Int32) (e : x = y) (k : AW l D cl R nL X cells slots h pc lv (.int y :: rest)) : AW l D cl R nL X cells slots h pc lv (.int x :: rest) := by rw [e]; exact k
theorem ax_topl {x : Int64} (y : Int64) (e : x = y) (k : AW l D cl R nL X cells slots h pc lv (.long y :: rest)) : AW l D cl R nL X cells slots h pc lv (.long x :: rest) := by rw [e]; exact k
theorem ax_topr {x y : Nat} (e : x = y) (k : AW l D cl R nL X cells slots h pc lv (.ref y :: rest)) : AW l D cl R nL X cells slots h pc lv (.ref x :: rest) := by rw [e]; exact k
theorem ax_widen {a b : Nat} (h1 : cells ≤ a) (h2 : slots ≤ b) (k : AW l D cl R nL X a b h pc lv rest) : AW l D cl R nL X cells slots h pc lv rest := fun H locs ls hP hS hl => W.widen h1 h2 (k H locs ls hP hS hl)
theorem ax_iadd (M : Mx D cl nL X cc own Ts tys NN) {x y : Int32} (d : decode cc pc = .ok (.iadd, 1))  (k : AW l D cl R nL X cells slots h (pc + 1) lv (.int (x + y) :: rest)) : AW l D cl R nL X cells slots h pc lv (.int y :: .int x :: rest) := fun H locs ls hP hS hl => lv_iadd M.1 M.2.1 d (k H locs ls hP hS hl)
theorem ax_isub (M : Mx D cl nL X cc own Ts tys NN) {x y : Int32} (d : decode cc pc = .ok (.isub, 1))  (k : AW l D cl R nL X cells slots h (pc + 1) lv (.int (x - y) :: rest)) : AW l D cl R nL X cells slots h pc lv (.int y :: .int x :: rest) := fun H locs ls hP hS hl => lv_isub M.1 M.2.1 d (k H locs ls hP hS hl)
theorem ax_imul (M : Mx D cl nL X cc own Ts tys NN) {x y : Int32} (d : decode cc pc = .ok (.imul, 1))  (k : AW l D cl R nL X cells slots h (pc + 1) lv (.int (x * y) :: rest)) : AW l D cl R nL X cells slots h pc lv (.int y :: .int x :: rest) := fun H locs ls hP hS hl => lv_imul M.1 M.2.1 d (k H locs ls hP hS hl)
theorem ax_iand (M : Mx D cl nL X cc own Ts tys NN) {x y : Int32} (d : decode cc pc = .ok (.iand, 1))  (k : AW l D cl R nL X cells slots h (pc + 1) lv (.int (x &&& y) :: rest)) : AW l D cl R nL X cells slots h pc lv (.int y :: .int x :: rest) := fun H locs ls hP hS hl => lv_iand M.1 M.2.1 d (k H locs ls hP hS hl)
theorem ax_ior (M : Mx D cl nL X cc own Ts tys NN) {x y : Int32} (d : decode cc pc = .ok (.ior, 1))  (k : AW l D cl R nL X cells slots h (pc + 1) lv (.int (x ||| y) :: rest)) : AW l D cl R nL X cells slots h pc lv (.int y :: .int x :: rest) := fun H locs ls hP hS hl => lv_ior M.1 M.2.1 d (k H locs ls hP hS hl)
theorem ax_ixor (M : Mx D cl nL X cc own Ts tys NN) {x y : Int32} (d : decode cc pc = .ok (.ixor, 1))  (k : AW l D cl R nL X cells slots h (pc + 1) lv (.int (x ^^^ y) :: rest)) : AW l D cl R nL X cells slots h pc lv (.int y :: .int x :: rest) := fun H locs ls hP hS hl => lv_ixor M.1 M.2.1 d (k H locs ls hP hS hl)
theorem ax_idiv (M : Mx D cl nL X cc own Ts tys NN) {x y : Int32} (d : decode cc pc = .ok (.idiv, 1)) (hne : ¬ y = 0) (k : AW l D cl R nL X cells slots h (pc + 1) lv (.int (x / y) :: rest)) : AW l D cl R nL X cells slots h pc lv (.int y :: .int x :: rest) := fun H locs ls hP hS hl => lv_idiv M.1 M.2.1 d hne (k H locs ls hP hS hl)
theorem ax_irem (M : Mx D cl nL X cc own Ts tys NN) {x y : Int32} (d : decode cc pc = .ok (.irem, 1)) (hne : ¬ y = 0) (k : AW l D cl R nL X cells slots h (pc + 1) lv (.int (x - x / y * y) :: rest)) : AW l D cl R nL X cells slots h pc lv (.int y :: .int x :: rest) := fun H locs ls hP hS hl => lv_irem M.1 M.2.1 d hne (k H locs ls hP hS hl)
theorem ax_ineg (M : Mx D cl nL X cc own Ts tys NN) {x : Int32} (d : decode cc pc = .ok (.ineg, 1))  (k : AW l D cl R nL X cells slots h (pc + 1) lv (.int (-x) :: rest)) : AW l D cl R nL X cells slots h pc lv (.int x :: rest) := fun H locs ls hP hS hl => lv_ineg M.1 M.2.1 d (k H locs ls hP hS hl)
theorem ax_ladd (M : Mx D cl nL X cc own Ts tys NN) {x y : Int64} (d : decode cc pc = .ok (.ladd, 1))  (k : AW l D cl R nL X cells slots h (pc + 1) lv (.long (x + y) :: rest)) : AW l D cl R nL X cells slots h pc lv (.long y :: .long x :: rest) := fun H locs ls hP hS hl => lv_ladd M.1 M.2.1 d (k H locs ls hP hS hl)
theorem ax_lsub (M : Mx D cl nL X cc own Ts tys NN) {x y : Int64} (d : decode cc pc = .ok (.lsub, 1))  (k : AW l D cl R nL X cells slots h (pc + 1) lv (.long (x - y) :: rest)) : AW l D cl R nL X cells slots h pc lv (.long y :: .long x :: rest) := fun H locs ls hP hS hl => lv_lsub M.1 M.2.1 d (k H locs ls hP hS hl)
theorem ax_lmul (M : Mx D cl nL X cc own Ts tys NN) {x y : Int64} (d : decode cc pc = .ok (.lmul, 1))  (k : AW l D cl R nL X cells slots h (pc + 1) lv (.long (x * y) :: rest)) : AW l D cl R nL X cells slots h pc lv (.long y :: .long x :: rest) := fun H locs ls hP hS hl => lv_lmul M.1 M.2.1 d (k H locs ls hP hS hl)
theorem ax_land (M : Mx D cl nL X cc own Ts tys NN) {x y : Int64} (d : decode cc pc = .ok (.land, 1))  (k : AW l D cl R nL X cells slots h (pc + 1) lv (.long (x &&& y) :: rest)) : AW l D cl R nL X cells slots h pc lv (.long y :: .long x :: rest) := fun H locs ls hP hS hl => lv_land M.1 M.2.1 d (k H locs ls hP hS hl)
theorem ax_ldiv (M : Mx D cl nL X cc own Ts tys NN) {x y : Int64} (d : decode cc pc = .ok (.ldiv, 1)) (hne : ¬ y = 0) (k : AW l D cl R nL X cells slots h (pc + 1) lv (.long (x / y) :: rest)) : AW l D cl R nL X cells slots h pc lv (.long y :: .long x :: rest) := fun H locs ls hP hS hl => lv_ldiv M.1 M.2.1 d hne (k H locs ls hP hS hl)
theorem ax_lrem (M : Mx D cl nL X cc own Ts tys NN) {x y : Int64} (d : decode cc pc = .ok (.lrem, 1)) (hne : ¬ y = 0) (k : AW l D cl R nL X cells slots h (pc + 1) lv (.long (x - x / y * y) :: rest)) : AW l D cl R nL X cells slots h pc lv (.long y :: .long x :: rest) := fun H locs ls hP hS hl => lv_lrem M.1 M.2.1 d hne (k H locs ls hP hS hl)
theorem ax_i2l (M : Mx D cl nL X cc own Ts tys NN) {x : Int32} {v : Int64} (d : decode cc pc = .ok (.i2l, 1)) (hv : x.toInt64 = v) (k : AW l D cl R nL X cells slots h (pc + 1) lv (.long v :: rest)) : AW l D cl R nL X cells slots h pc lv (.int x :: rest) := fun H locs ls hP hS hl => lv_i2l M.1 M.2.1 d hv (k H locs ls hP hS hl)
theorem ax_l2i (M : Mx D cl nL X cc own Ts tys NN) {x : Int64} {v : Int32} (d : decode cc pc = .ok (.l2i, 1)) (hv : x.toInt32 = v) (k : AW l D cl R nL X cells slots h (pc + 1) lv (.int v :: rest)) : AW l D cl R nL X cells slots h pc lv (.long x :: rest) := fun H locs ls hP hS hl => lv_l2i M.1 M.2.1 d hv (k H locs ls hP hS hl)
theorem ax_dup (M : Mx D cl nL X cc own Ts tys NN) {va : Value} (d : decode cc pc = .ok (.dup, 1)) (hva : va.category = 1) (k : AW l D cl R nL X cells slots h (pc + 1) lv (va :: va :: rest)) : AW l D cl R nL X cells slots h pc lv (va :: rest) := fun H locs ls hP hS hl => lv_dup M.1 M.2.1 d hva (k H locs ls hP hS hl)
theorem ax_pop (M : Mx D cl nL X cc own Ts tys NN) {va : Value} (d : decode cc pc = .ok (.pop, 1)) (hva : va.category = 1) (k : AW l D cl R nL X cells slots h (pc + 1) lv (rest)) : AW l D cl R nL X cells slots h pc lv (va :: rest) := fun H locs ls hP hS hl => lv_pop M.1 M.2.1 d hva (k H locs ls hP hS hl)
theorem ax_lcmp (M : Mx D cl nL X cc own Ts tys NN) {x y : Int64} (d : decode cc pc = .ok (.lcmp, 1))  (k : AW l D cl R nL X cells slots h (pc + 1) lv (.int (lg_cmp x y) :: rest)) : AW l D cl R nL X cells slots h pc lv (.long y :: .long x :: rest) := fun H locs ls hP hS hl => W.lcmp M.1 M.2.1 d (k H locs ls hP hS hl)
theorem ax_dup2_2 (M : Mx D cl nL X cc own Ts tys NN) {va : Value} (d : decode cc pc = .ok (.dup2, 1)) (hva : va.category = 2) (k : AW l D cl R nL X cells slots h (pc + 1) lv (va :: va :: rest)) : AW l D cl R nL X cells slots h pc lv (va :: rest) := fun H locs ls hP hS hl => lv_dup2_2 M.1 M.2.1 d hva (k H locs ls hP hS hl)
theorem ax_dup2_x2_2 (M : Mx D cl nL X cc own Ts tys NN) {va vb vd : Value} (d : decode cc pc = .ok (.dup2_x2, 1)) (hva : va.category = 2) (hvb : vb.category = 1) (hvd : vd.category = 1) (k : AW l D cl R nL X cells slots h (pc + 1) lv (va :: vb :: vd :: va :: rest)) : AW l D cl R nL X cells slots h pc lv (va :: vb :: vd :: rest) := fun H locs ls hP hS hl => lv_dup2_x2_2 M.1 M.2.1 d hva hvb hvd (k H locs ls hP hS hl)
theorem ax_dup_x1 (M : Mx D cl nL X cc own Ts tys NN) {va vb : Value} (d : decode cc pc = .ok (.dup_x1, 1)) (hva : va.category = 1) (hvb : vb.category = 1) (k : AW l D cl R nL X cells slots h (pc + 1) lv (va :: vb :: va :: rest)) : AW l D cl R nL X cells slots h pc lv (va :: vb :: rest) := fun H locs ls hP hS hl => lv_dup_x1 M.1 M.2.1 d hva hvb (k H locs ls hP hS hl)
theorem ax_dup_x2 (M : Mx D cl nL X cc own Ts tys NN) {va vb vd : Value} (d : decode cc pc = .ok (.dup_x2, 1)) (hva : va.category = 1) (hvb : vb.category = 1) (hvd : vd.category = 1) (k : AW l D cl R nL X cells slots h (pc + 1) lv (va :: vb :: vd :: va :: rest)) : AW l D cl R nL X cells slots h pc lv (va :: vb :: vd :: rest) := fun H locs ls hP hS hl => lv_dup_x2 M.1 M.2.1 d hva hvb hvd (k H locs ls hP hS hl)
theorem ax_dup2 (M : Mx D cl nL X cc own Ts tys NN) {va vb : Value} (d : decode cc pc = .ok (.dup2, 1)) (hva : va.category = 1) (hvb : vb.category = 1) (k : AW l D cl R nL X cells slots h (pc + 1) lv (va :: vb :: va :: vb :: rest)) : AW l D cl R nL X cells slots h pc lv (va :: vb :: rest) := fun H locs ls hP hS hl => lv_dup2_11 M.1 M.2.1 d hva hvb (k H locs ls hP hS hl)
theorem ax_if_eq (M : Mx D cl nL X cc own Ts tys NN) {x : Int32} {off : Int} {tgt : Nat} (d : decode cc pc = .ok (.ifCond .eq off, 3)) (ht : (pc : Int) + off = (tgt : Int)) (kt : x = 0 → AW l D cl R nL X cells slots h tgt lv rest) (kf : ¬ x = 0 → AW l D cl R nL X cells slots h (pc + 3) lv rest) : AW l D cl R nL X cells slots h pc lv (.int x :: rest) := fun H locs ls hP hS hl => lv_if_eq M.1 M.2.1 d ht (fun z => kt z H locs ls hP hS hl) (fun z => kf z H locs ls hP hS hl)
theorem ax_icmp_eq (M : Mx D cl nL X cc own Ts tys NN) {x y : Int32} {off : Int} {tgt : Nat} (d : decode cc pc = .ok (.if_icmp .eq off, 3)) (ht : (pc : Int) + off = (tgt : Int)) (kt : x = y → AW l D cl R nL X cells slots h tgt lv rest) (kf : ¬ x = y → AW l D cl R nL X cells slots h (pc + 3) lv rest) : AW l D cl R nL X cells slots h pc lv (.int y :: .int x :: rest) := fun H locs ls hP hS hl => lv_icmp_eq M.1 M.2.1 d ht (fun z => kt z H locs ls hP hS hl) (fun z => kf z H locs ls hP hS hl)
theorem ax_if_lt (M : Mx D cl nL X cc own Ts tys NN) {x : Int32} {off : Int} {tgt : Nat} (d : decode cc pc = .ok (.ifCond .lt off, 3)) (ht : (pc : Int) + off = (tgt : Int)) (kt : x < 0 → AW l D cl R nL X cells slots h tgt lv rest) (kf : ¬ x < 0 → AW l D cl R nL X cells slots h (pc + 3) lv rest) : AW l D cl R nL X cells slots h pc lv (.int x :: rest) := fun H locs ls hP hS hl => lv_if_lt M.1 M.2.1 d ht (fun z => kt z H locs ls hP hS hl) (fun z => kf z H locs ls hP hS hl)
theorem ax_icmp_lt (M : Mx D cl nL X cc own Ts tys NN) {x y : Int32} {off : Int} {tgt : Nat} (d : decode cc pc = .ok (.if_icmp .lt off, 3)) (ht : (pc : Int) + off = (tgt : Int)) (kt : x < y → AW l D cl R nL X cells slots h tgt lv rest) (kf : ¬ x < y → AW l D cl R nL X cells slots h (pc + 3) lv rest) : AW l D cl R nL X cells slots h pc lv (.int y :: .int x :: rest) := fun H locs ls hP hS hl => lv_icmp_lt M.1 M.2.1 d ht (fun z => kt z H locs ls hP hS hl) (fun z => kf z H locs ls hP hS hl)
theorem ax_if_ge (M : Mx D cl nL X cc own Ts tys NN) {x : Int32} {off : Int} {tgt : Nat} (d : decode cc pc = .ok (.ifCond .ge off, 3)) (ht : (pc : Int) + off = (tgt : Int)) (kt : 0 ≤ x → AW l D cl R nL X cells slots h tgt lv rest) (kf : ¬ 0 ≤ x → AW l D cl R nL X cells slots h (pc + 3) lv rest) : AW l D cl R nL X cells slots h pc lv (.int x :: rest) := fun H locs ls hP hS hl => lv_if_ge M.1 M.2.1 d ht (fun z => kt z H locs ls hP hS hl) (fun z => kf z H locs ls hP hS hl)
theorem ax_icmp_ge (M : Mx D cl nL X cc own Ts tys NN) {x y : Int32} {off : Int} {tgt : Nat} (d : decode cc pc = .ok (.if_icmp .ge off, 3)) (ht : (pc : Int) + off = (tgt : Int)) (kt : y ≤ x → AW l D cl R nL X cells slots h tgt lv rest) (kf : ¬ y ≤ x → AW l D cl R nL X cells slots h (pc + 3) lv rest) : AW l D cl R nL X cells slots h pc lv (.int y :: .int x :: rest) := fun H locs ls hP hS hl => lv_icmp_ge M.1 M.2.1 d ht (fun z => kt z H locs ls hP hS hl) (fun z => kf z H locs ls hP hS hl)
theorem ax_if_gt (M : Mx D cl nL X cc own Ts tys NN) {x : Int32} {off : Int} {tgt : Nat} (d : decode cc pc = .ok (.ifCond .gt off, 3)) (ht : (pc : Int) + off = (tgt : Int)) (kt : 0 < x → AW l D cl R nL X cells slots h tgt lv rest) (kf : ¬ 0 < x → AW l D cl R nL X cells slots h (pc + 3) lv rest) : AW l D cl R nL X cells slots h pc lv (.int x :: rest) := fun H locs ls hP hS hl => lv_if_gt M.1 M.2.1 d ht (fun z => kt z H locs ls hP hS hl) (fun z => kf z H locs ls hP hS hl)
theorem ax_icmp_gt (M : Mx D cl nL X cc own Ts tys NN) {x y : Int32} {off : Int} {tgt : Nat} (d : decode cc pc = .ok (.if_icmp .gt off, 3)) (ht : (pc : Int) + off = (tgt : Int)) (kt : y < x → AW l D cl R nL X cells slots h tgt lv rest) (kf : ¬ y < x → AW l D cl R nL X cells slots h (pc + 3) lv rest) : AW l D cl R nL X cells slots h pc lv (.int y :: .int x :: rest) := fun H locs ls hP hS hl => lv_icmp_gt M.1 M.2.1 d ht (fun z => kt z H locs ls hP hS hl) (fun z => kf z H locs ls hP hS hl)
theorem ax_if_le (M : Mx D cl nL X cc own Ts tys NN) {x : Int32} {off : Int} {tgt : Nat} (d : decode cc pc = .ok (.ifCond .le off, 3)) (ht : (pc : Int) + off = (tgt : Int)) (kt : x ≤ 0 → AW l D cl R nL X cells slots h tgt lv rest) (kf : ¬ x ≤ 0 → AW l D cl R nL X cells slots h (pc + 3) lv rest) : AW l D cl R nL X cells slots h pc lv (.int x :: rest) := fun H locs ls hP hS hl => lv_if_le M.1 M.2.1 d ht (fun z => kt z H locs ls hP hS hl) (fun z => kf z H locs ls hP hS hl)
theorem ax_icmp_le (M : Mx D cl nL X cc own Ts tys NN) {x y : Int32} {off : Int} {tgt : Nat} (d : decode cc pc = .ok (.if_icmp .le off, 3)) (ht : (pc : Int) + off = (tgt : Int)) (kt : x ≤ y → AW l D cl R nL X cells slots h tgt lv rest) (kf : ¬ x ≤ y → AW l D cl R nL X cells slots h (pc + 3) lv rest) : AW l D cl R nL X cells slots h pc lv (.int y :: .int x :: rest) := fun H locs ls hP hS hl => lv_icmp_le M.1 M.2.1 d ht (fun z => kt z H locs ls hP hS hl) (fun z => kf z H locs ls hP hS hl)
theorem ax_if_ne (M : Mx D cl nL X cc own Ts tys NN) {x : Int32} {off : Int} {tgt : Nat} (d : decode cc pc = .ok (.ifCond .ne off, 3)) (ht : (pc : Int) + off = (tgt : Int)) (kt : ¬ x = 0 → AW l D cl R nL X cells slots h tgt lv rest) (kf : x = 0 → AW l D cl R nL X cells slots h (pc + 3) lv rest) : AW l D cl R nL X cells slots h pc lv (.int x :: rest) := fun H locs ls hP hS hl => lv_if_ne M.1 M.2.1 d ht (fun z => kt z H locs ls hP hS hl) (fun z => kf z H locs ls hP hS hl)
theorem ax_icmp_ne (M : Mx D cl nL X cc own Ts tys NN) {x y : Int32} {off : Int} {tgt : Nat} (d : decode cc pc = .ok (.if_icmp .ne off, 3)) (ht : (pc : Int) + off = (tgt : Int)) (kt : ¬ x = y → AW l D cl R nL X cells slots h tgt lv rest) (kf : x = y → AW l D cl R nL X cells slots h (pc + 3) lv rest) : AW l D cl R nL X cells slots h pc lv (.int y :: .int x :: rest) := fun H locs ls hP hS hl => lv_icmp_ne M.1 M.2.1 d ht (fun z => kt z H locs ls hP hS hl) (fun z => kf z H locs ls hP hS hl)
theorem ax_goto (M : Mx D cl nL X cc own Ts tys NN) {off : Int} {tgt : Nat} (d : decode cc pc = .ok (.goto off, 3)) (ht : (pc : Int) + off = (tgt : Int)) (k : AW l D cl R nL X cells slots h tgt lv rest) : AW l D cl R nL X cells slots h pc lv rest := fun H locs ls hP hS hl => lv_goto M.1 M.2.1 d ht (k H locs ls hP hS hl)
theorem ax_tableOut (M : Mx D cl nL X cc own Ts tys NN) {dflt lo hi : Int} {offs : Array Int} {len : Nat} {x : Int32} {tgt : Nat} (d : decode cc pc = .ok (.tableswitch dflt lo hi offs, len)) (hx : x.toInt < lo ∨ hi < x.toInt) (ht : (pc : Int) + dflt = (tgt : Int)) (k : AW l D cl R nL X cells slots h tgt lv rest) : AW l D cl R nL X cells slots h pc lv (.int x :: rest) := fun H locs ls hP hS hl => lv_tableOut M.1 M.2.1 d hx ht (k H locs ls hP hS hl)
theorem ax_tableIn (M : Mx D cl nL X cc own Ts tys NN) {dflt lo hi : Int} {offs : Array Int} {len : Nat} {x : Int32} {off : Int} {tgt : Nat} (d : decode cc pc = .ok (.tableswitch dflt lo hi offs, len)) (h1 : ¬ x.toInt < lo) (h2 : ¬ hi < x.toInt) (ho : offs[(x.toInt - lo).toNat]? = some off) (ht : (pc : Int) + off = (tgt : Int)) (k : AW l D cl R nL X cells slots h tgt lv rest) : AW l D cl R nL X cells slots h pc lv (.int x :: rest) := fun H locs ls hP hS hl => lv_tableIn M.1 M.2.1 d h1 h2 ho ht (k H locs ls hP hS hl)
theorem ax_lookup (M : Mx D cl nL X cc own Ts tys NN) {dflt : Int} {ps : Array (Int × Int)} {len : Nat} {x : Int32} {off : Int} {tgt : Nat} (d : decode cc pc = .ok (.lookupswitch dflt ps, len)) (hp : (ps.toList.zip (ps.toList.drop 1)).all (fun (a, next) => a.1 < next.1) = true) (ho : Op.lookupswitch.offset ps.toList dflt x.toInt = off) (ht : (pc : Int) + off = (tgt : Int)) (k : AW l D cl R nL X cells slots h tgt lv rest) : AW l D cl R nL X cells slots h pc lv (.int x :: rest) := fun H locs ls hP hS hl => lv_lookup M.1 M.2.1 d hp ho ht (k H locs ls hP hS hl)
theorem ax_ldc (M : Mx D cl nL X cc own Ts tys NN) {index : Nat} {v : Int32} (hc : Jvm.Cond.constant own index v ∈ Ts) (d : decode cc pc = .ok (.ldc index, 2)) (k : AW l D cl R nL X cells slots h (pc + 2) lv (.int v :: rest)) : AW l D cl R nL X cells slots h pc lv rest := fun H locs ls hP hS hl => lv_ldc M.1 M.2.1 M.2.2.2.1 (M.2.2.2.2.1 _ hc) d (k H locs ls hP hS hl)
theorem ax_ldc2 (M : Mx D cl nL X cc own Ts tys NN) {index : Nat} {v : Int64} (hc : Jvm.Cond.constantLong own index v ∈ Ts) (d : decode cc pc = .ok (.ldc2_w index, 3)) (k : AW l D cl R nL X cells slots h (pc + 3) lv (.long v :: rest)) : AW l D cl R nL X cells slots h pc lv rest := fun H locs ls hP hS hl => lv_ldc2 M.1 M.2.1 M.2.2.2.1 (M.2.2.2.2.1 _ hc) d (k H locs ls hP hS hl)
/-- fields: of the own class, of a nest mate's -/
theorem ax_get (M : Mx D cl nL X cc own Ts tys NN) {C : String} {T : u_T} {N ci index a : Nat} (hin : ∀ w ∈ u_ws C T N, w ∈ Ts) {fs : List Value} (ha : h a = some (.inr (ci, fs))) (hc : cl[ci]? = some (C, T, N)) (k0 : Nat) (hk : k0 < N) (hlink : Cond.fieldLink own index (T k0).1 (T k0).2.1 (T k0).2.2.1 ∈ Ts) {v : Value} (hv : fs[k0]? = some v) (d : decode cc pc = .ok (.getfield index, 3)) (k : AW l D cl R nL X cells slots h (pc + 3) lv (v :: rest)) : AW l D cl R nL X cells slots h pc lv (.ref a :: rest) := fun H locs ls hP hS hl => by
  obtain ⟨ws, h1, h2, h3⟩ := id hP
  obtain ⟨q, hq⟩ := (h3 _ _).mp ha
  exact va_get M.1 M.2.1 M.2.2.2.2.1 hin M.2.2.2.1 M.2.2.2.2.2.1 h1 q hq hc k0 hk (M.2.2.2.2.1 _ hlink) (fun _ h9 => h9) hv d (k H locs ls hP hS hl)
theorem ax_getN (M : Mx D cl nL X cc own Ts tys NN) {C host : String} {T : u_T} {N ci index a : Nat} (hin : ∀ w ∈ u_ws C T N, w ∈ Ts) {fs : List Value} (ha : h a = some (.inr (ci, fs))) (hc : cl[ci]? = some (C, T, N)) (k0 : Nat) (hk : k0 < N) (hlink : Cond.fieldLinkNest own index (T k0).1 (T k0).2.1 (T k0).2.2.1 host ∈ NN) {v : Value} (hv : fs[k0]? = some v) (d : decode cc pc = .ok (.getfield index, 3)) (k : AW l D cl R nL X cells slots h (pc + 3) lv (v :: rest)) : AW l D cl R nL X cells slots h pc lv (.ref a :: rest) := fun H locs ls hP hS hl => by
  obtain ⟨ws, h1, h2, h3⟩ := id hP
  obtain ⟨q, hq⟩ := (h3 _ _).mp ha
  exact va_getN M.1 M.2.1 M.2.2.2.2.1 hin M.2.2.2.1 M.2.2.2.2.2.1 h1 q hq hc k0 hk (va_Nw.use rfl (M.2.2.2.2.2.2.2.2 _ hlink).2) (fun _ h9 => h9) hv d (k H locs ls hP hS hl)
theorem ax_put (M : Mx D cl nL X cc own Ts tys NN) {C : String} {T : u_T} {N ci index a : Nat} (hin : ∀ w ∈ u_ws C T N, w ∈ Ts) (ty0 : Nat → FieldType) (hty : ∀ k, k < N → parseFieldDescriptor (T k).2.2.1 = some (ty0 k)) (hnm : ∀ a, a < N → ∀ b, b < N → a ≠ b → (T a).2.1 ≠ (T b).2.1) {fs : List Value} (ha : h a = some (.inr (ci, fs))) (hc : cl[ci]? = some (C, T, N)) (k0 : Nat) (hk : k0 < N) (hlink : Cond.fieldLink own index (T k0).1 (T k0).2.1 (T k0).2.2.1 ∈ Ts) (hfin : (T k0).2.2.2 = false) {v : Value} (hn : narrow (ty0 k0) v = v) (hfit : fits (ty0 k0) v = true) (hlen : k0 < fs.length) (d : decode cc pc = .ok (.putfield index, 3)) (k : AW l D cl R nL X cells slots (ah_set h a (.inr (ci, fs.set k0 v))) (pc + 3) lv rest) : AW l D cl R nL X cells slots h pc lv (v :: .ref a :: rest) := fun H locs ls hP hS hl => by
  obtain ⟨ws, h1, h2, h3⟩ := id hP
  obtain ⟨q, hq⟩ := (h3 _ _).mp ha
  exact va_put M.1 M.2.1 M.2.2.2.2.1 hin ty0 hty hnm M.2.2.2.1 M.2.2.2.2.2.1 h1 h2 hS q hq hc k0 hk (M.2.2.2.2.1 _ hlink) (fun _ h9 => h9) hfin (hty k0 hk) hn hfit hlen d (fun H1 locs1 g1 g2 g3 => k H1 locs1 ls ⟨_, g1, g2, ah_cov_set h3 h2 hq⟩ g3 hl)
theorem ax_putN (M : Mx D cl nL X cc own Ts tys NN) {C host : String} {T : u_T} {N ci index a : Nat} (hin : ∀ w ∈ u_ws C T N, w ∈ Ts) (ty0 : Nat → FieldType) (hty : ∀ k, k < N → parseFieldDescriptor (T k).2.2.1 = some (ty0 k)) (hnm : ∀ a, a < N → ∀ b, b < N → a ≠ b → (T a).2.1 ≠ (T b).2.1) {fs : List Value} (ha : h a = some (.inr (ci, fs))) (hc : cl[ci]? = some (C, T, N)) (k0 : Nat) (hk : k0 < N) (hlink : Cond.fieldLinkNest own index (T k0).1 (T k0).2.1 (T k0).2.2.1 host ∈ NN) (hfin : (T k0).2.2.2 = false) {v : Value} (hn : narrow (ty0 k0) v = v) (hfit : fits (ty0 k0) v = true) (hlen : k0 < fs.length) (d : decode cc pc = .ok (.putfield index, 3)) (k : AW l D cl R nL X cells slots (ah_set h a (.inr (ci, fs.set k0 v))) (pc + 3) lv rest) : AW l D cl R nL X cells slots h pc lv (v :: .ref a :: rest) := fun H locs ls hP hS hl => by
  obtain ⟨ws, h1, h2, h3⟩ := id hP
  obtain ⟨q, hq⟩ := (h3 _ _).mp ha
  exact va_putN M.1 M.2.1 M.2.2.2.2.1 hin ty0 hty hnm M.2.2.2.1 M.2.2.2.2.2.1 h1 h2 hS q hq hc k0 hk (va_Nw.use rfl (M.2.2.2.2.2.2.2.2 _ hlink).2) (fun _ h9 => h9) hfin (hty k0 hk) hn hfit hlen d (fun H1 locs1 g1 g2 g3 => k H1 locs1 ls ⟨_, g1, g2, ah_cov_set h3 h2 hq⟩ g3 hl)
theorem ax_putF (M : Mx D cl nL X cc own Ts tys NN) {C : String} {T : u_T} {N ci index a : Nat} (hin : ∀ w ∈ u_ws C T N, w ∈ Ts) (ty0 : Nat → FieldType) (hty : ∀ k, k < N → parseFieldDescriptor (T k).2.2.1 = some (ty0 k)) (hnm : ∀ a, a < N → ∀ b, b < N → a ≠ b → (T a).2.1 ≠ (T b).2.1) {fs : List Value} (ha : h a = some (.inr (ci, fs))) (hc : cl[ci]? = some (C, T, N)) (k0 : Nat) (hk : k0 < N) (hlink : Cond.fieldLink own index (T k0).1 (T k0).2.1 (T k0).2.2.1 ∈ Ts) (hfin : (T k0).2.2.2 = true) (hi2 : (xh X).name = "<init>") (hdecl : (T k0).1 = own) {v : Value} (hn : narrow (ty0 k0) v = v) (hfit : fits (ty0 k0) v = true) (hlen : k0 < fs.length) (d : decode cc pc = .ok (.putfield index, 3)) (k : AW l D cl R nL X cells slots (ah_set h a (.inr (ci, fs.set k0 v))) (pc + 3) lv rest) : AW l D cl R nL X cells slots h pc lv (v :: .ref a :: rest) := fun H locs ls hP hS hl => by
  obtain ⟨ws, h1, h2, h3⟩ := id hP
  obtain ⟨q, hq⟩ := (h3 _ _).mp ha
  exact va_putF M.1 M.2.1 M.2.2.2.2.1 hin ty0 hty hnm M.2.2.2.1 M.2.2.2.2.2.1 h1 h2 hS q hq hc k0 hk (M.2.2.2.2.1 _ hlink) (fun _ h9 => h9) hfin hi2 hdecl (hty k0 hk) hn hfit hlen d (fun H1 locs1 g1 g2 g3 => k H1 locs1 ls ⟨_, g1, g2, ah_cov_set h3 h2 hq⟩ g3 hl)
theorem ax_iald (M : Mx D cl nL X cc own Ts tys NN) {a : Nat} {cA : ClassId} {n : Nat} {f : Nat → Int32} (ha : h a = some (.inl (cA, n, .inl f))) (t0 : Nat) (ht : tys[t0]? = some (cA, .int)) {i : Int32} (hi : vp_in i n) (d : decode cc pc = .ok (.iaload, 1)) (k : AW l D cl R nL X cells slots h (pc + 1) lv (.int (f i.toNatClampNeg) :: rest)) : AW l D cl R nL X cells slots h pc lv (.int i :: .ref a :: rest) := fun H locs ls hP hS hl => by
  obtain ⟨ws, h1, h2, h3⟩ := id hP
  obtain ⟨q, hq⟩ := (h3 _ _).mp ha
  exact va_iald M.1 M.2.1 M.2.2.2.2.2.1 h1 q t0 hq ht hi d (k H locs ls hP hS hl)
theorem ax_zald (M : Mx D cl nL X cc own Ts tys NN) {a : Nat} {cA : ClassId} {n : Nat} {f : Nat → Int32} (ha : h a = some (.inl (cA, n, .inl f))) (t0 : Nat) (ht : tys[t0]? = some (cA, .boolean)) {i : Int32} (hi : vp_in i n) (d : decode cc pc = .ok (.baload, 1)) (k : AW l D cl R nL X cells slots h (pc + 1) lv (.int (f i.toNatClampNeg) :: rest)) : AW l D cl R nL X cells slots h pc lv (.int i :: .ref a :: rest) := fun H locs ls hP hS hl => by
  obtain ⟨ws, h1, h2, h3⟩ := id hP
  obtain ⟨q, hq⟩ := (h3 _ _).mp ha
  exact va_zald M.1 M.2.1 M.2.2.2.2.2.1 h1 q t0 hq ht hi d (k H locs ls hP hS hl)
theorem ax_lald (M : Mx D cl nL X cc own Ts tys NN) {a : Nat} {cA : ClassId} {n : Nat} {f : Nat → Int64} (ha : h a = some (.inl (cA, n, .inr (.inl f)))) (t0 : Nat) (ht : tys[t0]? = some (cA, .long)) {i : Int32} (hi : vp_in i n) (d : decode cc pc = .ok (.laload, 1)) (k : AW l D cl R nL X cells slots h (pc + 1) lv (.long (f i.toNatClampNeg) :: rest)) : AW l D cl R nL X cells slots h pc lv (.int i :: .ref a :: rest) := fun H locs ls hP hS hl => by
  obtain ⟨ws, h1, h2, h3⟩ := id hP
  obtain ⟨q, hq⟩ := (h3 _ _).mp ha
  exact va_lald M.1 M.2.1 M.2.2.2.2.2.1 h1 q t0 hq ht hi d (k H locs ls hP hS hl)
theorem ax_last (M : Mx D cl nL X cc own Ts tys NN) {a : Nat} {cA : ClassId} {n : Nat} {f : Nat → Int64} (ha : h a = some (.inl (cA, n, .inr (.inl f)))) (t0 : Nat) (ht : tys[t0]? = some (cA, .long)) {i : Int32} {x : Int64} (hi : vp_in i n) (d : decode cc pc = .ok (.lastore, 1)) (k : AW l D cl R nL X cells slots (ah_set h a (.inl (cA, n, .inr (.inl (vp_updL f i.toNatClampNeg x))))) (pc + 1) lv rest) : AW l D cl R nL X cells slots h pc lv (.long x :: .int i :: .ref a :: rest) := fun H locs ls hP hS hl => by
  obtain ⟨ws, h1, h2, h3⟩ := id hP
  obtain ⟨q, hq⟩ := (h3 _ _).mp ha
  exact va_last M.1 M.2.1 M.2.2.2.2.2.1 h1 h2 hS q t0 hq ht hi d (fun H1 locs1 g1 g2 g3 => k H1 locs1 ls ⟨_, g1, g2, ah_cov_set h3 h2 hq⟩ g3 hl)
theorem ax_iast (M : Mx D cl nL X cc own Ts tys NN) {a : Nat} {cA : ClassId} {n : Nat} {f : Nat → Int32} (ha : h a = some (.inl (cA, n, .inl f))) (t0 : Nat) (ht : tys[t0]? = some (cA, .int)) {i x : Int32} (hi : vp_in i n) (d : decode cc pc = .ok (.iastore, 1)) (k : AW l D cl R nL X cells slots (ah_set h a (.inl (cA, n, .inl (upd f i.toNatClampNeg x)))) (pc + 1) lv rest) : AW l D cl R nL X cells slots h pc lv (.int x :: .int i :: .ref a :: rest) := fun H locs ls hP hS hl => by
  obtain ⟨ws, h1, h2, h3⟩ := id hP
  obtain ⟨q, hq⟩ := (h3 _ _).mp ha
  exact va_iast M.1 M.2.1 M.2.2.2.2.2.1 h1 h2 hS q t0 hq ht hi d (fun H1 locs1 g1 g2 g3 => k H1 locs1 ls ⟨_, g1, g2, ah_cov_set h3 h2 hq⟩ g3 hl)
theorem ax_zast (M : Mx D cl nL X cc own Ts tys NN) {a : Nat} {cA : ClassId} {n : Nat} {f : Nat → Int32} (ha : h a = some (.inl (cA, n, .inl f))) (t0 : Nat) (ht : tys[t0]? = some (cA, .boolean)) {i x : Int32} (hi : vp_in i n) (hb : vp_nar .boolean x = x) (d : decode cc pc = .ok (.bastore, 1)) (k : AW l D cl R nL X cells slots (ah_set h a (.inl (cA, n, .inl (upd f i.toNatClampNeg x)))) (pc + 1) lv rest) : AW l D cl R nL X cells slots h pc lv (.int x :: .int i :: .ref a :: rest) := fun H locs ls hP hS hl => by
  obtain ⟨ws, h1, h2, h3⟩ := id hP
  obtain ⟨q, hq⟩ := (h3 _ _).mp ha
  have hk := k
  rw [← hb] at hk
  exact va_zast M.1 M.2.1 M.2.2.2.2.2.1 h1 h2 hS q t0 hq ht hi d (fun H1 locs1 g1 g2 g3 => hk H1 locs1 ls ⟨_, g1, g2, ah_cov_set h3 h2 hq⟩ g3 hl)
theorem ax_aldq (M : Mx D cl nL X cc own Ts tys NN) {a : Nat} {cA : ClassId} {ty : FieldType} {n : Nat} {f : Nat → Option Nat} (ha : h a = some (.inl (cA, n, .inr (.inr (.inr (.inr f)))))) (t0 : Nat) (ht : tys[t0]? = some (cA, ty)) (hty : ty.isReference = true) {i : Int32} {v : Nat} (hi : vp_in i n) (hv : f i.toNatClampNeg = some v) (d : decode cc pc = .ok (.aaload, 1)) (k : AW l D cl R nL X cells slots h (pc + 1) lv (.ref v :: rest)) : AW l D cl R nL X cells slots h pc lv (.int i :: .ref a :: rest) := fun H locs ls hP hS hl => by
  obtain ⟨ws, h1, h2, h3⟩ := id hP
  obtain ⟨q, hq⟩ := (h3 _ _).mp ha
  have hlt : i.toNatClampNeg < n := Nat.not_le.mp fun q => hi (Or.inr q)
  exact W.aald (v := .ref v) (ty := ty) M.1 M.2.1 (h1 q _ hq) ((M.2.2.2.2.2.1.2 t0 _ ht).1 n (fun j => va_rf (f j))) hty (fun q => by cases q) (by show ¬ (i < 0 ∨ (arrV _ _ _).slots.size ≤ _); rw [arrV_size]; exact hi) (by show (arrV _ _ _).slots[_]? = _; rw [arrV_read _ _ hlt, hv]; rfl) rfl rfl d (k H locs ls hP hS hl)
theorem ax_astq (M : Mx D cl nL X cc own Ts tys NN) {a ci : Nat} {cA : ClassId} {r : vw_C} {n v : Nat} {vs : List Value} {f : Nat → Option Nat} (ha : h a = some (.inl (cA, n, .inr (.inr (.inr (.inr f)))))) (t0 : Nat) (ht : tys[t0]? = some (cA, .object r.1)) (hv : h v = some (.inr (ci, vs))) (hc : cl[ci]? = some r) {i : Int32} (hi : vp_in i n) (d : decode cc pc = .ok (.aastore, 1)) (k : AW l D cl R nL X cells slots (ah_set h a (.inl (cA, n, .inr (.inr (.inr (.inr (va_up f i.toNatClampNeg (some v)))))))) (pc + 1) lv rest) : AW l D cl R nL X cells slots h pc lv (.ref v :: .int i :: .ref a :: rest) := fun H locs ls hP hS hl => by
  obtain ⟨ws, h1, h2, h3⟩ := id hP
  obtain ⟨q, hq⟩ := (h3 _ _).mp ha
  obtain ⟨q2, hq2⟩ := (h3 _ _).mp hv
  exact va_astq M.1 M.2.1 M.2.2.2.2.2.1 h1 h2 hS q t0 q2 ci hq ht hq2 hc hi d (fun H1 locs1 g1 g2 g3 => k H1 locs1 ls ⟨_, g1, g2, ah_cov_set h3 h2 hq⟩ g3 hl)
theorem ax_alen (M : Mx D cl nL X cc own Ts tys NN) {a : Nat} {cA : ClassId} {x : vp_A} (ha : h a = some (.inl (cA, x))) (t0 : Nat) {ty : FieldType} (ht : tys[t0]? = some (cA, ty)) (d : decode cc pc = .ok (.arraylength, 1)) (k : AW l D cl R nL X cells slots h (pc + 1) lv (.int (nI x.1) :: rest)) : AW l D cl R nL X cells slots h pc lv (.ref a :: rest) := fun H locs ls hP hS hl => by
  obtain ⟨ws, h1, h2, h3⟩ := id hP
  obtain ⟨q, hq⟩ := (h3 _ _).mp ha
  exact va_alen M.1 M.2.1 M.2.2.2.2.2.1 h1 q t0 hq ht rfl d (k H locs ls hP hS hl)
theorem ax_new (M : Mx D cl nL X cc own Ts tys NN) {C : String} {T : u_T} {N ci index : Nat} (hin : ∀ w ∈ u_ws C T N, w ∈ Ts) (ty : Nat → FieldType) (hty : ∀ k, k < N → parseFieldDescriptor (T k).2.2.1 = some (ty k)) (hcl : Cond.classLink own index C ∈ Ts) (hinst : Cond.instantiable C N ∈ Ts) (hini : Cond.initialized C ∈ Ts) (hc : cl[ci]? = some (C, T, N)) {fs : List Value} (hfs : ∀ j, j < N → defaultValue (ty j) = vp_V fs j) (hcells : cells + 1 ≤ R.cells) (hslots : slots + N ≤ R.slots) (d : decode cc pc = .ok (.new index, 3)) (k : ∀ q : Nat, h q = none → AW l D cl R nL X (cells + 1) (slots + N) (ah_set h q (.inr (ci, fs))) (pc + 3) lv (.ref q :: rest)) : AW l D cl R nL X cells slots h pc lv rest := fun H locs ls hP hS hl => by
  obtain ⟨ws, h1, h2, h3⟩ := id hP
  exact va_new M.1 M.2.1 M.2.2.2.2.1 hin ty hty M.2.2.2.1 (M.2.2.2.2.1 _ hcl) (M.2.2.2.2.1 _ hinst) (M.2.2.2.2.1 _ hini) M.2.2.2.2.2.1 h1 h2 hS M.2.2.2.2.2.2.2.1 hc hfs hcells hslots d (fun q H1 g1 g2 g3 => k q (ah_cov_push h3 g2).1 H1 locs ls ⟨_, g1, g2, (ah_cov_push h3 g2).2⟩ g3 hl)
theorem ax_objInit (M : Mx D cl nL X cc own Ts tys NN) {a idx : Nat} (hlink : Cond.methodLink own idx Lib.objectInit ∈ Ts) (hinst : Cond.instanceMethod Lib.objectInit ∈ Ts) (hcode : Cond.code Lib.objectInit ⟨#[0xb1]⟩ 1 none ∈ Ts) (d : decode cc pc = .ok (.invokespecial idx, 3)) (hframes : 1 ≤ R.frames) (hlocals : (rest.map fun v => v.category).sum + 12 ≤ R.locals) (k : AW l D cl R nL X cells slots h (pc + 3) lv rest) : AW l D cl R nL X cells slots h pc lv (.ref a :: rest) := fun H locs ls hP hS hl =>
  W.objInit M.1 M.2.1 M.2.2.2.1 (M.2.2.2.2.1 _ hlink) (M.2.2.2.2.1 _ hinst) (M.2.2.2.2.1 _ hcode) rfl (by rw [M.2.2.1]; exact hl.1) rfl d hframes (by show 2 * 0 + _ + 12 ≤ _; omega) (k H locs ls hP hS hl)
theorem ax_iret (M : Mx D cl nL X cc own Ts tys NN) {post : Option Value → AH → Prop} (hR : Rx D cl R X (some .int) post) {v : Int32} (hc : cells ≤ R.cells) (hs : slots ≤ R.slots) (d : decode cc pc = .ok (.ireturn, 1)) (hp : post (some (.int v)) h) : AW l D cl R nL X cells slots h pc lv [.int v] := fun H locs ls hP hS hl => by
  rw [hR.1]
  refine W.widen hc hs ?_
  exact W.iret M.1 M.2.1 hR.2 (fun t ht _ => ⟨⟨_, _, rfl, hp, by rw [ht]; exact hP⟩, hS.F ht⟩) hS.2.2 d M.2.2.2.2.2.2.1
theorem ax_lret (M : Mx D cl nL X cc own Ts tys NN) {post : Option Value → AH → Prop} (hR : Rx D cl R X (some .long) post) {v : Int64} (hc : cells ≤ R.cells) (hs : slots ≤ R.slots) (d : decode cc pc = .ok (.lreturn, 1)) (hp : post (some (.long v)) h) : AW l D cl R nL X cells slots h pc lv [.long v] := fun H locs ls hP hS hl => by
  rw [hR.1]
  refine W.widen hc hs ?_
  exact W.lret M.1 M.2.1 hR.2 (fun t ht _ => ⟨⟨_, _, rfl, hp, by rw [ht]; exact hP⟩, hS.F ht⟩) hS.2.2 d M.2.2.2.2.2.2.1
theorem ax_zret (M : Mx D cl nL X cc own Ts tys NN) {post : Option Value → AH → Prop} (hR : Rx D cl R X (some .boolean) post) {v : Int32} (hn : narrow .boolean (.int v) = .int v) (hc : cells ≤ R.cells) (hs : slots ≤ R.slots) (d : decode cc pc = .ok (.ireturn, 1)) (hp : post (some (.int v)) h) : AW l D cl R nL X cells slots h pc lv [.int v] := fun H locs ls hP hS hl => by
  rw [hR.1]
  refine W.widen hc hs ?_
  exact W.zret M.1 M.2.1 hR.2 hn (fun t ht _ => ⟨⟨_, _, rfl, hp, by rw [ht]; exact hP⟩, hS.F ht⟩) hS.2.2 d M.2.2.2.2.2.2.1
theorem ax_vret (M : Mx D cl nL X cc own Ts tys NN) {post : Option Value → AH → Prop} (hR : Rx D cl R X none post) (hc : cells ≤ R.cells) (hs : slots ≤ R.slots) (d : decode cc pc = .ok (.return_, 1)) (hp : post none h) : AW l D cl R nL X cells slots h pc lv [] := fun H locs ls hP hS hl => by
  rw [hR.1]
  refine W.widen hc hs ?_
  exact W.vret M.1 M.2.1 hR.2 (fun t ht _ => ⟨⟨_, _, rfl, hp, by rw [ht]; exact hP⟩, hS.F ht⟩) hS.2.2 d M.2.2.2.2.2.2.1
/-- behind a call -/
theorem ax_behind {rm : Room} {post : Option Value → AH → Prop} {a : Array Value} {H : Heap} {locs : List Loc} {ls : Array Slot} {st0 : List Value} (hA : ∀ q, (xs X).heap.size ≤ q → xA X q) (hP : XP D cl (xA X) h H) (hS : va_S (xA X) (xs X).heap H locs) (hl : lv_has ls nL lv)
    (run : va_Run (xp X) l (xe X) R (xs X) (xm X) (xa X) (xb X) (xh X) (xc X) H locs cells slots rm.cells rm.slots (F0 (xm X) pc ls st0) rest (Qx D cl (ah_A h H.size) post a) (ah_A h H.size))
    (k : ∀ (r : Option Value) (h' : AH), post r h' → AW l D cl R nL X (cells + rm.cells) (slots + rm.slots) h' (pc + 3) lv (r.toList ++ rest)) :
    W (xp X) l (xe X) R (xs X) (xm X) (xa X) (xb X) (xh X) (xc X) H locs cells slots (xQ X) (F0 (xm X) pc ls st0) := by
  intro T hT X0
  obtain ⟨v, st₀, t, T', L, h0, X', hL, e1, e2, ⟨⟨r, h', hv, hp, hX⟩, hz, hk⟩, st⟩ := run T hT X0
  cases hv
  rw [h0] at hz hk
  have hin : ∀ q, ah_A h H.size q → xA X q := fun q hq => by
    rcases hq with hq | hq
    · exact hP.in hq
    · exact hA q (Nat.le_trans hS.1 hq)
  obtain ⟨t2, a1, b1⟩ := k _ h' hp T'.heap (locs ++ L) ls (by rw [e1]; exact hX.weaken hin)
    ⟨Nat.le_trans hS.1 (by rw [e1]; exact hz), fun q h1 h2 => by rw [e1, hk q (Nat.lt_of_lt_of_le h1 hS.1) (fun z => h2 (hin q z))]; exact hS.2.1 q h1 h2, fun q hq => by
      rcases List.mem_append.mp hq with h4 | h4
      · exact hS.2.2 q h4
      · exact hin _ (hL q h4)⟩ hl T' rfl X'
  exact ⟨t2, st t2 a1, b1⟩
/-- a callee's start out of the caller's map -/
theorem ax_blind {av : List Value} {sz : Nat} : FrameBlind (va_Pc av (fun U => U.heap.size = sz ∧ XP D cl (fun _ => True) h U.heap ∧ va_K D cl tys U ∧ ∀ w ∈ NN, nw_b w = true ∧ va_Nw w U)) := fun a U g mk q => by
  obtain ⟨q0, q1, qP, qK, qN⟩ := q
  exact ⟨q0, q1, qP, va_K.moved (u := U) (U := U.calling g mk a) (Vm.Alike.refl U.vm) qK, fun w hw => ⟨(qN w hw).1, nw_same (s := U) (U := U.calling g mk a) (qN w hw).1 rfl (qN w hw).2⟩⟩
theorem ax_start {av : List Value} {H : Heap} (M : Mx D cl nL X cc own Ts tys NN) (hP : XP D cl (xA X) h H) : ∀ U : State, U.heap = H → (xs X).WarmedH U.vm → va_Pc av (fun U => U.heap.size = H.size ∧ XP D cl (fun _ => True) h U.heap ∧ va_K D cl tys U ∧ ∀ w ∈ NN, nw_b w = true ∧ va_Nw w U) av.toArray U :=
  fun U hU hW => ⟨rfl, by rw [hU], by rw [hU]; exact hP.weaken (fun _ _ => trivial), va_K.moved hW.alike M.2.2.2.2.2.1, fun w hw => ⟨(M.2.2.2.2.2.2.2.2 w hw).1, nw_warm (M.2.2.2.2.2.2.2.2 w hw).1 hW (M.2.2.2.2.2.2.2.2 w hw).2⟩⟩
theorem ax_recv {H : Heap} {b ci : Nat} {q : vw_C} {fs : List Value} (M : Mx D cl nL X cc own Ts tys NN) (hP : XP D cl (xA X) h H) (hc : cl[ci]? = some q) (ha : h b = some (.inr (ci, fs))) : ∃ cell : Cell, H[b]? = some cell ∧ cell.vm.isStatics = false ∧ (xs X).vm.findClass q.1 = some cell.cls := by
  obtain ⟨ws, h1, h2, h3⟩ := hP
  obtain ⟨j, hj⟩ := (h3 _ _).mp ha
  exact va_recv M.2.2.2.2.2.1 h1 hc hj
/-- the words of a callee: all callees share one list of words -/
def ax_good (TT : List Cond) : Prop := ∀ w ∈ TT, (w.onTables && w.keeps) = true ∨ ∃ ty, w = .arrayClass ty
theorem ax_goodIn {ws : List Cond} (hg : ax_good Ts) (hw : ∀ w ∈ ws, w ∈ Ts) : GoodIn Ts ws := fun w h => ⟨hw w h, hg w (hw w h)⟩
theorem ax_callV (M : Mx D cl nL X cc own Ts tys NN) (hg : ax_good Ts) {C : String} {q : vw_C} {y : MethodName} {bytes : ByteArray} {maxL index n b ci : Nat} {ret : Option FieldType} {rm : Room} {As st0 : List Value} {fs : List Value} {post : Option Value → AH → Prop} (hq1 : q.1 = C) (hc : cl[ci]? = some q) (ha : h b = some (.inr (ci, fs))) (hM : AC l D cl tys NN y (Cond.code y bytes maxL ret :: Ts) rm (.ref b :: As) h post)
    (hws : ∀ w ∈ ([.methodLink own index y, .instanceMethod y, .selects C y y, .initialized C, .code y bytes maxL ret] : List Cond), w ∈ Ts) (hd : y.cls = C ∧ y.cls ≠ "java/lang/invoke/MethodHandle" ∧ y.cls ≠ "java/lang/invoke/VarHandle" ∧ (parseMethodDescriptor y.desc).map (fun d => d.parameters.length) = some n) (hR : rm.frames + 1 ≤ R.frames ∧ 8 + (maxL + 11) + rm.locals ≤ R.locals) (hn : As.length = n) (hst : st0 = As.reverse ++ .ref b :: rest) (hr : (rest.map fun v => v.category).sum ≤ 8) (d : decode cc pc = .ok (.invokevirtual index, 3)) (hf : cells + rm.cells ≤ R.cells ∧ slots + rm.slots ≤ R.slots) {c1 s1 : Nat} (hf1 : cells + rm.cells ≤ c1 ∧ slots + rm.slots ≤ s1)
    (k : ∀ (r : Option Value) (h' : AH), post r h' → AW l D cl R nL X c1 s1 h' (pc + 3) lv (r.toList ++ rest)) : AW l D cl R nL X cells slots h pc lv st0 := fun H locs ls hP hS hl => by
  subst hq1
  refine ax_behind M.2.2.2.2.2.2.2.1 hP hS hl (va_runV ⟨M.1, M.2.1, M.2.2.1, M.2.2.2.1, M.2.2.2.2.1⟩ (hM H.size) (cwV n M.2.2.2.2.1 (ax_goodIn hg ?_) rfl rfl rfl hd hR) ⟨ax_blind, ax_recv M hP hc ha, ax_start M hP⟩ rfl hn hl.1 hst (lv_room hr) d hf) (fun r h' hp => ax_widen hf1.1 hf1.2 (k r h' hp))
  intro w hw
  unfold wsV at hw
  rcases List.mem_append.mp hw with hw | hw
  · exact hws w (List.mem_append_left [Cond.code y bytes maxL ret] hw)
  · rcases List.mem_cons.mp hw with hw | hw
    · exact hws w (by rw [hw]; simp)
    · exact hw
theorem ax_callS (M : Mx D cl nL X cc own Ts tys NN) (hg : ax_good Ts) {y : MethodName} {bytes : ByteArray} {maxL index n : Nat} {ret : Option FieldType} {rm : Room} {As st0 : List Value} {post : Option Value → AH → Prop} (hM : AC l D cl tys NN y (Cond.code y bytes maxL ret :: Ts) rm As h post)
    (hws : ∀ w ∈ ([.methodLink own index y, .static y, .initialized y.cls, .code y bytes maxL ret] : List Cond), w ∈ Ts) (hd : y.cls ≠ "java/lang/invoke/MethodHandle" ∧ y.cls ≠ "java/lang/invoke/VarHandle" ∧ (parseMethodDescriptor y.desc).map (fun d => d.parameters.length) = some n) (hR : rm.frames + 1 ≤ R.frames ∧ 8 + (maxL + 11) + rm.locals ≤ R.locals) (hn : As.length = n) (hst : st0 = As.reverse ++ rest) (hr : (rest.map fun v => v.category).sum ≤ 8) (d : decode cc pc = .ok (.invokestatic index, 3)) (hf : cells + rm.cells ≤ R.cells ∧ slots + rm.slots ≤ R.slots) {c1 s1 : Nat} (hf1 : cells + rm.cells ≤ c1 ∧ slots + rm.slots ≤ s1)
    (k : ∀ (r : Option Value) (h' : AH), post r h' → AW l D cl R nL X c1 s1 h' (pc + 3) lv (r.toList ++ rest)) : AW l D cl R nL X cells slots h pc lv st0 := fun H locs ls hP hS hl => by
  refine ax_behind M.2.2.2.2.2.2.2.1 hP hS hl (va_runS ⟨M.1, M.2.1, M.2.2.1, M.2.2.2.1, M.2.2.2.2.1⟩ (hM H.size) (va_cwS n M.2.2.2.2.1 (ax_goodIn hg ?_) rfl rfl rfl hd hR) ⟨ax_blind, ax_start M hP⟩ rfl hn hl.1 hst (lv_room hr) d hf) (fun r h' hp => ax_widen hf1.1 hf1.2 (k r h' hp))
  intro w hw
  unfold va_wsS at hw
  rcases List.mem_append.mp hw with hw | hw
  · exact hws w (List.mem_append_left [Cond.code y bytes maxL ret] hw)
  · rcases List.mem_cons.mp hw with hw | hw
    · exact hws w (by rw [hw]; simp)
    · exact hw
theorem ax_callI (M : Mx D cl nL X cc own Ts tys NN) (hg : ax_good Ts) {y : MethodName} {bytes : ByteArray} {maxL index n b : Nat} {rm : Room} {As st0 : List Value} {post : Option Value → AH → Prop} (hM : AC l D cl tys NN y (Cond.code y bytes maxL none :: Ts) rm (.ref b :: As) h post)
    (hws : ∀ w ∈ ([.methodLink own index y, .instanceMethod y, .initialized y.cls, .code y bytes maxL none] : List Cond), w ∈ Ts) (hy1 : y.name = "<init>") (hd : y.cls ≠ "java/lang/invoke/MethodHandle" ∧ y.cls ≠ "java/lang/invoke/VarHandle" ∧ (parseMethodDescriptor y.desc).map (fun d => d.parameters.length) = some n) (hR : rm.frames + 1 ≤ R.frames ∧ 8 + (maxL + 11) + rm.locals ≤ R.locals) (hn : As.length = n) (hst : st0 = As.reverse ++ .ref b :: rest) (hr : (rest.map fun v => v.category).sum ≤ 8) (d : decode cc pc = .ok (.invokespecial index, 3)) (hf : cells + rm.cells ≤ R.cells ∧ slots + rm.slots ≤ R.slots) {c1 s1 : Nat} (hf1 : cells + rm.cells ≤ c1 ∧ slots + rm.slots ≤ s1)
    (k : ∀ (r : Option Value) (h' : AH), post r h' → AW l D cl R nL X c1 s1 h' (pc + 3) lv (r.toList ++ rest)) : AW l D cl R nL X cells slots h pc lv st0 := fun H locs ls hP hS hl => by
  have hm : ∀ w ∈ ([.methodLink own index y, .instanceMethod y, .initialized y.cls, .code y bytes maxL none] : List Cond), w.before (xa X) (xs X) = true := fun w h9 => M.2.2.2.2.1 w (hws w h9)
  refine ax_behind M.2.2.2.2.2.2.2.1 hP hS hl (va_runI ⟨M.1, M.2.1, M.2.2.1, M.2.2.2.1, M.2.2.2.2.1⟩ (hM H.size) (cwI n M.2.2.2.2.1 (ax_goodIn hg ?_) rfl rfl rfl (hm _ (by simp)) (hm _ (by simp)) (hm _ (by simp)) hy1 hd hR) ⟨ax_blind, ax_start M hP⟩ rfl hn hl.1 hst (lv_room hr) d hf) (fun r h' hp => ax_widen hf1.1 hf1.2 (k r h' hp))
  intro w hw
  rcases List.mem_cons.mp hw with hw | hw
  · exact hws w (by rw [hw]; simp)
  · exact hw
theorem ax_callVN (M : Mx D cl nL X cc own Ts tys NN) (hg : ax_good Ts) {host : String} {q : vw_C} {y : MethodName} {bytes : ByteArray} {maxL index n b ci : Nat} {ret : Option FieldType} {rm : Room} {As st0 : List Value} {fs : List Value} {post : Option Value → AH → Prop} (hc : cl[ci]? = some q) (ha : h b = some (.inr (ci, fs))) (hM : AC l D cl tys NN y (Cond.code y bytes maxL ret :: Ts) rm (.ref b :: As) h post)
    (hN : Cond.methodLinkNest own index y host ∈ NN) (hws : ∀ w ∈ ([.instanceMethod y, .selects q.1 y y, .initialized y.cls, .code y bytes maxL ret] : List Cond), w ∈ Ts) (hd : y.cls ≠ "java/lang/invoke/MethodHandle" ∧ y.cls ≠ "java/lang/invoke/VarHandle" ∧ (parseMethodDescriptor y.desc).map (fun d => d.parameters.length) = some n) (hR : rm.frames + 1 ≤ R.frames ∧ 8 + (maxL + 11) + rm.locals ≤ R.locals) (hn : As.length = n) (hst : st0 = As.reverse ++ .ref b :: rest) (hr : (rest.map fun v => v.category).sum ≤ 8) (d : decode cc pc = .ok (.invokevirtual index, 3)) (hf : cells + rm.cells ≤ R.cells ∧ slots + rm.slots ≤ R.slots) {c1 s1 : Nat} (hf1 : cells + rm.cells ≤ c1 ∧ slots + rm.slots ≤ s1)
    (k : ∀ (r : Option Value) (h' : AH), post r h' → AW l D cl R nL X c1 s1 h' (pc + 3) lv (r.toList ++ rest)) : AW l D cl R nL X cells slots h pc lv st0 := fun H locs ls hP hS hl => by
  have hm : ∀ w ∈ ([.instanceMethod y, .selects q.1 y y, .initialized y.cls, .code y bytes maxL ret] : List Cond), w.before (xa X) (xs X) = true := fun w h9 => M.2.2.2.2.1 w (hws w h9)
  refine ax_behind M.2.2.2.2.2.2.2.1 hP hS hl (va_runVN ⟨M.1, M.2.1, M.2.2.1, M.2.2.2.1, M.2.2.2.2.1⟩ (hM H.size) ⟨va_cnB (host := host) n M.2.2.2.2.1 (ax_goodIn hg ?_) rfl rfl rfl (M.2.2.2.2.2.2.2.2 _ hN).2 (hm _ (by simp)) hd hR, hm _ (by simp), hm _ (by simp)⟩ ⟨ax_blind, ax_recv M hP hc ha, ax_start M hP⟩ rfl hn hl.1 hst (lv_room hr) d hf) (fun r h' hp => ax_widen hf1.1 hf1.2 (k r h' hp))
  intro w hw
  rcases List.mem_cons.mp hw with hw | hw
  · exact hws w (by rw [hw]; simp)
  · exact hw
theorem ax_callIN (M : Mx D cl nL X cc own Ts tys NN) (hg : ax_good Ts) {host : String} {y : MethodName} {bytes : ByteArray} {maxL index n b : Nat} {rm : Room} {As st0 : List Value} {post : Option Value → AH → Prop} (hM : AC l D cl tys NN y (Cond.code y bytes maxL none :: Ts) rm (.ref b :: As) h post)
    (hN : Cond.methodLinkNest own index y host ∈ NN) (hws : ∀ w ∈ ([.instanceMethod y, .initialized y.cls, .code y bytes maxL none] : List Cond), w ∈ Ts) (hy1 : y.name = "<init>") (hd : y.cls ≠ "java/lang/invoke/MethodHandle" ∧ y.cls ≠ "java/lang/invoke/VarHandle" ∧ (parseMethodDescriptor y.desc).map (fun d => d.parameters.length) = some n) (hR : rm.frames + 1 ≤ R.frames ∧ 8 + (maxL + 11) + rm.locals ≤ R.locals) (hn : As.length = n) (hst : st0 = As.reverse ++ .ref b :: rest) (hr : (rest.map fun v => v.category).sum ≤ 8) (d : decode cc pc = .ok (.invokespecial index, 3)) (hf : cells + rm.cells ≤ R.cells ∧ slots + rm.slots ≤ R.slots) {c1 s1 : Nat} (hf1 : cells + rm.cells ≤ c1 ∧ slots + rm.slots ≤ s1)
    (k : ∀ (r : Option Value) (h' : AH), post r h' → AW l D cl R nL X c1 s1 h' (pc + 3) lv (r.toList ++ rest)) : AW l D cl R nL X cells slots h pc lv st0 := fun H locs ls hP hS hl => by
  have hm : ∀ w ∈ ([.instanceMethod y, .initialized y.cls, .code y bytes maxL none] : List Cond), w.before (xa X) (xs X) = true := fun w h9 => M.2.2.2.2.1 w (hws w h9)
  refine ax_behind M.2.2.2.2.2.2.2.1 hP hS hl (va_runIN ⟨M.1, M.2.1, M.2.2.1, M.2.2.2.1, M.2.2.2.2.1⟩ (hM H.size) ⟨va_cnB (host := host) n M.2.2.2.2.1 (ax_goodIn hg ?_) rfl rfl rfl (M.2.2.2.2.2.2.2.2 _ hN).2 (hm _ (by simp)) hd hR, hy1, hm _ (by simp)⟩ ⟨ax_blind, ax_start M hP⟩ rfl hn hl.1 hst (lv_room hr) d hf) (fun r h' hp => ax_widen hf1.1 hf1.2 (k r h' hp))
  intro w hw
  rcases List.mem_cons.mp hw with hw | hw
  · exact hws w (by rw [hw]; simp)
  · exact hw
/-- a contract out of the walk of the body -/
theorem AC.of {y : MethodName} {ws ws' : List Cond} {rm : Room} {ret : Option FieldType} {av : List Value} {post : Option Value → AH → Prop} (hy : plainName y.cls = true) (hw : ws = Cond.code y cc nL ret :: ws') (hn : (lg_sl av).length ≤ nL)
    (body : ∀ X : CX, Mx D cl nL X cc y.cls ws' tys NN → Rx D cl rm X ret post → (xh X).name = y.name → AW l D cl rm nL X 0 0 h 0 (lv_args 0 av) []) : AC l D cl tys NN y ws rm av h post := by
  intro sz
  refine Met.ofW (cc := cc) (maxL := nL) (ret := ret) hy hw ?_
  intro p e s m args below meth c s₁ B hml hv
  obtain ⟨rfl, hsz, hP, hK, hN⟩ := hv
  subst hsz
  have hts := atoms_spec (ws := ws) B.pre
  have hl := lv_entry av (n := nL) hn
  rw [lg_entry_eq]
  exact body (p, e, s, m, av.toArray, below, meth, c, ah_A h s.heap.size, MQ below (Qx D cl (ah_A h s.heap.size) post) av.toArray s rm.cells rm.slots (ah_A h s.heap.size)) ⟨B.exec, B.bytes, hml, findClass_of_methodNamed B.named, fun w h9 => hts w (by rw [hw]; exact List.mem_cons_of_mem _ h9), hK, B.notSynchronized, fun q hq => Or.inr hq, hN⟩ ⟨rfl, B.returns⟩ (name_of_methodNamed B.named B.method).1 s.heap [] _ (hP.self _) va_S.rf hl
theorem ax_ret_i {c1 s1 : Nat} {r : Int32} {Φ : AH → Prop} (k : ∀ h' : AH, Φ h' → AW l D cl R nL X c1 s1 h' pc lv (.int r :: rest)) : ∀ (rv : Option Value) (h' : AH), (rv = some (.int r) ∧ Φ h') → AW l D cl R nL X c1 s1 h' pc lv (rv.toList ++ rest) := fun rv h' hp => by
  obtain ⟨e, hp⟩ := hp
  subst e
  exact k h' hp
theorem ax_ret_l {c1 s1 : Nat} {r : Int64} {Φ : AH → Prop} (k : ∀ h' : AH, Φ h' → AW l D cl R nL X c1 s1 h' pc lv (.long r :: rest)) : ∀ (rv : Option Value) (h' : AH), (rv = some (.long r) ∧ Φ h') → AW l D cl R nL X c1 s1 h' pc lv (rv.toList ++ rest) := fun rv h' hp => by
  obtain ⟨e, hp⟩ := hp
  subst e
  exact k h' hp
theorem ax_ret_v {c1 s1 : Nat} {Φ : AH → Prop} (k : ∀ h' : AH, Φ h' → AW l D cl R nL X c1 s1 h' pc lv rest) : ∀ (rv : Option Value) (h' : AH), (rv = none ∧ Φ h') → AW l D cl R nL X c1 s1 h' pc lv (rv.toList ++ rest) := fun rv h' hp => by
  obtain ⟨e, hp⟩ := hp
  subst e
  exact k h' hp
theorem ax_mmax (M : Mx D cl nL X cc own Ts tys NN) {index : Nat} (hws : ∀ w ∈ ([.methodLink own index Lib.Math.max.name, .static Lib.Math.max.name, .initialized "java/lang/Math", .code Lib.Math.max.name Lib.Math.max.code 2 (some .int)] : List Cond), w ∈ Ts) (hfr : 1 ≤ R.frames) (hlo : (rest.map fun v => v.category).sum + 13 ≤ R.locals) (hc : cells ≤ R.cells) (hs : slots ≤ R.slots) {x y : Int32} (d : decode cc pc = .ok (.invokestatic index, 3)) (k : AW l D cl R nL X cells slots h (pc + 3) lv (.int (if x < y then y else x) :: rest)) : AW l D cl R nL X cells slots h pc lv (.int y :: .int x :: rest) := fun H locs ls hP hS hl => by
  have hm := fun w h9 => M.2.2.2.2.1 w (hws w h9)
  exact va_mmax M.1 M.2.1 (by rw [M.2.2.1]; exact hl.1.symm) M.2.2.2.1 (hm _ (by simp)) (hm _ (by simp)) (hm _ (by simp)) (hm _ (by simp)) hfr hlo hc hs d (k H locs ls hP hS hl)
theorem ax_mmin (M : Mx D cl nL X cc own Ts tys NN) {index : Nat} (hws : ∀ w ∈ ([.methodLink own index Lib.Math.min.name, .static Lib.Math.min.name, .initialized "java/lang/Math", .code Lib.Math.min.name Lib.Math.min.code 2 (some .int)] : List Cond), w ∈ Ts) (hfr : 1 ≤ R.frames) (hlo : (rest.map fun v => v.category).sum + 13 ≤ R.locals) (hc : cells ≤ R.cells) (hs : slots ≤ R.slots) {x y : Int32} (d : decode cc pc = .ok (.invokestatic index, 3)) (k : AW l D cl R nL X cells slots h (pc + 3) lv (.int (if y < x then y else x) :: rest)) : AW l D cl R nL X cells slots h pc lv (.int y :: .int x :: rest) := fun H locs ls hP hS hl => by
  have hm := fun w h9 => M.2.2.2.2.1 w (hws w h9)
  exact va_mmin M.1 M.2.1 (by rw [M.2.2.1]; exact hl.1.symm) M.2.2.2.1 (hm _ (by simp)) (hm _ (by simp)) (hm _ (by simp)) (hm _ (by simp)) hfr hlo hc hs d (k H locs ls hP hS hl)
end AX
