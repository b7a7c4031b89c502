/-! the state of an object with all that hangs on it: kind K, number i, place k -/
abbrev ST : Type := (Nat → Nat → Nat → Int32) × (Nat → Nat → Nat → Int64)
def gi (f : ST) (K i k : Nat) : Int32 := f.1 K i k
def gl (f : ST) (K i k : Nat) : Int64 := f.2 K i k
def su (f : ST) (K i k : Nat) (v : Int32) : ST := (fun K' i' k' => if K' = K ∧ i' = i ∧ k' = k then v else f.1 K' i' k', f.2)
def sl (f : ST) (K i k : Nat) (v : Int64) : ST := (f.1, fun K' i' k' => if K' = K ∧ i' = i ∧ k' = k then v else f.2 K' i' k')
theorem gi_su (f : ST) (K i k : Nat) (v : Int32) (K' i' k' : Nat) : gi (su f K i k v) K' i' k' = if K' = K ∧ i' = i ∧ k' = k then v else gi f K' i' k' := rfl
theorem gl_sl (f : ST) (K i k : Nat) (v : Int64) (K' i' k' : Nat) : gl (sl f K i k v) K' i' k' = if K' = K ∧ i' = i ∧ k' = k then v else gl f K' i' k' := rfl
theorem gi_sl {f : ST} {K i k K' i' k' : Nat} {v : Int64} : gi (sl f K i k v) K' i' k' = gi f K' i' k' := rfl
theorem gl_su {f : ST} {K i k K' i' k' : Nat} {v : Int32} : gl (su f K i k v) K' i' k' = gl f K' i' k' := rfl
theorem gi_same {f : ST} {K i k : Nat} {v : Int32} : gi (su f K i k v) K i k = v := by simp [gi_su]
theorem gi_k {f : ST} {K i k K' i' k' : Nat} {v : Int32} (hk : k' ≠ k) : gi (su f K i k v) K' i' k' = gi f K' i' k' := by simp [gi_su, hk]
theorem gi_K {f : ST} {K i k K' i' k' : Nat} {v : Int32} (hk : K' ≠ K) : gi (su f K i k v) K' i' k' = gi f K' i' k' := by simp [gi_su, hk]
theorem gi_i {f : ST} {K i k K' i' k' : Nat} {v : Int32} (hk : i' ≠ i) : gi (su f K i k v) K' i' k' = gi f K' i' k' := by simp [gi_su, hk]
theorem gl_same {f : ST} {K i k : Nat} {v : Int64} : gl (sl f K i k v) K i k = v := by simp [gl_sl]
theorem gl_k {f : ST} {K i k K' i' k' : Nat} {v : Int64} (hk : k' ≠ k) : gl (sl f K i k v) K' i' k' = gl f K' i' k' := by simp [gl_sl, hk]
theorem gl_K {f : ST} {K i k K' i' k' : Nat} {v : Int64} (hk : K' ≠ K) : gl (sl f K i k v) K' i' k' = gl f K' i' k' := by simp [gl_sl, hk]
abbrev ix (i : Int32) : Nat := i.toNatClampNeg
abbrev inb (i : Int32) (n : Nat) : Prop := ¬ (i < 0 ∨ n ≤ i.toNatClampNeg)
abbrev isb (x : Int32) : Prop := x = 0 ∨ x = 1
theorem isb_narrow {x : Int32} (hx : isb x) : narrow .boolean (.int x) = .int x := by rcases hx with rfl | rfl <;> rfl
theorem isb_nar {x : Int32} (hx : isb x) : vp_nar .boolean x = x := by rcases hx with rfl | rfl <;> rfl
/-- the map h holds the state σ at the addresses al; elsewhere it is h0 -/
def SW (dm : Nat → Nat) (cf : (Nat → Nat → Nat) → Nat → Nat → (Nat → Int32) → (Nat → Int64) → va_E) (al : Nat → Nat → Nat) (σ : ST) (h0 h : AH) : Prop :=
  (∀ K i, i < dm K → h (al K i) = some (cf al K i (fun k => gi σ K i k) (fun k => gl σ K i k))) ∧ (∀ K i K' i', i < dm K → i' < dm K' → al K i = al K' i' → K = K' ∧ i = i') ∧ ∀ q, (∀ K i, i < dm K → q ≠ al K i) → h q = h0 q
section SWs
variable {dm : Nat → Nat} {cf : (Nat → Nat → Nat) → Nat → Nat → (Nat → Int32) → (Nat → Int64) → va_E} {al : Nat → Nat → Nat} {σ : ST} {h0 h : AH}
theorem SW.at (hG : SW dm cf al σ h0 h) (K i : Nat) (hi : i < dm K) : h (al K i) = some (cf al K i (fun k => gi σ K i k) (fun k => gl σ K i k)) := hG.1 K i hi
theorem SW.put (hG : SW dm cf al σ h0 h) (K i k : Nat) (v : Int32) {c : va_E} (hi : i < dm K) (hc : c = cf al K i (fun k' => if k' = k then v else gi σ K i k') (fun k' => gl σ K i k')) : SW dm cf al (su σ K i k v) h0 (ah_set h (al K i) c) := by
  refine ⟨fun K' i' hi' => ?_, hG.2.1, fun q hq => ?_⟩
  · by_cases he : al K' i' = al K i
    · obtain ⟨rfl, rfl⟩ := hG.2.1 K' i' K i hi' hi he
      rw [ah_same, hc]
      have e1 : (fun k' => if k' = k then v else gi σ K' i' k') = fun k' => gi (su σ K' i' k v) K' i' k' := by
        funext k'
        simp [gi_su]
      rw [e1]
      rfl
    · rw [ah_ne he, hG.1 K' i' hi']
      have e1 : (fun k' => gi σ K' i' k') = fun k' => gi (su σ K i k v) K' i' k' := by
        funext k'
        have hne : ¬ (K' = K ∧ i' = i ∧ k' = k) := fun ⟨h1, h2, _⟩ => he (by rw [h1, h2])
        simp [gi_su, hne]
      rw [e1]
      rfl
  · rw [ah_ne (hq K i hi)]
    exact hG.2.2 q hq
theorem SW.putl (hG : SW dm cf al σ h0 h) (K i k : Nat) (v : Int64) {c : va_E} (hi : i < dm K) (hc : c = cf al K i (fun k' => gi σ K i k') (fun k' => if k' = k then v else gl σ K i k')) : SW dm cf al (sl σ K i k v) h0 (ah_set h (al K i) c) := by
  refine ⟨fun K' i' hi' => ?_, hG.2.1, fun q hq => ?_⟩
  · by_cases he : al K' i' = al K i
    · obtain ⟨rfl, rfl⟩ := hG.2.1 K' i' K i hi' hi he
      rw [ah_same, hc]
      have e1 : (fun k' => if k' = k then v else gl σ K' i' k') = fun k' => gl (sl σ K' i' k v) K' i' k' := by
        funext k'
        simp [gl_sl]
      rw [e1]
      rfl
    · rw [ah_ne he, hG.1 K' i' hi']
      have e1 : (fun k' => gl σ K' i' k') = fun k' => gl (sl σ K i k v) K' i' k' := by
        funext k'
        have hne : ¬ (K' = K ∧ i' = i ∧ k' = k) := fun ⟨h1, h2, _⟩ => he (by rw [h1, h2])
        simp [gl_sl, hne]
      rw [e1]
      rfl
  · rw [ah_ne (hq K i hi)]
    exact hG.2.2 q hq
theorem SW.base {h1 : AH} (hG : SW dm cf al σ h0 h) (hh : ∀ q, (∀ K i, i < dm K → q ≠ al K i) → h0 q = h1 q) : SW dm cf al σ h1 h := ⟨hG.1, hG.2.1, fun q hq => (hG.2.2 q hq).trans (hh q hq)⟩
end SWs
/-- a loop: 'body' goes on with a new state, or ends it -/
def lp {S R : Type} (body : S → Option (S ⊕ R)) : Nat → S → Option R
  | 0, _ => none
  | n + 1, s => match body s with
    | none => none
    | some (.inl s') => lp body n s'
    | some (.inr r) => some r
theorem lp_walk {S R : Type} {body : S → Option (S ⊕ R)} (P : S → Prop) (Q : R → Prop) (hs : ∀ s x, body s = some x → (∀ s', x = .inl s' → P s') → (∀ r, x = .inr r → Q r) → P s) : ∀ n s r, lp body n s = some r → Q r → P s := by
  intro n
  induction n with
  | zero => intro s r h; cases h
  | succ n ih =>
    intro s r h hQ
    unfold lp at h
    cases hb : body s with
    | none => rw [hb] at h; cases h
    | some x =>
      rw [hb] at h
      refine hs s x hb (fun s' e => ?_) (fun r' e => ?_)
      · subst e
        exact ih s' r h hQ
      · subst e
        cases h
        exact hQ
theorem ob_t {τ : Type} {c : Prop} [Decidable c] {a b : Option τ} {r : τ} (E : (if c then a else b) = some r) (hc : c) : a = some r := by rwa [if_pos hc] at E
theorem ob_f {τ : Type} {c : Prop} [Decidable c] {a b : Option τ} {r : τ} (E : (if c then a else b) = some r) (hc : ¬ c) : b = some r := by rwa [if_neg hc] at E
theorem ob_c {τ : Type} {c : Prop} [Decidable c] {a : Option τ} {r : τ} (E : (if c then a else none) = some r) : c ∧ a = some r := by
  by_cases hc : c
  · exact ⟨hc, by rwa [if_pos hc] at E⟩
  · rw [if_neg hc] at E; cases E
theorem ob_b {τ υ : Type} {m : Option τ} {f : τ → Option υ} {r : υ} (E : m.bind f = some r) : ∃ q, m = some q ∧ f q = some r := by
  cases m with
  | none => cases E
  | some q => exact ⟨q, rfl, E⟩
/-- references out of numbers: a place of an array of objects is written -/
theorem rf_put {al : Nat → Nat → Nat} {K : Nat} {f : Nat → Int32} {i j : Nat} (hj : j < 2147483648) : va_up (fun e => some (al K (ix (f e)))) i (some (al K j)) = fun e => some (al K (ix (if e = i then nI j else f e))) := by
  funext e
  unfold va_up
  split
  · rw [show ix (nI j) = j from nI_clamp (by omega)]
  · rfl
theorem se_l {τ υ ω : Type} {f : τ → Option ω} {g : υ → Option ω} {a : τ} {r : ω} (E : Sum.elim f g (.inl a) = some r) : f a = some r := E
theorem se_r {τ υ ω : Type} {f : τ → Option ω} {g : υ → Option ω} {a : υ} {r : ω} (E : Sum.elim f g (.inr a) = some r) : g a = some r := E
theorem qe_l {τ υ : Type} {f : τ → Prop} {g : υ → Prop} {a : τ} (E : Sum.elim f g (.inl a)) : f a := E
theorem qe_r {τ υ : Type} {f : τ → Prop} {g : υ → Prop} {a : υ} (E : Sum.elim f g (.inr a)) : g a := E
theorem qi_l {τ υ : Type} {f : τ → Prop} {g : υ → Prop} {a : τ} (E : f a) : Sum.elim f g (.inl a) := E
theorem qi_r {τ υ : Type} {f : τ → Prop} {g : υ → Prop} {a : υ} (E : g a) : Sum.elim f g (.inr a) := E
theorem in_lt {j : Int32} {n : Nat} (hj : inb j n) : ix j < n := Nat.not_le.mp (fun q => hj (Or.inr q))
theorem ne_ti {x k : Int32} (hx : ¬ x = k) : x.toInt ≠ k.toInt := fun e => hx (Int32.toInt_inj.mp e)
section SWr
variable {l : Launch} {D : va_G} {cl : List vw_C} {R : Room} {nL : Nat} {X : CX} {cc : ByteArray} {own : String} {Ts : List Cond} {tys : List (ClassId × FieldType)} {NN : List Cond} {cells slots pc : Nat} {h h0 : AH} {lv : List (Nat × Value)} {rest : List Value}
variable {dm : Nat → Nat} {cf : (Nat → Nat → Nat) → Nat → Nat → (Nat → Int32) → (Nat → Int64) → va_E} {al : Nat → Nat → Nat} {σ : ST}
theorem sw_get (M : Mx D cl nL X cc own Ts tys NN) (hG : SW dm cf al σ h0 h) (K i : Nat) (hi : i < dm K) {C : String} {T : u_T} {N ci index : Nat} (hin : ∀ w ∈ u_ws C T N, w ∈ Ts) {fs : List Value} (hcell : cf al K i (fun k => gi σ K i k) (fun k => gl σ K i k) = .inr (ci, fs)) (hc : cl[ci]? = some (C, T, N)) (k0 : Nat) (hk : k0 < N) (hlink : Cond.fieldLink own index (T k0).1 (T k0).2.1 (T k0).2.2.1 ∈ Ts) {v : Value} (hv : fs[k0]? = some v) (d : decode cc pc = .ok (.getfield index, 3)) (k : AW l D cl R nL X cells slots h (pc + 3) lv (v :: rest)) : AW l D cl R nL X cells slots h pc lv (.ref (al K i) :: rest) :=
  ax_get M hin ((hG.at K i hi).trans (congrArg some hcell)) hc k0 hk hlink hv d k
theorem sw_getN (M : Mx D cl nL X cc own Ts tys NN) (hG : SW dm cf al σ h0 h) (K i : Nat) (hi : i < dm K) {C host : String} {T : u_T} {N ci index : Nat} (hin : ∀ w ∈ u_ws C T N, w ∈ Ts) {fs : List Value} (hcell : cf al K i (fun k => gi σ K i k) (fun k => gl σ K i k) = .inr (ci, fs)) (hc : cl[ci]? = some (C, T, N)) (k0 : Nat) (hk : k0 < N) (hlink : Cond.fieldLinkNest own index (T k0).1 (T k0).2.1 (T k0).2.2.1 host ∈ NN) {v : Value} (hv : fs[k0]? = some v) (d : decode cc pc = .ok (.getfield index, 3)) (k : AW l D cl R nL X cells slots h (pc + 3) lv (v :: rest)) : AW l D cl R nL X cells slots h pc lv (.ref (al K i) :: rest) :=
  ax_getN M hin ((hG.at K i hi).trans (congrArg some hcell)) hc k0 hk hlink hv d k
theorem sw_put (M : Mx D cl nL X cc own Ts tys NN) (hG : SW dm cf al σ h0 h) (K i : Nat) (hi : i < dm K) {C : String} {T : u_T} {N ci index : Nat} (hin : ∀ w ∈ u_ws C T N, w ∈ Ts) (ty0 : Nat → FieldType) (hty : ∀ k, k < N → parseFieldDescriptor (T k).2.2.1 = some (ty0 k)) (hnm : ∀ a, a < N → ∀ b, b < N → a ≠ b → (T a).2.1 ≠ (T b).2.1) {fs : List Value} (hcell : cf al K i (fun k => gi σ K i k) (fun k => gl σ K i k) = .inr (ci, fs)) (hc : cl[ci]? = some (C, T, N)) (k0 : Nat) (hk : k0 < N) (hlink : Cond.fieldLink own index (T k0).1 (T k0).2.1 (T k0).2.2.1 ∈ Ts) (hfin : (T k0).2.2.2 = false) {x : Int32} (hn : narrow (ty0 k0) (.int x) = .int x) (hfit : fits (ty0 k0) (.int x) = true) (hlen : k0 < fs.length) (hnew : .inr (ci, fs.set k0 (.int x)) = cf al K i (fun k' => if k' = k0 then x else gi σ K i k') (fun k' => gl σ K i k')) (d : decode cc pc = .ok (.putfield index, 3)) (k : ∀ h1 : AH, SW dm cf al (su σ K i k0 x) h0 h1 → AW l D cl R nL X cells slots h1 (pc + 3) lv rest) : AW l D cl R nL X cells slots h pc lv (.int x :: .ref (al K i) :: rest) :=
  ax_put M hin ty0 hty hnm ((hG.at K i hi).trans (congrArg some hcell)) hc k0 hk hlink hfin hn hfit hlen d (k _ (hG.put K i k0 x hi hnew))
theorem sw_putN (M : Mx D cl nL X cc own Ts tys NN) (hG : SW dm cf al σ h0 h) (K i : Nat) (hi : i < dm K) {C host : String} {T : u_T} {N ci index : Nat} (hin : ∀ w ∈ u_ws C T N, w ∈ Ts) (ty0 : Nat → FieldType) (hty : ∀ k, k < N → parseFieldDescriptor (T k).2.2.1 = some (ty0 k)) (hnm : ∀ a, a < N → ∀ b, b < N → a ≠ b → (T a).2.1 ≠ (T b).2.1) {fs : List Value} (hcell : cf al K i (fun k => gi σ K i k) (fun k => gl σ K i k) = .inr (ci, fs)) (hc : cl[ci]? = some (C, T, N)) (k0 : Nat) (hk : k0 < N) (hlink : Cond.fieldLinkNest own index (T k0).1 (T k0).2.1 (T k0).2.2.1 host ∈ NN) (hfin : (T k0).2.2.2 = false) {x : Int32} (hn : narrow (ty0 k0) (.int x) = .int x) (hfit : fits (ty0 k0) (.int x) = true) (hlen : k0 < fs.length) (hnew : .inr (ci, fs.set k0 (.int x)) = cf al K i (fun k' => if k' = k0 then x else gi σ K i k') (fun k' => gl σ K i k')) (d : decode cc pc = .ok (.putfield index, 3)) (k : ∀ h1 : AH, SW dm cf al (su σ K i k0 x) h0 h1 → AW l D cl R nL X cells slots h1 (pc + 3) lv rest) : AW l D cl R nL X cells slots h pc lv (.int x :: .ref (al K i) :: rest) :=
  ax_putN M hin ty0 hty hnm ((hG.at K i hi).trans (congrArg some hcell)) hc k0 hk hlink hfin hn hfit hlen d (k _ (hG.put K i k0 x hi hnew))
theorem sw_iald (M : Mx D cl nL X cc own Ts tys NN) (hG : SW dm cf al σ h0 h) (K i : Nat) (hi : i < dm K) {cA : ClassId} {n : Nat} (hcell : cf al K i (fun k => gi σ K i k) (fun k => gl σ K i k) = .inl (cA, n, .inl (fun k => gi σ K i k))) (t0 : Nat) (ht : tys[t0]? = some (cA, .int)) {j : Int32} (hj : inb j n) (d : decode cc pc = .ok (.iaload, 1)) (k : AW l D cl R nL X cells slots h (pc + 1) lv (.int (gi σ K i (ix j)) :: rest)) : AW l D cl R nL X cells slots h pc lv (.int j :: .ref (al K i) :: rest) :=
  ax_iald M ((hG.at K i hi).trans (congrArg some hcell)) t0 ht hj d k
theorem sw_iast (M : Mx D cl nL X cc own Ts tys NN) (hG : SW dm cf al σ h0 h) (K i : Nat) (hi : i < dm K) {cA : ClassId} {n : Nat} (hcell : cf al K i (fun k => gi σ K i k) (fun k => gl σ K i k) = .inl (cA, n, .inl (fun k => gi σ K i k))) (t0 : Nat) (ht : tys[t0]? = some (cA, .int)) {j x : Int32} (hj : inb j n) (hnew : .inl (cA, n, .inl (fun k' => if k' = ix j then x else gi σ K i k')) = cf al K i (fun k' => if k' = ix j then x else gi σ K i k') (fun k' => gl σ K i k')) (d : decode cc pc = .ok (.iastore, 1)) (k : ∀ h1 : AH, SW dm cf al (su σ K i (ix j) x) h0 h1 → AW l D cl R nL X cells slots h1 (pc + 1) lv rest) : AW l D cl R nL X cells slots h pc lv (.int x :: .int j :: .ref (al K i) :: rest) :=
  ax_iast M ((hG.at K i hi).trans (congrArg some hcell)) t0 ht hj d (k _ (hG.put K i (ix j) x hi hnew))
theorem sw_zald (M : Mx D cl nL X cc own Ts tys NN) (hG : SW dm cf al σ h0 h) (K i : Nat) (hi : i < dm K) {cA : ClassId} {n : Nat} (hcell : cf al K i (fun k => gi σ K i k) (fun k => gl σ K i k) = .inl (cA, n, .inl (fun k => gi σ K i k))) (t0 : Nat) (ht : tys[t0]? = some (cA, .boolean)) {j : Int32} (hj : inb j n) (d : decode cc pc = .ok (.baload, 1)) (k : AW l D cl R nL X cells slots h (pc + 1) lv (.int (gi σ K i (ix j)) :: rest)) : AW l D cl R nL X cells slots h pc lv (.int j :: .ref (al K i) :: rest) :=
  ax_zald M ((hG.at K i hi).trans (congrArg some hcell)) t0 ht hj d k
theorem sw_zast (M : Mx D cl nL X cc own Ts tys NN) (hG : SW dm cf al σ h0 h) (K i : Nat) (hi : i < dm K) {cA : ClassId} {n : Nat} (hcell : cf al K i (fun k => gi σ K i k) (fun k => gl σ K i k) = .inl (cA, n, .inl (fun k => gi σ K i k))) (t0 : Nat) (ht : tys[t0]? = some (cA, .boolean)) {j x : Int32} (hj : inb j n) (hx : isb x) (hnew : .inl (cA, n, .inl (fun k' => if k' = ix j then x else gi σ K i k')) = cf al K i (fun k' => if k' = ix j then x else gi σ K i k') (fun k' => gl σ K i k')) (d : decode cc pc = .ok (.bastore, 1)) (k : ∀ h1 : AH, SW dm cf al (su σ K i (ix j) x) h0 h1 → AW l D cl R nL X cells slots h1 (pc + 1) lv rest) : AW l D cl R nL X cells slots h pc lv (.int x :: .int j :: .ref (al K i) :: rest) :=
  ax_zast M ((hG.at K i hi).trans (congrArg some hcell)) t0 ht hj (isb_nar hx) d (k _ (hG.put K i (ix j) x hi hnew))
theorem sw_lald (M : Mx D cl nL X cc own Ts tys NN) (hG : SW dm cf al σ h0 h) (K i : Nat) (hi : i < dm K) {cA : ClassId} {n : Nat} (hcell : cf al K i (fun k => gi σ K i k) (fun k => gl σ K i k) = .inl (cA, n, .inr (.inl (fun k => gl σ K i k)))) (t0 : Nat) (ht : tys[t0]? = some (cA, .long)) {j : Int32} (hj : inb j n) (d : decode cc pc = .ok (.laload, 1)) (k : AW l D cl R nL X cells slots h (pc + 1) lv (.long (gl σ K i (ix j)) :: rest)) : AW l D cl R nL X cells slots h pc lv (.int j :: .ref (al K i) :: rest) :=
  ax_lald M ((hG.at K i hi).trans (congrArg some hcell)) t0 ht hj d k
theorem sw_last (M : Mx D cl nL X cc own Ts tys NN) (hG : SW dm cf al σ h0 h) (K i : Nat) (hi : i < dm K) {cA : ClassId} {n : Nat} (hcell : cf al K i (fun k => gi σ K i k) (fun k => gl σ K i k) = .inl (cA, n, .inr (.inl (fun k => gl σ K i k)))) (t0 : Nat) (ht : tys[t0]? = some (cA, .long)) {j : Int32} {x : Int64} (hj : inb j n) (hnew : .inl (cA, n, .inr (.inl (fun k' => if k' = ix j then x else gl σ K i k'))) = cf al K i (fun k' => gi σ K i k') (fun k' => if k' = ix j then x else gl σ K i k')) (d : decode cc pc = .ok (.lastore, 1)) (k : ∀ h1 : AH, SW dm cf al (sl σ K i (ix j) x) h0 h1 → AW l D cl R nL X cells slots h1 (pc + 1) lv rest) : AW l D cl R nL X cells slots h pc lv (.long x :: .int j :: .ref (al K i) :: rest) :=
  ax_last M ((hG.at K i hi).trans (congrArg some hcell)) t0 ht hj d (k _ (hG.putl K i (ix j) x hi hnew))
/-- an array of objects: place j holds the object of kind K2 and number g j -/
theorem sw_aldq (M : Mx D cl nL X cc own Ts tys NN) (hG : SW dm cf al σ h0 h) (K i : Nat) (hi : i < dm K) {K2 : Nat} {g : Nat → Nat} {cA : ClassId} {n : Nat} (hcell : cf al K i (fun k => gi σ K i k) (fun k => gl σ K i k) = .inl (cA, n, .inr (.inr (.inr (.inr (fun e => some (al K2 (g e)))))))) (t0 : Nat) {ty : FieldType} (ht : tys[t0]? = some (cA, ty)) (hty : ty.isReference = true) {j : Int32} (hj : inb j n) (d : decode cc pc = .ok (.aaload, 1)) (k : AW l D cl R nL X cells slots h (pc + 1) lv (.ref (al K2 (g (ix j))) :: rest)) : AW l D cl R nL X cells slots h pc lv (.int j :: .ref (al K i) :: rest) :=
  ax_aldq M ((hG.at K i hi).trans (congrArg some hcell)) t0 ht hty hj rfl d k
theorem sw_astq (M : Mx D cl nL X cc own Ts tys NN) (hG : SW dm cf al σ h0 h) (K i : Nat) (hi : i < dm K) {K2 j2 : Nat} (hj2 : j2 < dm K2) (hb2 : j2 < 2147483648) {cA : ClassId} {n : Nat} (hcell : cf al K i (fun k => gi σ K i k) (fun k => gl σ K i k) = .inl (cA, n, .inr (.inr (.inr (.inr (fun e => some (al K2 (ix (gi σ K i e))))))))) (t0 : Nat) {ci : Nat} {r : vw_C} {vs : List Value} (ht : tys[t0]? = some (cA, .object r.1)) (hc2 : cf al K2 j2 (fun k => gi σ K2 j2 k) (fun k => gl σ K2 j2 k) = .inr (ci, vs)) (hc : cl[ci]? = some r) {j : Int32} (hj : inb j n) (hnew : .inl (cA, n, .inr (.inr (.inr (.inr (fun e => some (al K2 (ix (if e = ix j then nI j2 else gi σ K i e)))))))) = cf al K i (fun k' => if k' = ix j then nI j2 else gi σ K i k') (fun k' => gl σ K i k')) (d : decode cc pc = .ok (.aastore, 1)) (k : ∀ h1 : AH, SW dm cf al (su σ K i (ix j) (nI j2)) h0 h1 → AW l D cl R nL X cells slots h1 (pc + 1) lv rest) : AW l D cl R nL X cells slots h pc lv (.ref (al K2 j2) :: .int j :: .ref (al K i) :: rest) := by
  refine ax_astq M ((hG.at K i hi).trans (congrArg some hcell)) t0 ht ((hG.at K2 j2 hj2).trans (congrArg some hc2)) hc hj d (k _ (hG.put K i (ix j) (nI j2) hi ?_))
  rw [rf_put hb2]
  exact hnew
end SWr
