/-! PURE: nested: the class's table -/
theorem sm_up {f : Nat → Nat} {a : Nat} : ∀ b, a ≤ b → sm f a ≤ sm f b
  | 0, h => by rw [show a = 0 by omega]; exact Nat.le_refl _
  | b + 1, h => by
    by_cases e : a = b + 1
    · rw [e]; exact Nat.le_refl _
    · exact Nat.le_trans (sm_up b (by omega)) (Nat.le_add_right _ _)
theorem sm_up1 {f : Nat → Nat} {a b : Nat} (h : a < b) (ha : f a = 1) : sm f a < sm f b := by
  have h1 : sm f (a + 1) = sm f a + f a := rfl
  have h2 := sm_up (f := f) (a := a + 1) b h
  omega
/-- the actors in their order -/
def LK (g : GD) (l : Nat → Nat) (K : Nat) : Prop := K = sm (th g) 8 ∧ ∀ i, i < K → l i < 8 ∧ th g (l i) = 1 ∧ sm (th g) (l i) = i
theorem lk_ex {g : GD} (hw : WG g) : ∃ l, LK g l (sm (th g) 8) := by
  have key : ∀ n, n ≤ 8 → ∃ l : Nat → Nat, ∀ i, i < sm (th g) n → l i < n ∧ th g (l i) = 1 ∧ sm (th g) (l i) = i := by
    intro n
    induction n with
    | zero => exact fun _ => ⟨fun _ => 0, fun i h => absurd h (Nat.not_lt_zero _)⟩
    | succ n ih =>
      intro hn
      obtain ⟨l, hl⟩ := ih (by omega)
      have h1 : sm (th g) (n + 1) = sm (th g) n + th g n := rfl
      have h2 := (hw.2.1 n (by omega)).1
      by_cases ht : th g n = 1
      · refine ⟨up l (sm (th g) n) n, fun i hi => ?_⟩
        by_cases hin : i = sm (th g) n
        · subst hin
          rw [up_same]
          exact ⟨by omega, ht, rfl⟩
        · rw [up_ne hin]
          obtain ⟨q1, q2, q3⟩ := hl i (by omega)
          exact ⟨by omega, q2, q3⟩
      · refine ⟨l, fun i hi => ?_⟩
        obtain ⟨q1, q2, q3⟩ := hl i (by omega)
        exact ⟨by omega, q2, q3⟩
  obtain ⟨l, hl⟩ := key 8 (Nat.le_refl _)
  exact ⟨l, rfl, hl⟩
section N2
variable {g : GD} {pm : Nat → Int32} {pe r l : Nat → Nat} {σ ρ : ST} {K : Nat}
theorem LK.le (hw : WG g) (h : LK g l K) : K ≤ 8 := by
  have := sm_le (f := th g) (b := 1) 8 (fun a ha => (hw.2.1 a ha).1)
  rw [h.1]
  omega
theorem LK.ll (hw : WG g) (h : LK g l K) : LL g l K := ⟨h.le hw, fun i hi => ⟨(h.2 i hi).1, (h.2 i hi).2.1⟩⟩
theorem LK.rk (h : LK g l K) {a : Nat} (ha : a < 8) (ta : th g a = 1) : sm (th g) a < K ∧ l (sm (th g) a) = a := by
  have h1 : sm (th g) a < K := by rw [h.1]; exact sm_up1 ha ta
  refine ⟨h1, ?_⟩
  obtain ⟨q1, q2, q3⟩ := h.2 _ h1
  apply Classical.byContradiction
  intro hne
  rcases Nat.lt_or_gt_of_ne hne with h2 | h2
  · have := sm_up1 (f := th g) h2 q2
    omega
  · have := sm_up1 (f := th g) h2 ta
    omega
theorem LK.lt (h : LK g l K) {i j : Nat} (hij : i < j) (hj : j < K) : l i < l j := by
  obtain ⟨q1, q2, q3⟩ := h.2 i (by omega)
  obtain ⟨p1, p2, p3⟩ := h.2 j hj
  apply Classical.byContradiction
  intro hne
  have := sm_up (f := th g) (a := l j) (l i) (by omega)
  omega
theorem C_list_eq (hw : WG g) (hc : GC g pm pe σ) (hl : LK g l K) : ∃ σ', C_listActors σ = some (nI K, σ') ∧ (∀ K i k, K ≠ 6 → gi σ' K i k = gi σ K i k) ∧ CL l K σ' := by
  unfold C_listActors
  obtain ⟨⟨t, y, x⟩, hr, f1, f2, f3⟩ : ∃ r : ST × Int32 × Int32, lp (fun s1 : ST × Int32 × Int32 =>
  if 8 ≤ s1.2.2 then
  (some (.inr ((s1.1, s1.2.1, s1.2.2)))) else
  (if inb s1.2.2 8 then 
  (if (gi s1.1 1 (ix s1.2.2) 0) = 0 then
  (some (.inl ((s1.1, s1.2.1, s1.2.2 + 1)))) else
  (if inb s1.2.1 8 then 
  (some (.inl ((su s1.1 6 0 (ix s1.2.1) s1.2.2, s1.2.1 + 1, s1.2.2 + 1)))) else none)) else none)) 1000 ((σ, 0, 0)) = some r ∧ (∀ K i k, K ≠ 6 → gi r.1 K i k = gi σ K i k) ∧ r.2.1 = nI (sm (th g) 8) ∧ ∀ a, a < 8 → th g a = 1 → gi r.1 6 0 (sm (th g) a) = nI a := by
    refine lp_cnt (fun j s => s.2.2 = nI j ∧ (∀ K i k, K ≠ 6 → gi s.1 K i k = gi σ K i k) ∧ s.2.1 = nI (sm (th g) j) ∧ ∀ a, a < j → th g a = 1 → gi s.1 6 0 (sm (th g) a) = nI a) 8 _ ?_ ?_ 1000 0 (σ, 0, 0) (by omega) (by omega) ⟨rfl, fun _ _ _ _ => rfl, rfl, fun a h => by omega⟩
    · intro j s hj hI
      obtain ⟨t, y, x⟩ := s
      obtain ⟨e1, e2, e3, e4⟩ := hI
      have e1 : x = nI j := e1
      have e3 : y = nI (sm (th g) j) := e3
      subst e1 e3
      left
      dsimp only at e2 e4 ⊢
      have w1 := (hw.2.1 j hj).1
      have h1 : sm (th g) (j + 1) = sm (th g) j + th g j := rfl
      rw [if_neg (lt8 hj), if_pos (nb hj (by decide)), nx (by omega), e2 1 j 0 (by omega), (hc.2.1 j hj).1, n_add1]
      by_cases ht : th g j = 1
      · have hlt : sm (th g) j < 8 := by
          have := (hl.rk hj ht).1
          have := hl.le hw
          omega
        rw [if_neg (by rw [ht]; decide), if_pos (nb hlt (by decide)), nx (by omega), n_add1]
        refine ⟨_, rfl, rfl, fun K i k h => ?_, ?_, fun a ha ta => ?_⟩
        · dsimp only; rw [gi_K h]; exact e2 K i k h
        · dsimp only; rw [h1, ht]
        · dsimp only
          by_cases haj : a = j
          · subst haj; rw [gi_same]
          · have := sm_up1 (f := th g) (show a < j by omega) ta
            rw [gi_k (by omega)]; exact e4 a (by omega) ta
      · rw [if_pos (by rw [show th g j = 0 by omega]; rfl)]
        refine ⟨_, rfl, rfl, e2, ?_, fun a ha ta => ?_⟩
        · dsimp only; rw [h1, show th g j = 0 by omega]; rfl
        · dsimp only
          by_cases haj : a = j
          · subst haj; exact absurd ta ht
          · exact e4 a (by omega) ta
    · intro s hI
      obtain ⟨t, y, x⟩ := s
      obtain ⟨e1, e2, e3, e4⟩ := hI
      have e1 : x = nI 8 := e1
      subst e1
      dsimp only at e2 e3 e4 ⊢
      rw [if_pos ge8]
      exact ⟨_, rfl, e2, e3, fun a ha => e4 a ha⟩
  have f2 : y = nI (sm (th g) 8) := f2
  subst f2
  rw [hr]
  dsimp only at f1 f3
  refine ⟨t, by rw [hl.1]; rfl, f1, fun i hi => ?_⟩
  obtain ⟨q1, q2, q3⟩ := hl.2 i hi
  have := f3 _ q1 q2
  rw [q3] at this
  exact this
def FrN (σ σ' : ST) : Prop := ∀ K i k, K ≠ 6 → K ≠ 9 → gi σ' K i k = gi σ K i k
def Fr9 (σ σ' : ST) : Prop := ∀ K i k, K ≠ 9 → gi σ' K i k = gi σ K i k
theorem C_room_eq (hw : WG g) (hc : GC g pm pe σ) (hl : LK g l K) (hK : 1 ≤ K) (hr : ∀ a, a < 8 → th g a = 1 → 1 ≤ r a ∧ r a ≤ 64) (h5 : CR g r σ) : ∃ σ', C_nestedRoom σ = some (nI (co (cc g r l) 8 0 (K - 1)), σ') ∧ FrN σ σ' := by
  have h8 := hl.le hw
  have hll := hl.ll hw
  obtain ⟨σ1, a1, a2, a3⟩ := C_list_eq hw hc hl
  have hc1 : GC g pm pe σ1 := hc.cg (fun K i k h => a2 K i k (by omega))
  have h51 : CR g r σ1 := fun a ha ta => by rw [a2 1 a 5 (by omega)]; exact h5 a ha ta
  unfold C_nestedRoom
  rw [a1]
  simp only [Option.bind_some]
  obtain ⟨r1, hr1, b1, b2⟩ : ∃ r : ST × Int32, lp (fun s1 : ST × Int32 =>
  if nI K ≤ s1.2 then
  (some (.inr ((s1.1, s1.2)))) else
  (if inb s1.2 8 then 
  (some (.inl ((su s1.1 9 (ix s1.2) (ix s1.2) 0, s1.2 + 1)))) else none)) 1000 ((σ1, 0)) = some r ∧ Fr9 σ1 r.1 ∧ ∀ i, i < K → gi r.1 9 i i = nI 0 := by
    refine lp_cnt (fun j s => s.2 = nI j ∧ Fr9 σ1 s.1 ∧ ∀ i, i < j → gi s.1 9 i i = nI 0) K _ ?_ ?_ 1000 0 (σ1, 0) (by omega) (by omega) ⟨rfl, fun _ _ _ _ => rfl, fun a h => by omega⟩
    · intro j s hj hI
      obtain ⟨t, x⟩ := s
      obtain ⟨e1, e2, e3⟩ := hI
      have e1 : x = nI j := e1
      subst e1
      left
      dsimp only at e2 e3 ⊢
      rw [if_neg (by rw [n_le (by omega) (by omega)]; omega), if_pos (nb (by omega) (by decide)), nx (by omega), n_add1]
      refine ⟨_, rfl, rfl, fun K i k h => ?_, fun i hi => ?_⟩
      · dsimp only; rw [gi_K h]; exact e2 K i k h
      · dsimp only
        by_cases hij : i = j
        · subst hij; rw [gi_same]; rfl
        · rw [gi_k hij]; exact e3 i (by omega)
    · intro s hI
      obtain ⟨t, x⟩ := s
      obtain ⟨e1, e2, e3⟩ := hI
      have e1 : x = nI K := e1
      subst e1
      dsimp only at e2 e3 ⊢
      rw [if_pos (by rw [n_le (by omega) (by omega)]; omega)]
      exact ⟨_, rfl, e2, e3⟩
  rw [hr1]
  simp only [Option.bind_some]
  obtain ⟨r2, hr2, b3, b4⟩ : ∃ q : ST × Int32, lp (fun s2 : ST × Int32 =>
  if nI K < s2.2 then
  (some (.inr ((s2.1, s2.2)))) else
  ((lp (fun s3 : ST × Int32 =>
  if nI K < (s3.2 + s2.2) then
  (some (.inr ((s3.1, s3.2)))) else
  (if inb s3.2 8 then 
  ((C_costOfStretch s3.1 s3.2 ((s3.2 + s2.2) - 1)).bind (fun b2 => 
  (if inb ((s3.2 + s2.2) - 1) 8 then 
  (some (.inl ((su s3.1 9 (ix s3.2) (ix ((s3.2 + s2.2) - 1)) b2, s3.2 + 1)))) else none))) else none)) 1000 ((s2.1, 0))).bind (fun r3 : ST × Int32 =>
  some (.inl ((r3.1, s2.2 + 1)))))) 1000 ((r1.1, 2)) = some q ∧ Fr9 σ1 q.1 ∧ ∀ i j, i ≤ j → j < K → gi q.1 9 i j = nI (co (cc g r l) 8 i j) := by
    refine lp_cnt (fun n s => s.2 = nI (n + 2) ∧ Fr9 σ1 s.1 ∧ ∀ i j, i ≤ j → j < K → j ≤ i + n → gi s.1 9 i j = nI (co (cc g r l) 8 i j)) (K - 1) _ ?_ ?_ 1000 0 (r1.1, 2) (by omega) (by omega) ⟨rfl, b1, fun i j h1 h2 h3 => ?_⟩
    · intro n s hn hI
      obtain ⟨t, x⟩ := s
      obtain ⟨e1, e2, e3⟩ := hI
      have e1 : x = nI (n + 2) := e1
      subst e1
      left
      dsimp only at e2 e3 ⊢
      rw [if_neg (by rw [n_lt (by omega) (by omega)]; omega)]
      obtain ⟨⟨t', x'⟩, hr3, d1, d2⟩ : ∃ q : ST × Int32, lp (fun s3 : ST × Int32 =>
  if nI K < (s3.2 + nI (n + 2)) then
  (some (.inr ((s3.1, s3.2)))) else
  (if inb s3.2 8 then 
  ((C_costOfStretch s3.1 s3.2 ((s3.2 + nI (n + 2)) - 1)).bind (fun b2 => 
  (if inb ((s3.2 + nI (n + 2)) - 1) 8 then 
  (some (.inl ((su s3.1 9 (ix s3.2) (ix ((s3.2 + nI (n + 2)) - 1)) b2, s3.2 + 1)))) else none))) else none)) 1000 ((t, 0)) = some q ∧ Fr9 σ1 q.1 ∧ ∀ i j, i ≤ j → j < K → j ≤ i + (n + 1) → gi q.1 9 i j = nI (co (cc g r l) 8 i j) := by
        refine lp_cnt (fun m s => s.2 = nI m ∧ Fr9 σ1 s.1 ∧ ∀ i j, i ≤ j → j < K → (j ≤ i + n ∨ (j = i + (n + 1) ∧ i < m)) → gi s.1 9 i j = nI (co (cc g r l) 8 i j)) (K - n - 1) _ ?_ ?_ 1000 0 (t, 0) (by omega) (by omega) ⟨rfl, e2, fun i j h1 h2 h3 => e3 i j h1 h2 (by omega)⟩
        · intro m s hm hI
          obtain ⟨u, x⟩ := s
          obtain ⟨y1, y2, y3⟩ := hI
          have y1 : x = nI m := y1
          subst y1
          left
          dsimp only at y2 y3 ⊢
          have hcu : GC g pm pe u := hc1.cg (fun K i k h => y2 K i k (by omega))
          have h5u : CR g r u := fun a ha ta => by rw [y2 1 a 5 (by omega)]; exact h51 a ha ta
          have h6u : CL l K u := fun i hi => by rw [y2 6 0 i (by omega)]; exact a3 i hi
          rw [nI_add, if_neg (by rw [n_lt (by omega) (by omega)]; omega), if_pos (nb (by omega) (by decide)), show (1 : Int32) = nI 1 from rfl, pk_sub (by omega), show m + (n + 2) - 1 = m + (n + 1) by omega, C_cost_eq hw hcu hll hr h6u h5u (show m < m + (n + 1) by omega) (by omega) (fun k h1 h2 => ⟨y3 m k (by omega) (by omega) (by omega), y3 (k + 1) _ (by omega) (by omega) (by omega)⟩)]
          simp only [Option.bind_some]
          rw [if_pos (nb (by omega) (by decide)), nx (by omega), nx (by omega), nI_add]
          refine ⟨_, rfl, rfl, fun K i k h => ?_, fun i j h1 h2 h3 => ?_⟩
          · dsimp only; rw [gi_K h]; exact y2 K i k h
          · dsimp only
            by_cases hij : i = m ∧ j = m + (n + 1)
            · obtain ⟨rfl, rfl⟩ := hij
              rw [gi_same]
            · rw [gi0 (by omega)]; exact y3 i j h1 h2 (by omega)
        · intro s hI
          obtain ⟨u, x⟩ := s
          obtain ⟨y1, y2, y3⟩ := hI
          have y1 : x = nI (K - n - 1) := y1
          subst y1
          dsimp only at y2 y3 ⊢
          rw [nI_add, if_pos (by rw [n_lt (by omega) (by omega)]; omega)]
          exact ⟨_, rfl, y2, fun i j h1 h2 h3 => y3 i j h1 h2 (by omega)⟩
      rw [hr3]
      simp only [Option.bind_some]
      rw [n_add1]
      exact ⟨_, rfl, rfl, d1, fun i j h1 h2 h3 => d2 i j h1 h2 h3⟩
    · intro s hI
      obtain ⟨t, x⟩ := s
      obtain ⟨e1, e2, e3⟩ := hI
      have e1 : x = nI (K - 1 + 2) := e1
      subst e1
      dsimp only at e2 e3 ⊢
      rw [if_pos (by rw [n_lt (by omega) (by omega)]; omega)]
      exact ⟨_, rfl, e2, fun i j h1 h2 => e3 i j h1 h2 (by omega)⟩
    · have hij : j = i := by omega
      subst hij
      dsimp only
      rw [b2 j h2, co_self]
  rw [hr2]
  simp only [Option.bind_some]
  have i0 : ix (0 : Int32) = 0 := nx (i := 0) (by omega)
  rw [if_neg (show ¬ nI K = 0 by rw [show (0 : Int32) = nI 0 from rfl, n_eq (by omega) (by omega)]; omega), if_pos (show inb 0 8 from nb (i := 0) (by omega) (by decide)), i0, show (1 : Int32) = nI 1 from rfl, pk_sub hK, if_pos (nb (by omega) (by decide)), nx (by omega), b4 0 (K - 1) (by omega) (by omega)]
  exact ⟨_, rfl, fun K i k h1 h2 => (b3 K i k h2).trans (a2 K i k h1)⟩
def okE (g : GD) (e : Nat) : Prop := fr g e = tt g e ∨ (fr g e < tt g e ∧ dl g e = 0)
abbrev cnb (σ : ST) : Int32 → Option (Int32 ⊕ (Int32 ⊕ Int32)) := fun s1 : Int32 =>
  if (gi σ 0 0 5) ≤ s1 then
  (some (.inr (.inl s1))) else
  (if inb s1 12 then 
  (if ix (gi σ 5 0 (ix s1)) < 12 then 
  (if (gi σ 2 (ix (gi σ 5 0 (ix s1))) 2) ≤ (gi σ 2 (ix (gi σ 5 0 (ix s1))) 1) then
  (if (0 : Int32) = 0 then
  ((C_Edge_isLoop σ (ix (gi σ 5 0 (ix s1)))).bind (fun b1 => 
  (if b1 = 0 then
  (some (.inr (.inr 0))) else
  (some (.inl (s1 + 1)))))) else
  (some (.inl (s1 + 1)))) else
  (if (gi σ 2 (ix (gi σ 5 0 (ix s1))) 5) = 0 then
  (if (1 : Int32) = 0 then
  ((C_Edge_isLoop σ (ix (gi σ 5 0 (ix s1)))).bind (fun b3 => 
  (if b3 = 0 then
  (some (.inr (.inr 0))) else
  (some (.inl (s1 + 1)))))) else
  (some (.inl (s1 + 1)))) else
  (if (0 : Int32) = 0 then
  ((C_Edge_isLoop σ (ix (gi σ 5 0 (ix s1)))).bind (fun b2 => 
  (if b2 = 0 then
  (some (.inr (.inr 0))) else
  (some (.inl (s1 + 1)))))) else
  (some (.inl (s1 + 1)))))) else none) else none)
theorem C_canNest_def (σ : ST) : C_canNest σ = (lp (cnb σ) 1000 0).bind (fun r1 : (Int32) ⊕ (Int32) => Sum.elim (fun o1 : Int32 =>
  (some 1)) (fun v1 : Int32 => some v1) r1) := rfl
theorem C_can_nest (hw : WG g) (hc : GC g pm pe σ) : ((∀ e, e < ne g → okE g e) ∧ C_canNest σ = some 1) ∨ (∃ e, e < ne g ∧ ¬ okE g e ∧ (∀ j, j < e → okE g j) ∧ C_canNest σ = some 0) := by
  have h12 := hw.1
  have step : ∀ e, e < ne g → okE g e → cnb σ (nI e) = some (.inl (nI (e + 1))) := by
    intro e he hok
    obtain ⟨w1, w2, w3, w4, w5, w6, w7, w8, w9⟩ := hw.2.2 e he
    obtain ⟨q1, q2⟩ := hc.2.2.1 e (by omega)
    obtain ⟨c1, c2, c3, c4, c5⟩ := hc.2.2.2.2 e he
    unfold cnb
    rw [hc.1, if_neg (by rw [n_le (by omega) (by omega)]; omega), if_pos (nb (by omega) (by decide)), nx (by omega), q1, nx (by omega), if_pos q2, c1, c2, c5, n_add1]
    unfold C_Edge_isLoop
    rw [c1, c2]
    rcases hok with h | ⟨h1, h2⟩
    · rw [if_pos (by rw [n_le (by omega) (by omega)]; omega), if_pos (show (0 : Int32) = 0 from rfl), if_pos (by rw [h])]
      rfl
    · rw [if_neg (by rw [n_le (by omega) (by omega)]; omega), if_pos (by rw [h2]; rfl), if_neg (show ¬ (1 : Int32) = 0 by decide)]
  by_cases hall : ∀ e, e < ne g → okE g e
  · left
    refine ⟨hall, ?_⟩
    rw [C_canNest_def, show lp (cnb σ) 1000 0 = lp (cnb σ) 1000 (nI 0) from rfl, lp_for (body := cnb σ) (fun e => nI e) (ne g) (r := (.inl (nI (ne g)) : Int32 ⊕ Int32)) (fun e he => step e he (hall e he)) ?_ 1000 0 (by omega) (by omega)]
    · rfl
    · unfold cnb
      rw [hc.1, if_pos (by rw [n_le (by omega) (by omega)]; omega)]
  · right
    obtain ⟨e, ⟨b1, b2⟩, b3⟩ := pk_least (fun e => e < ne g ∧ ¬ okE g e) (Classical.byContradiction (fun q => hall (fun e he => Classical.byContradiction (fun q2 => q ⟨e, he, q2⟩))))
    have b3' : ∀ j, j < e → okE g j := fun j hj => Classical.byContradiction (fun q => b3 j hj ⟨by omega, q⟩)
    refine ⟨e, b1, b2, b3', ?_⟩
    rw [C_canNest_def, show lp (cnb σ) 1000 0 = lp (cnb σ) 1000 (nI 0) from rfl, lp_for (body := cnb σ) (fun e => nI e) e (r := (.inr 0 : Int32 ⊕ Int32)) (fun j hj => step j (by omega) (b3' j hj)) ?_ 1000 0 (by omega) (by omega)]
    · rfl
    · obtain ⟨w1, w2, w3, w4, w5, w6, w7, w8, w9⟩ := hw.2.2 e b1
      obtain ⟨q1, q2⟩ := hc.2.2.1 e (by omega)
      obtain ⟨c1, c2, c3, c4, c5⟩ := hc.2.2.2.2 e b1
      unfold okE at b2
      unfold cnb
      rw [hc.1, if_neg (by rw [n_le (by omega) (by omega)]; omega), if_pos (nb (by omega) (by decide)), nx (by omega), q1, nx (by omega), if_pos q2, c1, c2, c5]
      unfold C_Edge_isLoop
      rw [c1, c2, if_neg (show ¬ nI (fr g e) = nI (tt g e) by rw [n_eq (by omega) (by omega)]; omega)]
      by_cases hle : tt g e ≤ fr g e
      · rw [if_pos (by rw [n_le (by omega) (by omega)]; exact hle)]
        rfl
      · rw [if_neg (by rw [n_le (by omega) (by omega)]; exact hle), if_neg (by rw [show (0 : Int32) = nI 0 from rfl, n_eq (by omega) (by omega)]; omega)]
        rfl
end N2
