/-! PURE: loops and small numbers, without the machine -/
theorem lp_for {S R : Type} {body : S → Option (S ⊕ R)} (f : Nat → S) (N : Nat) {r : R} (hs : ∀ i, i < N → body (f i) = some (.inl (f (i + 1)))) (he : body (f N) = some (.inr r)) : ∀ n i, i ≤ N → N - i < n → lp body n (f i) = some r := by
  intro n
  induction n with
  | zero => intro i _ h; omega
  | succ n ih =>
    intro i hi hn
    unfold lp
    by_cases h : i < N
    · rw [hs i h]
      exact ih (i + 1) h (by omega)
    · have e : i = N := by omega
      subst e
      rw [he]
theorem lp_inv {S R : Type} {body : S → Option (S ⊕ R)} (I : S → Prop) (μ : S → Nat) (Post : R → Prop) (hs : ∀ s, I s → (∃ s', body s = some (.inl s') ∧ I s' ∧ μ s' < μ s) ∨ (∃ r, body s = some (.inr r) ∧ Post r)) : ∀ n s, I s → μ s < n → ∃ r, lp body n s = some r ∧ Post r := by
  intro n
  induction n with
  | zero => intro s _ h; omega
  | succ n ih =>
    intro s hI hn
    unfold lp
    rcases hs s hI with ⟨s', e, hI', hlt⟩ | ⟨r, e, hp⟩
    · rw [e]
      exact ih s' hI' (by omega)
    · rw [e]
      exact ⟨r, rfl, hp⟩
/-- a loop that counts i up to N, with an invariant at each i -/
theorem lp_cnt {S R : Type} {body : S → Option (S ⊕ R)} (I : Nat → S → Prop) (N : Nat) (Post : R → Prop) (hs : ∀ i s, i < N → I i s → (∃ s', body s = some (.inl s') ∧ I (i + 1) s') ∨ (∃ r, body s = some (.inr r) ∧ Post r)) (he : ∀ s, I N s → ∃ r, body s = some (.inr r) ∧ Post r) : ∀ n i s, i ≤ N → N - i < n → I i s → ∃ r, lp body n s = some r ∧ Post r := by
  intro n
  induction n with
  | zero => intro i s _ h; omega
  | succ n ih =>
    intro i s hi hn hI
    unfold lp
    by_cases h : i < N
    · rcases hs i s h hI with ⟨s', e, hI'⟩ | ⟨r, e, hp⟩
      · rw [e]
        exact ih (i + 1) s' h (by omega) hI'
      · rw [e]
        exact ⟨r, rfl, hp⟩
    · have e : i = N := by omega
      subst e
      obtain ⟨r, e, hp⟩ := he s hI
      rw [e]
      exact ⟨r, rfl, hp⟩
theorem lp_more {S R : Type} {body : S → Option (S ⊕ R)} : ∀ (n : Nat) (s : S) (r : R), lp body n s = some r → ∀ k, lp body (n + k) s = some r := by
  intro n
  induction n with
  | zero => intro s r h; cases h
  | succ n ih =>
    intro s r h k
    rw [show n + 1 + k = (n + k) + 1 by omega]
    unfold lp at h ⊢
    cases hb : body s with
    | none => rw [hb] at h; cases h
    | some x =>
      rw [hb] at h
      cases x with
      | inl s' => exact ih s' r h k
      | inr r' => exact h
theorem nb {i n : Nat} (h : i < n) (hn : n < 2147483648) : inb (nI i) n := nI_in h (by omega)
theorem nx {i : Nat} (h : i < 2147483648) : ix (nI i) = i := nI_clamp (by omega)
theorem n_lt {a b : Nat} (ha : a < 2147483648) (hb : b < 2147483648) : (nI a < nI b) = (a < b) := propext (nI_ltI (by omega) (by omega))
theorem n_le {a b : Nat} (ha : a < 2147483648) (hb : b < 2147483648) : (nI a ≤ nI b) = (a ≤ b) := propext (nI_leI (by omega) (by omega))
theorem n_eq {a b : Nat} (ha : a < 2147483648) (hb : b < 2147483648) : (nI a = nI b) = (a = b) := propext (nI_eq (by omega) (by omega))
/-- a number in a range, or outside of it -/
theorem rng (x : Int32) (lo hi : Nat) (hh : hi < 2147483648) (hl : lo ≤ hi) : (∃ j : Nat, lo ≤ j ∧ j ≤ hi ∧ x = nI j) ∨ (x < nI lo ∨ nI hi < x) := by
  by_cases h1 : x < nI lo
  · exact Or.inr (Or.inl h1)
  · by_cases h2 : nI hi < x
    · exact Or.inr (Or.inr h2)
    · left
      have g1 : (nI lo).toInt ≤ x.toInt := by
        have := Int32.not_lt.mp h1
        exact Int32.le_iff_toInt_le.mp this
      have g2 : x.toInt ≤ (nI hi).toInt := by
        have := Int32.not_lt.mp h2
        exact Int32.le_iff_toInt_le.mp this
      rw [nI_toInt (by omega)] at g1 g2
      refine ⟨x.toInt.toNat, by omega, by omega, ?_⟩
      apply Int32.toInt_inj.mp
      rw [nI_toInt (by omega)]
      omega
theorem w_in {j lo hi : Nat} (h1 : lo ≤ j) (h2 : j ≤ hi) (hh : hi < 2147483648) : C_isWithin (nI j) (nI lo) (nI hi) = some 1 := by
  unfold C_isWithin
  rw [if_neg (by rw [n_lt (by omega) (by omega)]; omega), if_neg (by rw [n_lt (by omega) (by omega)]; omega)]
theorem w_out {x : Int32} {lo hi : Int32} (h : x < lo ∨ hi < x) : C_isWithin x lo hi = some 0 := by
  unfold C_isWithin
  rcases h with h | h
  · rw [if_pos h]
  · by_cases h2 : x < lo
    · rw [if_pos h2]
    · rw [if_neg h2, if_pos h]
