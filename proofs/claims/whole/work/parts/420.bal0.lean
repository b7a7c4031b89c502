/-! PURE: numbers: sums that change at one place, gcd by Euclid, labels and shares -/
theorem sm_at {f f' : Nat → Nat} {t : Nat} : ∀ n, t < n → (∀ a, a < n → a ≠ t → f' a = f a) → sm f' n + f t = sm f n + f' t := by
  intro n
  induction n with
  | zero => intro h; omega
  | succ n ih =>
    intro h hf
    show sm f' n + f' n + f t = sm f n + f n + f' t
    by_cases e : t = n
    · subst e
      have : sm f' t = sm f t := by
        have : ∀ m, m ≤ t → sm f' m = sm f m := by
          intro m
          induction m with
          | zero => intro _; rfl
          | succ m im =>
            intro hm
            show sm f' m + f' m = sm f m + f m
            rw [im (by omega), hf m (by omega) (by omega)]
        exact this t (by omega)
      omega
    · have h1 := ih (by omega) (fun a ha hat => hf a (by omega) hat)
      have h2 := hf n (by omega) (by omega)
      omega
theorem sm_cg {f f' : Nat → Nat} : ∀ n, (∀ a, a < n → f' a = f a) → sm f' n = sm f n := by
  intro n
  induction n with
  | zero => intro _; rfl
  | succ n ih =>
    intro h
    show sm f' n + f' n = sm f n + f n
    rw [ih (fun a ha => h a (by omega)), h n (by omega)]
theorem sm_add {f f' h : Nat → Nat} : ∀ n, (∀ a, a < n → h a = f a + f' a) → sm h n = sm f n + sm f' n := by
  intro n
  induction n with
  | zero => intro _; rfl
  | succ n ih =>
    intro hh
    show sm h n + h n = sm f n + f n + (sm f' n + f' n)
    rw [ih (fun a ha => hh a (by omega)), hh n (by omega)]
    omega
theorem sm_ge {f : Nat → Nat} {t : Nat} : ∀ n, t < n → f t ≤ sm f n := by
  intro n
  induction n with
  | zero => intro h; omega
  | succ n ih =>
    intro h
    show f t ≤ sm f n + f n
    by_cases e : t = n
    · subst e; omega
    · have := ih (by omega); omega
theorem sm_mono {f f' : Nat → Nat} : ∀ n, (∀ a, a < n → f a ≤ f' a) → sm f n ≤ sm f' n := by
  intro n
  induction n with
  | zero => intro _; exact Nat.le_refl _
  | succ n ih =>
    intro h
    have h1 := ih (fun a ha => h a (by omega))
    have h2 := h n (by omega)
    show sm f n + f n ≤ sm f' n + f' n
    omega
/-- a count is at most another, into which it goes one by one -/
theorem ct_inj : ∀ n m (p q : Nat → Prop) [DecidablePred p] [DecidablePred q] (h : Nat → Nat), (∀ a, a < n → p a → h a < m ∧ q (h a)) → (∀ a b, a < n → b < n → p a → p b → h a = h b → a = b) → sm (fun a => if p a then 1 else 0) n ≤ sm (fun a => if q a then 1 else 0) m := by
  intro n
  induction n with
  | zero => intros; exact Nat.zero_le _
  | succ n ih =>
    intro m p q _ _ h h1 h2
    show sm (fun a => if p a then 1 else 0) n + (if p n then 1 else 0) ≤ _
    by_cases hp : p n
    · obtain ⟨b1, b2⟩ := h1 n (by omega) hp
      have := ih m p (fun b => q b ∧ b ≠ h n) h (fun a ha pa => ⟨(h1 a (by omega) pa).1, (h1 a (by omega) pa).2, fun e => by have := h2 a n (by omega) (by omega) pa hp e; omega⟩) (fun a b ha hb pa pb e => h2 a b (by omega) (by omega) pa pb e)
      have e := sm_at (f := fun a => if q a then 1 else 0) (f' := fun b => if q b ∧ b ≠ h n then 1 else 0) (t := h n) m b1 (fun a _ hat => by
        by_cases hq : q a
        · simp [hq, hat]
        · simp [hq])
      simp only [b2, ne_eq, not_true, and_false, if_false, if_true] at e
      rw [if_pos hp]
      simp only [ne_eq] at this
      omega
    · rw [if_neg hp]
      exact ih m p q h (fun a ha => h1 a (by omega)) (fun a b ha hb => h2 a b (by omega) (by omega))
/-! Euclid ends soon -/
theorem C_gd_loop : ∀ m a b s n, b < 2 ^ m → a < 2147483648 → b < 2147483648 → s + 2 * m < 64 → 2 * m < n → ∃ s', lp (fun s1 : Int32 × Int32 × Int32 =>
  if 64 ≤ s1.2.2 then
  (some (.inr ((s1.1, s1.2.1, s1.2.2)))) else
  (if s1.2.1 = 0 then
  (some (.inr ((s1.1, s1.2.1, s1.2.2)))) else
  (some (.inl ((s1.2.1, s1.1 - s1.1 / s1.2.1 * s1.2.1, s1.2.2 + 1)))))) n ((nI a, nI b, nI s)) = some (nI (Nat.gcd a b), 0, s') := by
  have key : ∀ a b s n, a < 2147483648 → b < 2147483648 → 0 < b → s < 64 → lp (fun s1 : Int32 × Int32 × Int32 =>
  if 64 ≤ s1.2.2 then
  (some (.inr ((s1.1, s1.2.1, s1.2.2)))) else
  (if s1.2.1 = 0 then
  (some (.inr ((s1.1, s1.2.1, s1.2.2)))) else
  (some (.inl ((s1.2.1, s1.1 - s1.1 / s1.2.1 * s1.2.1, s1.2.2 + 1)))))) (n + 1) ((nI a, nI b, nI s)) = lp (fun s1 : Int32 × Int32 × Int32 =>
  if 64 ≤ s1.2.2 then
  (some (.inr ((s1.1, s1.2.1, s1.2.2)))) else
  (if s1.2.1 = 0 then
  (some (.inr ((s1.1, s1.2.1, s1.2.2)))) else
  (some (.inl ((s1.2.1, s1.1 - s1.1 / s1.2.1 * s1.2.1, s1.2.2 + 1)))))) n ((nI b, nI (a % b), nI (s + 1))) := by
    intro a b s n ha hb h0 hs
    conv => lhs; unfold lp
    dsimp only
    rw [if_neg (show ¬ (64 : Int32) ≤ nI s by rw [show (64 : Int32) = nI 64 from rfl, n_le (by omega) (by omega)]; omega), if_neg (nI_ne0 h0 (by omega)), pk_rem (by omega) h0 (by omega), n_add1]
  have zer : ∀ a s n, s < 64 → lp (fun s1 : Int32 × Int32 × Int32 =>
  if 64 ≤ s1.2.2 then
  (some (.inr ((s1.1, s1.2.1, s1.2.2)))) else
  (if s1.2.1 = 0 then
  (some (.inr ((s1.1, s1.2.1, s1.2.2)))) else
  (some (.inl ((s1.2.1, s1.1 - s1.1 / s1.2.1 * s1.2.1, s1.2.2 + 1)))))) (n + 1) ((nI a, nI 0, nI s)) = some (nI a, 0, nI s) := by
    intro a s n hs
    unfold lp
    dsimp only
    rw [if_neg (show ¬ (64 : Int32) ≤ nI s by rw [show (64 : Int32) = nI 64 from rfl, n_le (by omega) (by omega)]; omega), if_pos (show nI 0 = 0 from rfl)]
    rfl
  intro m
  induction m with
  | zero =>
    intro a b s n hb ha hb2 hs hn
    have : b = 0 := by simpa using hb
    subst this
    obtain ⟨n, rfl⟩ : ∃ k, n = k + 1 := ⟨n - 1, by omega⟩
    exact ⟨nI s, by rw [zer a s n (by omega), Nat.gcd_zero_right]⟩
  | succ m ih =>
    intro a b s n hb ha hb2 hs hn
    by_cases h0 : b = 0
    · subst h0
      obtain ⟨n, rfl⟩ : ∃ k, n = k + 1 := ⟨n - 1, by omega⟩
      exact ⟨nI s, by rw [zer a s n (by omega), Nat.gcd_zero_right]⟩
    · have hr := Nat.mod_lt a (show 0 < b by omega)
      obtain ⟨n, rfl⟩ : ∃ k, n = k + 1 := ⟨n - 1, by omega⟩
      rw [key a b s n ha hb2 (by omega) (by omega), Nat.gcd_comm a b, Nat.gcd_rec b a, Nat.gcd_comm (a % b) b]
      by_cases hlt : a % b < 2 ^ m
      · exact ih b (a % b) (s + 1) n hlt hb2 (by omega) (by omega) (by omega)
      · have hp := Nat.pow_pos (n := m) (show 0 < 2 by omega)
        obtain ⟨n, rfl⟩ : ∃ k, n = k + 1 := ⟨n - 1, by omega⟩
        rw [key b (a % b) (s + 1) n hb2 (by omega) (by omega) (by omega), Nat.gcd_comm b (a % b), Nat.gcd_rec (a % b) b, Nat.gcd_comm (b % (a % b)) (a % b)]
        have e2 : b % (a % b) = b - a % b := by
          rw [Nat.mod_eq_sub_mod (by omega), Nat.mod_eq_of_lt (by rw [Nat.pow_succ] at hb; omega)]
        refine ih (a % b) (b % (a % b)) (s + 1 + 1) n ?_ (by omega) (by omega) (by omega) (by omega)
        rw [e2]
        rw [Nat.pow_succ] at hb
        omega
theorem C_gd_eq {a b : Nat} (ha : a < 2147483648) (hb : b < 1073741824) (h0 : 0 < Nat.gcd a b) : C_greatestDivisor (nI a) (nI b) = some (nI (Nat.gcd a b)) := by
  unfold C_greatestDivisor
  obtain ⟨s', h⟩ := C_gd_loop 30 a b 0 1000 (by omega) ha (by omega) (by omega) (by omega)
  rw [show ((nI a, nI b, (0 : Int32))) = (nI a, nI b, nI 0) from rfl, h]
  have hle : Nat.gcd a b < 2147483648 := by
    by_cases h : b = 0
    · subst h; rw [Nat.gcd_zero_right]; exact ha
    · have := Nat.gcd_le_right a (show 0 < b by omega); omega
  simp only [Option.bind_some]
  rw [if_neg (by rw [show (1 : Int32) = nI 1 from rfl, n_lt (by omega) (by omega)]; omega)]
theorem lg0 (x y : Int64) : (lg_cmp x y = 0) = (x = y) := by
  unfold lg_cmp
  by_cases h1 : x > y
  · rw [if_pos h1]
    have : ¬ x = y := fun e => by subst e; exact Int64.lt_irrefl h1
    simp [this]
  · rw [if_neg h1]
    by_cases h2 : x = y
    · simp [h2]
    · simp [h2]
      
theorem M_gcd_loop : ∀ m a b n, b < 2 ^ m → a < 9223372036854775808 → b < 9223372036854775808 → 2 * m < n → lp (fun s1 : Int64 × Int64 =>
  if (lg_cmp s1.2 0) = 0 then
  (some (.inr ((s1.1, s1.2)))) else
  (if ¬ s1.2 = 0 then 
  (some (.inl ((s1.2, s1.1 - s1.1 / s1.2 * s1.2)))) else none)) n ((lN a, lN b)) = some (lN (Nat.gcd a b), lN 0) := by
  have key : ∀ a b n, a < 9223372036854775808 → b < 9223372036854775808 → 0 < b → lp (fun s1 : Int64 × Int64 =>
  if (lg_cmp s1.2 0) = 0 then
  (some (.inr ((s1.1, s1.2)))) else
  (if ¬ s1.2 = 0 then 
  (some (.inl ((s1.2, s1.1 - s1.1 / s1.2 * s1.2)))) else none)) (n + 1) ((lN a, lN b)) = lp (fun s1 : Int64 × Int64 =>
  if (lg_cmp s1.2 0) = 0 then
  (some (.inr ((s1.1, s1.2)))) else
  (if ¬ s1.2 = 0 then 
  (some (.inl ((s1.2, s1.1 - s1.1 / s1.2 * s1.2)))) else none)) n ((lN b, lN (a % b))) := by
    intro a b n ha hb h0
    have hne : ¬ lN b = 0 := by rw [show (0 : Int64) = lN 0 from rfl, pk_lEQ (by omega) (by omega)]; omega
    conv => lhs; unfold lp
    dsimp only
    rw [if_neg (by rw [lg0]; exact hne), if_pos hne, pk_lRem (by omega) h0 (by omega)]
  have zer : ∀ a n, lp (fun s1 : Int64 × Int64 =>
  if (lg_cmp s1.2 0) = 0 then
  (some (.inr ((s1.1, s1.2)))) else
  (if ¬ s1.2 = 0 then 
  (some (.inl ((s1.2, s1.1 - s1.1 / s1.2 * s1.2)))) else none)) (n + 1) ((lN a, lN 0)) = some (lN a, lN 0) := by
    intro a n
    unfold lp
    dsimp only
    rw [if_pos (by rw [lg0]; rfl)]
  intro m
  induction m with
  | zero =>
    intro a b n hb ha hb2 hn
    have : b = 0 := by simpa using hb
    subst this
    obtain ⟨n, rfl⟩ : ∃ k, n = k + 1 := ⟨n - 1, by omega⟩
    rw [zer a n, Nat.gcd_zero_right]
  | succ m ih =>
    intro a b n hb ha hb2 hn
    by_cases h0 : b = 0
    · subst h0
      obtain ⟨n, rfl⟩ : ∃ k, n = k + 1 := ⟨n - 1, by omega⟩
      rw [zer a n, Nat.gcd_zero_right]
    · have hr := Nat.mod_lt a (show 0 < b by omega)
      obtain ⟨n, rfl⟩ : ∃ k, n = k + 1 := ⟨n - 1, by omega⟩
      rw [key a b n ha hb2 (by omega), Nat.gcd_comm a b, Nat.gcd_rec b a, Nat.gcd_comm (a % b) b]
      by_cases hlt : a % b < 2 ^ m
      · exact ih b (a % b) n hlt hb2 (by omega) (by omega)
      · have hp := Nat.pow_pos (n := m) (show 0 < 2 by omega)
        obtain ⟨n, rfl⟩ : ∃ k, n = k + 1 := ⟨n - 1, by omega⟩
        rw [key b (a % b) n hb2 (by omega) (by omega), Nat.gcd_comm b (a % b), Nat.gcd_rec (a % b) b, Nat.gcd_comm (b % (a % b)) (a % b)]
        have e2 : b % (a % b) = b - a % b := by
          rw [Nat.mod_eq_sub_mod (by omega), Nat.mod_eq_of_lt (by rw [Nat.pow_succ] at hb; omega)]
        refine ih (a % b) (b % (a % b)) n ?_ (by omega) (by omega) (by omega)
        rw [e2]
        rw [Nat.pow_succ] at hb
        omega
theorem M_gcd_eq {a b : Nat} (ha : a < 9223372036854775808) (hb : b < 9223372036854775808) : M_gcd (lN a) (lN b) = some (lN (Nat.gcd a b)) := by
  unfold M_gcd
  rw [M_gcd_loop 63 a b 1000 (by omega) ha hb (by omega)]
  rfl
/-- how many places have the label r -/
def sz (P : Nat → Nat) (r : Nat) : Nat := sm (fun b => if P b = r then 1 else 0) 8
theorem sz_pos {P : Nat → Nat} {a : Nat} (ha : a < 8) : 1 ≤ sz P (P a) := by
  have := sm_ge (f := fun b => if P b = P a then 1 else 0) (t := a) 8 ha
  simpa [sz] using this
theorem sz_le (P : Nat → Nat) (r : Nat) : sz P r ≤ 8 := by
  have := sm_le (f := fun b => if P b = r then 1 else 0) (b := 1) 8 (fun a _ => by split <;> omega)
  simpa [sz] using this
theorem p6 {m n : Nat} (h : m ≤ n) : 6 ^ m ≤ 6 ^ n := Nat.pow_le_pow_right (by omega) h
theorem p68 {P : Nat → Nat} {r x : Nat} (h : 6 * x ≤ 6 ^ sz P r) : 6 * x ≤ 1679616 := Nat.le_trans h (Nat.le_trans (p6 (sz_le P r)) (by decide))
