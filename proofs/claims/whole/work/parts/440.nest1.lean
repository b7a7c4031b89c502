/-! PURE: nested: the costs over the places of the actors in their order -/
def gdp (r l : Nat → Nat) (i : Nat) : Nat → Nat
  | 0 => 0
  | n + 1 => Nat.gcd (gdp r l i n) (r (l (i + n)))
def cutv (g : GD) (r : Nat → Nat) (x y z e : Nat) : Nat := if x ≤ fr g e ∧ fr g e ≤ y ∧ y + 1 ≤ tt g e ∧ tt g e ≤ z then rin g e * r (fr g e) else 0
def cut (g : GD) (r : Nat → Nat) (x y z : Nat) : Nat := sm (cutv g r x y z) (ne g)
def cc (g : GD) (r l : Nat → Nat) (i k j : Nat) : Nat := cut g r (l i) (l k) (l j) / gdp r l i (j + 1 - i)
def mp (v : Nat → Nat) (i : Nat) : Nat → Nat
  | 0 => 2147483647
  | n + 1 => if v (i + n) < mp v i n then v (i + n) else mp v i n
def co (c : Nat → Nat → Nat → Nat) : Nat → Nat → Nat → Nat
  | 0, _, _ => 0
  | n + 1, i, j => if j ≤ i then 0 else mp (fun k => co c n i k + co c n (k + 1) j + c i k j) i (j - i)
theorem mp_cg {v w : Nat → Nat} {i : Nat} : ∀ n, (∀ k, i ≤ k → k < i + n → v k = w k) → mp v i n = mp w i n
  | 0, _ => rfl
  | n + 1, h => by
    show (if v (i + n) < mp v i n then v (i + n) else mp v i n) = (if w (i + n) < mp w i n then w (i + n) else mp w i n)
    rw [mp_cg n (fun k h1 h2 => h k h1 (by omega)), h (i + n) (by omega) (by omega)]
theorem mp_le {v : Nat → Nat} {i : Nat} : ∀ n k, k < n → mp v i n ≤ v (i + k)
  | 0, k, h => by omega
  | n + 1, k, h => by
    show (if v (i + n) < mp v i n then v (i + n) else mp v i n) ≤ v (i + k)
    by_cases e : k = n
    · subst e
      split <;> omega
    · have := mp_le (v := v) (i := i) n k (by omega)
      split <;> omega
theorem co_st {c : Nat → Nat → Nat → Nat} : ∀ n i j, j ≤ i + n → co c (n + 1) i j = co c n i j
  | 0, i, j, h => by
    show (if j ≤ i then 0 else _) = 0
    rw [if_pos (by omega)]
  | n + 1, i, j, h => by
    show (if j ≤ i then 0 else mp (fun k => co c (n + 1) i k + co c (n + 1) (k + 1) j + c i k j) i (j - i)) = (if j ≤ i then 0 else mp (fun k => co c n i k + co c n (k + 1) j + c i k j) i (j - i))
    by_cases hj : j ≤ i
    · rw [if_pos hj, if_pos hj]
    · rw [if_neg hj, if_neg hj]
      refine mp_cg _ (fun k h1 h2 => ?_)
      rw [co_st n i k (by omega), co_st n (k + 1) j (by omega)]
theorem co_self {c : Nat → Nat → Nat → Nat} {i : Nat} : co c 8 i i = 0 := by
  show (if i ≤ i then 0 else _) = 0
  rw [if_pos (by omega)]
theorem co_eq {c : Nat → Nat → Nat → Nat} {i j : Nat} (hij : i < j) (hj : j < 8) : co c 8 i j = mp (fun k => co c 8 i k + co c 8 (k + 1) j + c i k j) i (j - i) := by
  show (if j ≤ i then 0 else mp (fun k => co c 7 i k + co c 7 (k + 1) j + c i k j) i (j - i)) = _
  rw [if_neg (by omega)]
  refine mp_cg _ (fun k h1 h2 => ?_)
  rw [co_st 7 i k (by omega), co_st 7 (k + 1) j (by omega)]
theorem co_bd {c : Nat → Nat → Nat → Nat} {B : Nat} (hc : ∀ i k j, c i k j ≤ B) : ∀ n i j, co c n i j ≤ B * (j - i)
  | 0, i, j => Nat.zero_le _
  | n + 1, i, j => by
    show (if j ≤ i then 0 else mp (fun k => co c n i k + co c n (k + 1) j + c i k j) i (j - i)) ≤ _
    by_cases hj : j ≤ i
    · rw [if_pos hj]; exact Nat.zero_le _
    · rw [if_neg hj]
      refine Nat.le_trans (mp_le (j - i) 0 (by omega)) ?_
      have h1 := co_bd hc n i (i + 0)
      have h2 := co_bd hc n (i + 0 + 1) j
      have h3 := hc i (i + 0) j
      rw [show i + 0 - i = 0 by omega, Nat.mul_zero] at h1
      have h4 : B * (j - i) = B * (j - (i + 0 + 1)) + B := by
        rw [← Nat.mul_succ]
        congr 1
        omega
      omega
theorem mp_bd {v : Nat → Nat} {i B n : Nat} (hn : 0 < n) (h : v i ≤ B) : mp v i n ≤ B := Nat.le_trans (mp_le n 0 hn) h
/-- the class's least so far: 0 before the first cut -/
def mq (v : Nat → Nat) (i n : Nat) : Nat := if n = 0 then 0 else mp v i n
theorem mq_pos {v : Nat → Nat} {i n : Nat} (h : 0 < n) : mq v i n = mp v i n := if_neg (by omega)
theorem gdp_le {r l : Nat → Nat} {i : Nat} : ∀ n, 1 ≤ n → (∀ k, i ≤ k → k < i + n → 1 ≤ r (l k) ∧ r (l k) ≤ 64) → 1 ≤ gdp r l i n ∧ gdp r l i n ≤ 64
  | 0, h, _ => by omega
  | n + 1, _, h => by
    have h1 := h (i + n) (by omega) (by omega)
    show 1 ≤ Nat.gcd (gdp r l i n) (r (l (i + n))) ∧ Nat.gcd (gdp r l i n) (r (l (i + n))) ≤ 64
    have h2 : 0 < Nat.gcd (gdp r l i n) (r (l (i + n))) := Nat.gcd_pos_of_pos_right _ (by omega)
    have h3 := Nat.gcd_le_right (gdp r l i n) (show 0 < r (l (i + n)) by omega)
    omega
theorem gdp_b {r l : Nat → Nat} {i : Nat} (n : Nat) (h : ∀ k, i ≤ k → k < i + n → 1 ≤ r (l k) ∧ r (l k) ≤ 64) : gdp r l i n ≤ 64 := by
  by_cases h0 : n = 0
  · subst h0; exact Nat.zero_le _
  · exact (gdp_le n (by omega) h).2
theorem gdp_dvd {r l : Nat → Nat} {i : Nat} : ∀ n k, i ≤ k → k < i + n → gdp r l i n ∣ r (l k)
  | 0, k, h1, h2 => by omega
  | n + 1, k, h1, h2 => by
    show Nat.gcd (gdp r l i n) (r (l (i + n))) ∣ r (l k)
    by_cases e : k = i + n
    · subst e; exact Nat.gcd_dvd_right _ _
    · exact Nat.dvd_trans (Nat.gcd_dvd_left _ _) (gdp_dvd n k h1 (by omega))
theorem sm_div {f : Nat → Nat} {d : Nat} (hd : 0 < d) : ∀ n, (∀ e, e < n → d ∣ f e) → sm (fun e => f e / d) n = sm f n / d := by
  intro n h
  have key : sm f n = d * sm (fun e => f e / d) n := by
    induction n with
    | zero => rfl
    | succ n ih =>
      show sm f n + f n = d * (sm (fun e => f e / d) n + f n / d)
      rw [ih (fun e he => h e (by omega)), Nat.mul_add, Nat.mul_div_cancel' (h n (by omega))]
  rw [key, Nat.mul_div_cancel_left _ hd]
section N1
variable {g : GD} {pm : Nat → Int32} {pe r l : Nat → Nat} {σ ρ : ST} {K : Nat}
theorem cutv_le (hw : WG g) (hr : ∀ a, a < 8 → th g a = 1 → 1 ≤ r a ∧ r a ≤ 64) {x y z e : Nat} (he : e < ne g) : cutv g r x y z e ≤ 384 := by
  unfold cutv
  obtain ⟨w1, w2, w3, w4, w5, w6, -⟩ := hw.2.2 e he
  split
  · exact Nat.le_trans (Nat.mul_le_mul w6 (hr _ w1 w3).2) (by omega)
  · omega
theorem cut_le (hw : WG g) (hr : ∀ a, a < 8 → th g a = 1 → 1 ≤ r a ∧ r a ≤ 64) {x y z n : Nat} (hn : n ≤ ne g) : sm (cutv g r x y z) n ≤ 4608 := by
  have h12 := hw.1
  have := sm_le (f := cutv g r x y z) (b := 384) n (fun e he => cutv_le hw hr (by omega))
  omega
theorem cc_le (hw : WG g) (hr : ∀ a, a < 8 → th g a = 1 → 1 ≤ r a ∧ r a ≤ 64) (i k j : Nat) : cc g r l i k j ≤ 4608 :=
  Nat.le_trans (Nat.div_le_self _ _) (cut_le hw hr (Nat.le_refl _))
/-- the class's list of the actors -/
def LL (g : GD) (l : Nat → Nat) (K : Nat) : Prop := K ≤ 8 ∧ ∀ i, i < K → l i < 8 ∧ th g (l i) = 1
def CL (l : Nat → Nat) (K : Nat) (σ : ST) : Prop := ∀ i, i < K → gi σ 6 0 i = nI (l i)
def CR (g : GD) (r : Nat → Nat) (σ : ST) : Prop := ∀ a, a < 8 → th g a = 1 → gi σ 1 a 5 = nI (r a)
theorem C_div_eq (hl : LL g l K) (hr : ∀ a, a < 8 → th g a = 1 → 1 ≤ r a ∧ r a ≤ 64) (h6 : CL l K σ) (h5 : CR g r σ) {i j : Nat} (hij : i ≤ j) (hj : j < K) : C_divisorOfStretch σ (nI i) (nI j) = some (nI (gdp r l i (j + 1 - i))) := by
  have h8 := hl.1
  have hb : ∀ k, i ≤ k → k < j + 1 → 1 ≤ r (l k) ∧ r (l k) ≤ 64 := fun k _ h => hr _ (hl.2 k (by omega)).1 (hl.2 k (by omega)).2
  unfold C_divisorOfStretch
  rw [show lp (fun s1 : Int32 × Int32 =>
  if nI j < s1.2 then
  (some (.inr ((s1.1, s1.2)))) else
  (if inb s1.2 8 then 
  (if inb (gi σ 6 0 (ix s1.2)) 8 then 
  ((C_greatestDivisor s1.1 (gi σ 1 (ix (gi σ 6 0 (ix s1.2))) 5)).bind (fun b1 => 
  (some (.inl ((b1, s1.2 + 1)))))) else none) else none)) 1000 ((0, nI i)) = some (nI (gdp r l i (j + 1 - i)), nI (i + (j + 1 - i))) from ?_]
  · obtain ⟨q1, q2⟩ := gdp_le (r := r) (l := l) (i := i) (j + 1 - i) (by omega) (fun k h1 h2 => hb k h1 (by omega))
    show some (if nI (gdp r l i (j + 1 - i)) < 1 then 1 else nI (gdp r l i (j + 1 - i))) = _
    rw [if_neg (by rw [show (1 : Int32) = nI 1 from rfl, n_lt (by omega) (by omega)]; omega)]
  · refine lp_for (fun m => (nI (gdp r l i m), nI (i + m))) (j + 1 - i) (fun m hm => ?_) ?_ 1000 0 (by omega) (by omega)
    · dsimp only
      obtain ⟨l1, l2⟩ := hl.2 (i + m) (by omega)
      have r1 := hr _ l1 l2
      have g1 := gdp_b (r := r) (l := l) (i := i) m (fun k h1 h2 => hb k h1 (by omega))
      rw [if_neg (by rw [n_lt (by omega) (by omega)]; omega), if_pos (nb (by omega) (by decide)), nx (by omega), h6 (i + m) (by omega), if_pos (nb l1 (by decide)), nx (by omega), h5 _ l1 l2, C_gd_eq (by omega) (by omega) (Nat.gcd_pos_of_pos_right _ (by omega)), n_add1]
      rfl
    · dsimp only
      rw [if_pos (by rw [n_lt (by omega) (by omega)]; omega)]
theorem C_tok_eq (hw : WG g) (hc : GC g pm pe σ) (h5 : CR g r σ) {x y z : Nat} (hx : x < 8) (hy : y < 8) (hz : z < 8) : C_tokensAcross σ (nI x) (nI y) (nI z) = some (nI (cut g r x y z)) := by
  have h12 := hw.1
  unfold C_tokensAcross
  rw [show lp (fun s1 : Int32 × Int32 =>
  if (gi σ 0 0 5) ≤ s1.2 then
  (some (.inr ((s1.1, s1.2)))) else
  (if inb s1.2 12 then 
  (if ix (gi σ 5 0 (ix s1.2)) < 12 then 
  ((C_isWithin (gi σ 2 (ix (gi σ 5 0 (ix s1.2))) 1) (nI x) (nI y)).bind (fun b1 => 
  (if b1 = 0 then
  (some (.inl ((s1.1, s1.2 + 1)))) else
  ((C_isWithin (gi σ 2 (ix (gi σ 5 0 (ix s1.2))) 2) (nI y + 1) (nI z)).bind (fun b2 => 
  (if b2 = 0 then
  (some (.inl ((s1.1, s1.2 + 1)))) else
  (if inb (gi σ 2 (ix (gi σ 5 0 (ix s1.2))) 1) 8 then 
  (some (.inl ((s1.1 + ((gi σ 2 (ix (gi σ 5 0 (ix s1.2))) 3) * (gi σ 1 (ix (gi σ 2 (ix (gi σ 5 0 (ix s1.2))) 1)) 5)), s1.2 + 1)))) else none))))))) else none) else none)) 1000 ((0, 0)) = some (nI (sm (cutv g r x y z) (ne g)), nI (ne g)) from ?_]
  · rfl
  · refine lp_for (fun e => (nI (sm (cutv g r x y z) e), nI e)) (ne g) (fun e he => ?_) ?_ 1000 0 (by omega) (by omega)
    · dsimp only
      obtain ⟨w1, w2, w3, w4, -⟩ := hw.2.2 e he
      obtain ⟨q1, q2⟩ := hc.2.2.1 e (by omega)
      obtain ⟨c1, c2, c3, -⟩ := hc.2.2.2.2 e he
      rw [hc.1, if_neg (by rw [n_le (by omega) (by omega)]; omega), if_pos (nb (by omega) (by decide)), nx (by omega), q1, nx (by omega), if_pos q2, c1, c2, c3, n_add1, n_add1]
      show _ = some (Sum.inl (nI (sm (cutv g r x y z) e + cutv g r x y z e), nI (e + 1)))
      unfold cutv
      by_cases hA : x ≤ fr g e ∧ fr g e ≤ y
      · rw [w_in hA.1 hA.2 (by omega)]
        simp only [Option.bind_some]
        rw [if_neg (show ¬ (1 : Int32) = 0 by decide)]
        by_cases hB : y + 1 ≤ tt g e ∧ tt g e ≤ z
        · rw [w_in hB.1 hB.2 (by omega)]
          simp only [Option.bind_some]
          rw [if_neg (show ¬ (1 : Int32) = 0 by decide), if_pos (nb w1 (by decide)), nx (by omega), h5 _ w1 w3, pk_mul, nI_add, if_pos ⟨hA.1, hA.2, hB.1, hB.2⟩]
        · rw [w_out (by rw [n_lt (by omega) (by omega), n_lt (by omega) (by omega)]; omega)]
          simp only [Option.bind_some]
          rw [if_neg (show ¬ (x ≤ fr g e ∧ fr g e ≤ y ∧ y + 1 ≤ tt g e ∧ tt g e ≤ z) by omega)]
          rfl
      · rw [w_out (by rw [n_lt (by omega) (by omega), n_lt (by omega) (by omega)]; omega)]
        simp only [Option.bind_some]
        rw [if_neg (show ¬ (x ≤ fr g e ∧ fr g e ≤ y ∧ y + 1 ≤ tt g e ∧ tt g e ≤ z) by omega)]
        rfl
    · dsimp only
      rw [hc.1, if_pos (by rw [n_le (by omega) (by omega)]; omega)]
theorem C_cost_eq (hw : WG g) (hc : GC g pm pe σ) (hl : LL g l K) (hr : ∀ a, a < 8 → th g a = 1 → 1 ≤ r a ∧ r a ≤ 64) (h6 : CL l K σ) (h5 : CR g r σ) {i j : Nat} (hij : i < j) (hj : j < K) (ht : ∀ k, i ≤ k → k < j → gi σ 9 i k = nI (co (cc g r l) 8 i k) ∧ gi σ 9 (k + 1) j = nI (co (cc g r l) 8 (k + 1) j)) : C_costOfStretch σ (nI i) (nI j) = some (nI (co (cc g r l) 8 i j)) := by
  have h8 := hl.1
  have hb : ∀ k, i ≤ k → k < j + 1 → 1 ≤ r (l k) ∧ r (l k) ≤ 64 := fun k _ h => hr _ (hl.2 k (by omega)).1 (hl.2 k (by omega)).2
  obtain ⟨d1, d2⟩ := gdp_le (r := r) (l := l) (i := i) (j + 1 - i) (by omega) (fun k h1 h2 => hb k h1 (by omega))
  have cb := fun a b => co_bd (c := cc g r l) (B := 4608) (fun i k j => cc_le hw hr i k j) 8 a b
  unfold C_costOfStretch
  rw [C_div_eq hl hr h6 h5 (by omega) hj]
  simp only [Option.bind_some]
  rw [show lp (fun s1 : Int32 × Int32 =>
  if nI j ≤ s1.2 then
  (some (.inr ((s1.1, s1.2)))) else
  (if inb (nI i) 8 then 
  (if inb s1.2 8 then 
  (if inb (nI j) 8 then 
  ((C_tokensAcross σ (gi σ 6 0 (ix (nI i))) (gi σ 6 0 (ix s1.2)) (gi σ 6 0 (ix (nI j)))).bind (fun b2 => 
  (if ¬ nI (gdp r l i (j + 1 - i)) = 0 then 
  (if inb (s1.2 + 1) 8 then 
  (if s1.2 = nI i then
  (some (.inl ((((gi σ 9 (ix (nI i)) (ix s1.2)) + (gi σ 9 (ix (s1.2 + 1)) (ix (nI j)))) + (b2 / nI (gdp r l i (j + 1 - i))), s1.2 + 1)))) else
  (some (.inl ((if (((gi σ 9 (ix (nI i)) (ix s1.2)) + (gi σ 9 (ix (s1.2 + 1)) (ix (nI j)))) + (b2 / nI (gdp r l i (j + 1 - i)))) < s1.1 then ((gi σ 9 (ix (nI i)) (ix s1.2)) + (gi σ 9 (ix (s1.2 + 1)) (ix (nI j)))) + (b2 / nI (gdp r l i (j + 1 - i))) else s1.1, s1.2 + 1))))) else none) else none))) else none) else none) else none)) 1000 ((0, nI i)) = some (nI (mq (fun k => co (cc g r l) 8 i k + co (cc g r l) 8 (k + 1) j + cc g r l i k j) i (j - i)), nI (i + (j - i))) from ?_]
  · rw [co_eq hij (by omega), mq_pos (by omega)]
    rfl
  · have vb : ∀ k, i ≤ k → k < j → co (cc g r l) 8 i k + co (cc g r l) 8 (k + 1) j + cc g r l i k j ≤ 100000 := by
      intro k h1 h2
      have b1 := cb i k
      have b2 := cb (k + 1) j
      have b3 := cc_le (l := l) hw hr i k j
      have b4 : 4608 * (k - i) ≤ 4608 * 8 := Nat.mul_le_mul_left _ (by omega)
      have b5 : 4608 * (j - (k + 1)) ≤ 4608 * 8 := Nat.mul_le_mul_left _ (by omega)
      omega
    refine lp_for (fun m => (nI (mq (fun k => co (cc g r l) 8 i k + co (cc g r l) 8 (k + 1) j + cc g r l i k j) i m), nI (i + m))) (j - i) (fun m hm => ?_) ?_ 1000 0 (by omega) (by omega)
    · dsimp only
      obtain ⟨l1, l2⟩ := hl.2 (i + m) (by omega)
      obtain ⟨l3, l4⟩ := hl.2 i (by omega)
      obtain ⟨l5, l6⟩ := hl.2 j (by omega)
      obtain ⟨t1, t2⟩ := ht (i + m) (by omega) (by omega)
      have v1 := vb (i + m) (by omega) (by omega)
      have cl := cut_le (x := l i) (y := l (i + m)) (z := l j) hw hr (Nat.le_refl _)
      rw [if_neg (by rw [n_le (by omega) (by omega)]; omega), if_pos (nb (by omega) (by decide)), if_pos (nb (by omega) (by decide)), if_pos (nb (by omega) (by decide)), n_add1, nx (by omega), nx (by omega), nx (by omega), nx (by omega), h6 i (by omega), h6 (i + m) (by omega), h6 j (by omega), C_tok_eq hw hc h5 l3 l1 l5]
      simp only [Option.bind_some]
      rw [if_pos (nI_ne0 (by omega) (by omega)), if_pos (nb (by omega) (by decide)), t1, t2, pk_div (by unfold cut; omega) (by omega) (by omega), nI_add, nI_add]
      rw [show cut g r (l i) (l (i + m)) (l j) / gdp r l i (j + 1 - i) = cc g r l i (i + m) j from rfl, mq_pos (n := m + 1) (by omega)]
      show _ = some (Sum.inl (nI (if co (cc g r l) 8 i (i + m) + co (cc g r l) 8 (i + m + 1) j + cc g r l i (i + m) j < mp (fun k => co (cc g r l) 8 i k + co (cc g r l) 8 (k + 1) j + cc g r l i k j) i m then co (cc g r l) 8 i (i + m) + co (cc g r l) 8 (i + m + 1) j + cc g r l i (i + m) j else mp (fun k => co (cc g r l) 8 i k + co (cc g r l) 8 (k + 1) j + cc g r l i k j) i m), nI (i + (m + 1))))
      by_cases h0 : m = 0
      · subst h0
        rw [if_pos (show nI (i + 0) = nI i from rfl), if_pos (show _ < mp (fun k => co (cc g r l) 8 i k + co (cc g r l) 8 (k + 1) j + cc g r l i k j) i 0 from Nat.lt_of_le_of_lt v1 (show (100000 : Nat) < 2147483647 by decide))]
      · have mb : mp (fun k => co (cc g r l) 8 i k + co (cc g r l) 8 (k + 1) j + cc g r l i k j) i m ≤ 2147483647 := mp_bd (by omega) (Nat.le_trans (vb i (by omega) (by omega)) (by omega))
        rw [if_neg (show ¬ nI (i + m) = nI i by rw [n_eq (by omega) (by omega)]; omega), mq_pos (by omega), show i + m + 1 = i + (m + 1) from rfl]
        rw [show i + m + 1 = i + (m + 1) from rfl] at v1
        generalize co (cc g r l) 8 i (i + m) + co (cc g r l) 8 (i + (m + 1)) j + cc g r l i (i + m) j = A at *
        generalize mp (fun k => co (cc g r l) 8 i k + co (cc g r l) 8 (k + 1) j + cc g r l i k j) i m = B at *
        by_cases hAB : A < B
        · rw [if_pos hAB, if_pos (by rw [n_lt (by omega) (by omega)]; exact hAB)]
        · rw [if_neg hAB, if_neg (by rw [n_lt (by omega) (by omega)]; exact hAB)]
    · dsimp only
      rw [if_pos (by rw [n_le (by omega) (by omega)]; omega)]
end N1
