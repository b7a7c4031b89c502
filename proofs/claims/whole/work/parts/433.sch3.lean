/-! PURE: one firing of the schedule, counted -/
def onN (g : GD) (on : Nat → Nat) (a e : Nat) : Nat := ctP g (ctT g on a) a e
def mxN (pk on : Nat → Nat) (e : Nat) : Nat := if pk e < on e then on e else pk e
def FrH (σ σ' : ST) : Prop := ∀ K i k, ¬ (K = 2 ∧ (k = 7 ∨ k = 8)) → gi σ' K i k = gi σ K i k
section ST3
variable {g : GD} {pm : Nat → Int32} {pe R fd on pk : Nat → Nat} {σ ρ : ST}
theorem GC.fh {σ' : ST} (hc : GC g pm pe σ) (hf : FrH σ σ') : GC g pm pe σ' := hc.cg (fun K i k h => hf K i k (by omega))
theorem C_fc_step (hw : WG g) (hc : GC g pm pe σ) {n a h m : Nat} (hn : n < ne g) (ha : a < 8) (h7 : gi σ 2 (pe n) 7 = nI h) (h8 : gi σ 2 (pe n) 8 = nI m) (hh : h ≤ 300) (hm : m ≤ 600) (hr : tt g n = a → rout g n ≤ h) : ∃ σ' : ST, (if (gi σ 0 0 5) ≤ nI n then
  (some (.inr ((σ, nI n)))) else
  (if inb (nI n) 12 then 
  (if ix (gi σ 5 0 (ix (nI n))) < 12 then 
  (if (gi σ 2 (ix (gi σ 5 0 (ix (nI n)))) 2) = nI a then
  (if (gi σ 2 (ix (gi σ 5 0 (ix (nI n)))) 1) = nI a then
  (some (.inl ((su (su (su σ 2 (ix (gi σ 5 0 (ix (nI n)))) 7 ((gi σ 2 (ix (gi σ 5 0 (ix (nI n)))) 7) - (gi σ 2 (ix (gi σ 5 0 (ix (nI n)))) 4))) 2 (ix (gi σ 5 0 (ix (nI n)))) 7 (((gi σ 2 (ix (gi σ 5 0 (ix (nI n)))) 7) - (gi σ 2 (ix (gi σ 5 0 (ix (nI n)))) 4)) + (gi σ 2 (ix (gi σ 5 0 (ix (nI n)))) 3))) 2 (ix (gi σ 5 0 (ix (nI n)))) 8 (if (gi σ 2 (ix (gi σ 5 0 (ix (nI n)))) 8) < (((gi σ 2 (ix (gi σ 5 0 (ix (nI n)))) 7) - (gi σ 2 (ix (gi σ 5 0 (ix (nI n)))) 4)) + (gi σ 2 (ix (gi σ 5 0 (ix (nI n)))) 3)) then ((gi σ 2 (ix (gi σ 5 0 (ix (nI n)))) 7) - (gi σ 2 (ix (gi σ 5 0 (ix (nI n)))) 4)) + (gi σ 2 (ix (gi σ 5 0 (ix (nI n)))) 3) else gi σ 2 (ix (gi σ 5 0 (ix (nI n)))) 8), nI n + 1)))) else
  (some (.inl ((su (su σ 2 (ix (gi σ 5 0 (ix (nI n)))) 7 ((gi σ 2 (ix (gi σ 5 0 (ix (nI n)))) 7) - (gi σ 2 (ix (gi σ 5 0 (ix (nI n)))) 4))) 2 (ix (gi σ 5 0 (ix (nI n)))) 8 (if (gi σ 2 (ix (gi σ 5 0 (ix (nI n)))) 8) < ((gi σ 2 (ix (gi σ 5 0 (ix (nI n)))) 7) - (gi σ 2 (ix (gi σ 5 0 (ix (nI n)))) 4)) then (gi σ 2 (ix (gi σ 5 0 (ix (nI n)))) 7) - (gi σ 2 (ix (gi σ 5 0 (ix (nI n)))) 4) else gi σ 2 (ix (gi σ 5 0 (ix (nI n)))) 8), nI n + 1))))) else
  (if (gi σ 2 (ix (gi σ 5 0 (ix (nI n)))) 1) = nI a then
  (some (.inl ((su (su σ 2 (ix (gi σ 5 0 (ix (nI n)))) 7 ((gi σ 2 (ix (gi σ 5 0 (ix (nI n)))) 7) + (gi σ 2 (ix (gi σ 5 0 (ix (nI n)))) 3))) 2 (ix (gi σ 5 0 (ix (nI n)))) 8 (if (gi σ 2 (ix (gi σ 5 0 (ix (nI n)))) 8) < ((gi σ 2 (ix (gi σ 5 0 (ix (nI n)))) 7) + (gi σ 2 (ix (gi σ 5 0 (ix (nI n)))) 3)) then (gi σ 2 (ix (gi σ 5 0 (ix (nI n)))) 7) + (gi σ 2 (ix (gi σ 5 0 (ix (nI n)))) 3) else gi σ 2 (ix (gi σ 5 0 (ix (nI n)))) 8), nI n + 1)))) else
  (some (.inl ((su σ 2 (ix (gi σ 5 0 (ix (nI n)))) 8 (if (gi σ 2 (ix (gi σ 5 0 (ix (nI n)))) 8) < (gi σ 2 (ix (gi σ 5 0 (ix (nI n)))) 7) then gi σ 2 (ix (gi σ 5 0 (ix (nI n)))) 7 else gi σ 2 (ix (gi σ 5 0 (ix (nI n)))) 8), nI n + 1)))))) else none) else none) : Option ((ST × Int32) ⊕ (ST × Int32))) = some (.inl (σ', nI (n + 1))) ∧ (∀ K i k, ¬ (K = 2 ∧ i = pe n ∧ (k = 7 ∨ k = 8)) → gi σ' K i k = gi σ K i k) ∧ gi σ' 2 (pe n) 7 = nI (onN g (fun _ => h) a n) ∧ gi σ' 2 (pe n) 8 = nI (mxN (fun _ => m) (onN g (fun _ => h) a) n) := by
  have h12 := hw.1
  obtain ⟨q1, q2⟩ := hc.2.2.1 n (by omega)
  obtain ⟨c1, c2, c3, c4, -⟩ := hc.2.2.2.2 n hn
  obtain ⟨w1, w2, w3, w4, w5, w6, w7, w8, -⟩ := hw.2.2 n hn
  rw [hc.1, if_neg (by rw [n_le (by omega) (by omega)]; omega), if_pos (nb (by omega) (by decide)), nx (by omega), q1, nx (by omega), if_pos q2, c1, c2, c3, c4, h7, h8, n_add1]
  have fin : ∀ (v : Nat), v ≤ 600 → (if nI m < nI v then nI v else nI m) = nI (if m < v then v else m) := by
    intro v hv
    by_cases hlt : m < v
    · rw [if_pos hlt, if_pos (by rw [n_lt (by omega) (by omega)]; exact hlt)]
    · rw [if_neg hlt, if_neg (by rw [n_lt (by omega) (by omega)]; exact hlt)]
  unfold onN mxN ctP ctT
  by_cases ht : tt g n = a
  · have hr := hr ht
    rw [if_pos (show nI (tt g n) = nI a by rw [ht])]
    by_cases hf : fr g n = a
    · rw [if_pos (show nI (fr g n) = nI a by rw [hf]), pk_sub hr, nI_add, fin _ (by omega)]
      simp only [if_pos ht, if_pos hf]
      refine ⟨_, rfl, fun K i k hk => ?_, ?_, ?_⟩
      · rw [gi0 (by omega), gi0 (by omega), gi0 (by omega)]
      · rw [gi_k (by decide), gi_same]
      · rw [gi_same]
    · rw [if_neg (by rw [n_eq (by omega) (by omega)]; exact hf), pk_sub hr, fin _ (by omega)]
      simp only [if_pos ht, if_neg hf]
      refine ⟨_, rfl, fun K i k hk => ?_, ?_, ?_⟩
      · rw [gi0 (by omega), gi0 (by omega)]
      · rw [gi_k (by decide), gi_same]
      · rw [gi_same]
  · rw [if_neg (show ¬ nI (tt g n) = nI a by rw [n_eq (by omega) (by omega)]; exact ht)]
    by_cases hf : fr g n = a
    · rw [if_pos (show nI (fr g n) = nI a by rw [hf]), nI_add, fin _ (by omega)]
      simp only [if_neg ht, if_pos hf]
      refine ⟨_, rfl, fun K i k hk => ?_, ?_, ?_⟩
      · rw [gi0 (by omega), gi0 (by omega)]
      · rw [gi_k (by decide), gi_same]
      · rw [gi_same]
    · rw [if_neg (by rw [n_eq (by omega) (by omega)]; exact hf), fin _ (by omega)]
      simp only [if_neg ht, if_neg hf]
      refine ⟨_, rfl, fun K i k hk => ?_, ?_, ?_⟩
      · rw [gi0 (by omega)]
      · rw [gi_k (by decide), h7]
      · rw [gi_same]
theorem C_fire_cnt (hw : WG g) (hc : GC g pm pe σ) (hk : KC g pe R fd on σ) (hb : KB g R fd on) (hpk : ∀ e, e < ne g → gi σ 2 (pe e) 8 = nI (pk e) ∧ pk e ≤ 600) {a : Nat} (ha : a < 8) (hr : ∀ e, e < ne g → tt g e = a → rout g e ≤ on e) : ∃ σ', C_fireCounting σ (nI a) = some σ' ∧ (∀ K i k, ¬ (K = 2 ∧ (k = 7 ∨ k = 8)) → ¬ (K = 1 ∧ k = 6) → gi σ' K i k = gi σ K i k) ∧ (∀ e, e < ne g → gi σ' 2 (pe e) 7 = nI (onN g on a e) ∧ gi σ' 2 (pe e) 8 = nI (mxN pk (onN g on a) e)) ∧ ∀ b, b < 8 → gi σ' 1 b 6 = nI (up fd a (fd a + 1) b) := by
  have h12 := hw.1
  unfold C_fireCounting
  obtain ⟨⟨r1, r2⟩, hr0, f1, f2⟩ : ∃ r : ST × Int32, lp (fun s1 : ST × Int32 =>
  if (gi s1.1 0 0 5) ≤ s1.2 then
  (some (.inr ((s1.1, s1.2)))) else
  (if inb s1.2 12 then 
  (if ix (gi s1.1 5 0 (ix s1.2)) < 12 then 
  (if (gi s1.1 2 (ix (gi s1.1 5 0 (ix s1.2))) 2) = nI a then
  (if (gi s1.1 2 (ix (gi s1.1 5 0 (ix s1.2))) 1) = nI a then
  (some (.inl ((su (su (su s1.1 2 (ix (gi s1.1 5 0 (ix s1.2))) 7 ((gi s1.1 2 (ix (gi s1.1 5 0 (ix s1.2))) 7) - (gi s1.1 2 (ix (gi s1.1 5 0 (ix s1.2))) 4))) 2 (ix (gi s1.1 5 0 (ix s1.2))) 7 (((gi s1.1 2 (ix (gi s1.1 5 0 (ix s1.2))) 7) - (gi s1.1 2 (ix (gi s1.1 5 0 (ix s1.2))) 4)) + (gi s1.1 2 (ix (gi s1.1 5 0 (ix s1.2))) 3))) 2 (ix (gi s1.1 5 0 (ix s1.2))) 8 (if (gi s1.1 2 (ix (gi s1.1 5 0 (ix s1.2))) 8) < (((gi s1.1 2 (ix (gi s1.1 5 0 (ix s1.2))) 7) - (gi s1.1 2 (ix (gi s1.1 5 0 (ix s1.2))) 4)) + (gi s1.1 2 (ix (gi s1.1 5 0 (ix s1.2))) 3)) then ((gi s1.1 2 (ix (gi s1.1 5 0 (ix s1.2))) 7) - (gi s1.1 2 (ix (gi s1.1 5 0 (ix s1.2))) 4)) + (gi s1.1 2 (ix (gi s1.1 5 0 (ix s1.2))) 3) else gi s1.1 2 (ix (gi s1.1 5 0 (ix s1.2))) 8), s1.2 + 1)))) else
  (some (.inl ((su (su s1.1 2 (ix (gi s1.1 5 0 (ix s1.2))) 7 ((gi s1.1 2 (ix (gi s1.1 5 0 (ix s1.2))) 7) - (gi s1.1 2 (ix (gi s1.1 5 0 (ix s1.2))) 4))) 2 (ix (gi s1.1 5 0 (ix s1.2))) 8 (if (gi s1.1 2 (ix (gi s1.1 5 0 (ix s1.2))) 8) < ((gi s1.1 2 (ix (gi s1.1 5 0 (ix s1.2))) 7) - (gi s1.1 2 (ix (gi s1.1 5 0 (ix s1.2))) 4)) then (gi s1.1 2 (ix (gi s1.1 5 0 (ix s1.2))) 7) - (gi s1.1 2 (ix (gi s1.1 5 0 (ix s1.2))) 4) else gi s1.1 2 (ix (gi s1.1 5 0 (ix s1.2))) 8), s1.2 + 1))))) else
  (if (gi s1.1 2 (ix (gi s1.1 5 0 (ix s1.2))) 1) = nI a then
  (some (.inl ((su (su s1.1 2 (ix (gi s1.1 5 0 (ix s1.2))) 7 ((gi s1.1 2 (ix (gi s1.1 5 0 (ix s1.2))) 7) + (gi s1.1 2 (ix (gi s1.1 5 0 (ix s1.2))) 3))) 2 (ix (gi s1.1 5 0 (ix s1.2))) 8 (if (gi s1.1 2 (ix (gi s1.1 5 0 (ix s1.2))) 8) < ((gi s1.1 2 (ix (gi s1.1 5 0 (ix s1.2))) 7) + (gi s1.1 2 (ix (gi s1.1 5 0 (ix s1.2))) 3)) then (gi s1.1 2 (ix (gi s1.1 5 0 (ix s1.2))) 7) + (gi s1.1 2 (ix (gi s1.1 5 0 (ix s1.2))) 3) else gi s1.1 2 (ix (gi s1.1 5 0 (ix s1.2))) 8), s1.2 + 1)))) else
  (some (.inl ((su s1.1 2 (ix (gi s1.1 5 0 (ix s1.2))) 8 (if (gi s1.1 2 (ix (gi s1.1 5 0 (ix s1.2))) 8) < (gi s1.1 2 (ix (gi s1.1 5 0 (ix s1.2))) 7) then gi s1.1 2 (ix (gi s1.1 5 0 (ix s1.2))) 7 else gi s1.1 2 (ix (gi s1.1 5 0 (ix s1.2))) 8), s1.2 + 1)))))) else none) else none)) 1000 ((σ, 0)) = some r ∧ FrH σ r.1 ∧ ∀ e, e < ne g → gi r.1 2 (pe e) 7 = nI (onN g on a e) ∧ gi r.1 2 (pe e) 8 = nI (mxN pk (onN g on a) e) := by
    refine lp_cnt (fun n s => s.2 = nI n ∧ FrH σ s.1 ∧ (∀ e, e < ne g → e < n → gi s.1 2 (pe e) 7 = nI (onN g on a e) ∧ gi s.1 2 (pe e) 8 = nI (mxN pk (onN g on a) e)) ∧ ∀ e, e < ne g → n ≤ e → gi s.1 2 (pe e) 7 = nI (on e) ∧ gi s.1 2 (pe e) 8 = nI (pk e)) (ne g) _ ?_ ?_ 1000 0 (σ, 0) (by omega) (by omega) ⟨rfl, fun _ _ _ _ => rfl, fun e _ h => by omega, fun e he _ => ⟨hk.2 e he, (hpk e he).1⟩⟩
    · intro n s hn hI
      obtain ⟨t, x⟩ := s
      obtain ⟨e1, e2, e3, e4⟩ := hI
      have e1 : x = nI n := e1
      subst e1
      left
      dsimp only at e2 e3 e4 ⊢
      obtain ⟨y7, y8⟩ := e4 n hn (by omega)
      obtain ⟨σ', z1, z2, z3, z4⟩ := C_fc_step hw (hc.fh e2) hn ha y7 y8 (hb.2 n hn) (hpk n hn).2 (hr n hn)
      refine ⟨_, z1, rfl, fun K i k h => ?_, fun e he hlt => ?_, fun e he hle => ?_⟩
      · dsimp only
        rw [z2 K i k (by omega)]; exact e2 K i k h
      · dsimp only
        by_cases hen : e = n
        · subst hen
          rw [z3, z4]
          exact ⟨rfl, rfl⟩
        · have hpe : ¬ pe e = pe n := fun h => hen (hc.2.2.2.1 e n (by omega) (by omega) h)
          rw [z2 2 _ 7 (by omega), z2 2 _ 8 (by omega)]
          exact e3 e he (by omega)
      · dsimp only
        have hpe : ¬ pe e = pe n := fun h => by have := hc.2.2.2.1 e n (by omega) (by omega) h; omega
        rw [z2 2 _ 7 (by omega), z2 2 _ 8 (by omega)]
        exact e4 e he (by omega)
    · intro s hI
      obtain ⟨t, x⟩ := s
      obtain ⟨e1, e2, e3, e4⟩ := hI
      have e1 : x = nI (ne g) := e1
      subst e1
      dsimp only at e2 e3 e4 ⊢
      rw [(hc.fh e2).1, if_pos (by rw [n_le (by omega) (by omega)]; omega)]
      exact ⟨_, rfl, e2, fun e he => e3 e he he⟩
  rw [hr0]
  simp only [Option.bind_some]
  dsimp only at f1 f2
  rw [if_pos (nb ha (by decide)), nx (by omega)]
  refine ⟨_, rfl, fun K i k h1 h2 => ?_, fun e he => ?_, fun b hb8 => ?_⟩
  · rw [gi0 (by omega)]; exact f1 K i k h1
  · rw [gi_K (by decide), gi_K (by decide)]; exact f2 e he
  · by_cases hba : b = a
    · subst hba
      rw [gi_same, f1 1 b 6 (by omega), (hk.1 b hb8).2, n_add1, up_same]
    · rw [gi_i hba, f1 1 b 6 (by omega), (hk.1 b hb8).2, up_ne hba]
theorem M_step_eq (hw : WG g) (hm : GM g pm ρ) (hk : KM g R fd on ρ) (hb : KB g R fd on) (hpk : ∀ e, e < ne g → gi ρ 17 0 e = nI (pk e) ∧ pk e ≤ 600) {a i : Nat} (ha : a < 8) (hr : ∀ e, e < ne g → tt g e = a → rout g e ≤ on e) (hl : gi ρ 0 0 18 = nI i) (hi : i < 64) : ∃ ρ', M_step ρ (nI a) = some ρ' ∧ (∀ K i k, ¬ (15 ≤ K ∧ K ≤ 18) → ¬ (K = 0 ∧ k = 18) → gi ρ' K i k = gi ρ K i k) ∧ (∀ e, e < ne g → gi ρ' 18 0 e = nI (onN g on a e) ∧ gi ρ' 17 0 e = nI (mxN pk (onN g on a) e)) ∧ (∀ b, b < 8 → gi ρ' 15 0 b = nI (up fd a (fd a + 1) b)) ∧ gi ρ' 0 0 18 = nI (i + 1) ∧ ∀ j, gi ρ' 16 0 j = if j = i then nI a else gi ρ 16 0 j := by
  have h12 := hw.1
  have onb : ∀ e, e < ne g → onN g on a e ≤ 306 := fun e he => by
    have := hb.2 e he
    obtain ⟨w1, w2, w3, w4, w5, w6, w7, w8, -⟩ := hw.2.2 e he
    unfold onN ctP ctT
    split <;> split <;> omega
  unfold M_step
  obtain ⟨⟨r1, y1⟩, hr1, f1, g1⟩ : ∃ r : ST × Int32, lp (fun s1 : ST × Int32 =>
  if (gi s1.1 0 0 8) ≤ s1.2 then
  (some (.inr ((s1.1, s1.2)))) else
  (if inb s1.2 13 then 
  (if (gi s1.1 5 0 (ix s1.2)) = nI a then
  (if inb s1.2 12 then 
  (some (.inl ((su s1.1 18 0 (ix s1.2) ((gi s1.1 18 0 (ix s1.2)) - (gi s1.1 7 0 (ix s1.2))), s1.2 + 1)))) else none) else
  (some (.inl ((s1.1, s1.2 + 1))))) else none)) 1000 ((ρ, 0)) = some r ∧ (∀ K i k, K ≠ 18 → gi r.1 K i k = gi ρ K i k) ∧ ∀ e, e < ne g → gi r.1 18 0 e = nI (ctT g on a e) := by
    refine lp_cnt (fun n s => s.2 = nI n ∧ (∀ K i k, K ≠ 18 → gi s.1 K i k = gi ρ K i k) ∧ ∀ e, e < ne g → gi s.1 18 0 e = nI (if e < n then ctT g on a e else on e)) (ne g) _ ?_ ?_ 1000 0 (ρ, 0) (by omega) (by omega) ⟨rfl, fun _ _ _ _ => rfl, fun e he => by rw [if_neg (by omega)]; exact hk.2.2 e he⟩
    · intro n s hn hI
      obtain ⟨t, x⟩ := s
      obtain ⟨e1, e2, e3⟩ := hI
      have e1 : x = nI n := e1
      subst e1
      left
      dsimp only at e2 e3 ⊢
      obtain ⟨c1, c2, c3, c4, -⟩ := hm.2.2 n hn
      obtain ⟨w1, w2, w3, w4, w5, w6, w7, w8, -⟩ := hw.2.2 n hn
      rw [e2 0 0 8 (by decide), hm.1, if_neg (by rw [n_le (by omega) (by omega)]; omega), if_pos (nb (by omega) (by decide)), nx (by omega), e2 5 0 n (by decide), c2, e2 7 0 n (by decide), c4, e3 n hn, if_neg (show ¬ n < n by omega), n_add1]
      by_cases ht : tt g n = a
      · rw [if_pos (by rw [ht]), if_pos (nb (by omega) (by decide)), pk_sub (hr n hn ht)]
        refine ⟨_, rfl, rfl, fun K i k h => ?_, fun e he => ?_⟩
        · dsimp only; rw [gi_K h]; exact e2 K i k h
        · dsimp only
          by_cases hen : e = n
          · subst hen
            rw [gi_same, if_pos (by omega)]
            unfold ctT
            rw [if_pos ht]
          · rw [gi_k hen, e3 e he]
            by_cases hlt : e < n
            · rw [if_pos hlt, if_pos (by omega)]
            · rw [if_neg hlt, if_neg (by omega)]
      · rw [if_neg (by rw [n_eq (by omega) (by omega)]; exact ht)]
        refine ⟨_, rfl, rfl, e2, fun e he => ?_⟩
        dsimp only
        rw [e3 e he]
        by_cases hen : e = n
        · subst hen
          rw [if_neg (by omega), if_pos (by omega)]
          unfold ctT
          rw [if_neg ht]
        · by_cases hlt : e < n
          · rw [if_pos hlt, if_pos (by omega)]
          · rw [if_neg hlt, if_neg (by omega)]
    · intro s hI
      obtain ⟨t, x⟩ := s
      obtain ⟨e1, e2, e3⟩ := hI
      have e1 : x = nI (ne g) := e1
      subst e1
      dsimp only at e2 e3 ⊢
      rw [e2 0 0 8 (by decide), hm.1, if_pos (by rw [n_le (by omega) (by omega)]; omega)]
      exact ⟨_, rfl, e2, fun e he => by rw [e3 e he, if_pos he]⟩
  rw [hr1]
  simp only [Option.bind_some]
  dsimp only at f1 g1
  obtain ⟨⟨r2, y2⟩, hr2, f2, g2⟩ : ∃ r : ST × Int32, lp (fun s2 : ST × Int32 =>
  if (gi s2.1 0 0 8) ≤ s2.2 then
  (some (.inr ((s2.1, s2.2)))) else
  (if inb s2.2 13 then 
  (if (gi s2.1 4 0 (ix s2.2)) = nI a then
  (if inb s2.2 12 then 
  (some (.inl ((su s2.1 18 0 (ix s2.2) ((gi s2.1 18 0 (ix s2.2)) + (gi s2.1 6 0 (ix s2.2))), s2.2 + 1)))) else none) else
  (some (.inl ((s2.1, s2.2 + 1))))) else none)) 1000 ((r1, 0)) = some r ∧ (∀ K i k, K ≠ 18 → gi r.1 K i k = gi ρ K i k) ∧ ∀ e, e < ne g → gi r.1 18 0 e = nI (onN g on a e) := by
    refine lp_cnt (fun n s => s.2 = nI n ∧ (∀ K i k, K ≠ 18 → gi s.1 K i k = gi ρ K i k) ∧ ∀ e, e < ne g → gi s.1 18 0 e = nI (if e < n then onN g on a e else ctT g on a e)) (ne g) _ ?_ ?_ 1000 0 (r1, 0) (by omega) (by omega) ⟨rfl, f1, fun e he => by rw [if_neg (by omega)]; exact g1 e he⟩
    · intro n s hn hI
      obtain ⟨t, x⟩ := s
      obtain ⟨e1, e2, e3⟩ := hI
      have e1 : x = nI n := e1
      subst e1
      left
      dsimp only at e2 e3 ⊢
      obtain ⟨c1, c2, c3, c4, -⟩ := hm.2.2 n hn
      obtain ⟨w1, w2, w3, w4, w5, w6, w7, w8, -⟩ := hw.2.2 n hn
      rw [e2 0 0 8 (by decide), hm.1, if_neg (by rw [n_le (by omega) (by omega)]; omega), if_pos (nb (by omega) (by decide)), nx (by omega), e2 4 0 n (by decide), c1, e2 6 0 n (by decide), c3, e3 n hn, if_neg (show ¬ n < n by omega), n_add1]
      by_cases ht : fr g n = a
      · rw [if_pos (by rw [ht]), if_pos (nb (by omega) (by decide)), nI_add]
        refine ⟨_, rfl, rfl, fun K i k h => ?_, fun e he => ?_⟩
        · dsimp only; rw [gi_K h]; exact e2 K i k h
        · dsimp only
          by_cases hen : e = n
          · subst hen
            rw [gi_same, if_pos (by omega)]
            unfold onN ctP
            rw [if_pos ht]
          · rw [gi_k hen, e3 e he]
            by_cases hlt : e < n
            · rw [if_pos hlt, if_pos (by omega)]
            · rw [if_neg hlt, if_neg (by omega)]
      · rw [if_neg (by rw [n_eq (by omega) (by omega)]; exact ht)]
        refine ⟨_, rfl, rfl, e2, fun e he => ?_⟩
        dsimp only
        rw [e3 e he]
        by_cases hen : e = n
        · subst hen
          rw [if_neg (by omega), if_pos (by omega)]
          unfold onN ctP
          rw [if_neg ht]
        · by_cases hlt : e < n
          · rw [if_pos hlt, if_pos (by omega)]
          · rw [if_neg hlt, if_neg (by omega)]
    · intro s hI
      obtain ⟨t, x⟩ := s
      obtain ⟨e1, e2, e3⟩ := hI
      have e1 : x = nI (ne g) := e1
      subst e1
      dsimp only at e2 e3 ⊢
      rw [e2 0 0 8 (by decide), hm.1, if_pos (by rw [n_le (by omega) (by omega)]; omega)]
      exact ⟨_, rfl, e2, fun e he => by rw [e3 e he, if_pos he]⟩
  rw [hr2]
  simp only [Option.bind_some]
  dsimp only at f2 g2
  obtain ⟨⟨r3, y3⟩, hr3, f3, g3⟩ : ∃ r : ST × Int32, lp (fun s3 : ST × Int32 =>
  if (gi s3.1 0 0 8) ≤ s3.2 then
  (some (.inr ((s3.1, s3.2)))) else
  (if inb s3.2 12 then 
  (if (gi s3.1 18 0 (ix s3.2)) ≤ (gi s3.1 17 0 (ix s3.2)) then
  (some (.inl ((s3.1, s3.2 + 1)))) else
  (some (.inl ((su s3.1 17 0 (ix s3.2) (gi s3.1 18 0 (ix s3.2)), s3.2 + 1))))) else none)) 1000 ((r2, 0)) = some r ∧ (∀ K i k, K ≠ 17 → gi r.1 K i k = gi r2 K i k) ∧ ∀ e, e < ne g → gi r.1 17 0 e = nI (mxN pk (onN g on a) e) := by
    refine lp_cnt (fun n s => s.2 = nI n ∧ (∀ K i k, K ≠ 17 → gi s.1 K i k = gi r2 K i k) ∧ ∀ e, e < ne g → gi s.1 17 0 e = nI (if e < n then mxN pk (onN g on a) e else pk e)) (ne g) _ ?_ ?_ 1000 0 (r2, 0) (by omega) (by omega) ⟨rfl, fun _ _ _ _ => rfl, fun e he => by rw [if_neg (by omega), f2 17 0 e (by decide)]; exact (hpk e he).1⟩
    · intro n s hn hI
      obtain ⟨t, x⟩ := s
      obtain ⟨e1, e2, e3⟩ := hI
      have e1 : x = nI n := e1
      subst e1
      left
      dsimp only at e2 e3 ⊢
      have ob := onb n hn
      have pb := (hpk n hn).2
      rw [e2 0 0 8 (by decide), f2 0 0 8 (by decide), hm.1, if_neg (by rw [n_le (by omega) (by omega)]; omega), if_pos (nb (by omega) (by decide)), nx (by omega), e2 18 0 n (by decide), g2 n hn, e3 n hn, if_neg (show ¬ n < n by omega), n_add1]
      by_cases ht : onN g on a n ≤ pk n
      · rw [if_pos (by rw [n_le (by omega) (by omega)]; exact ht)]
        refine ⟨_, rfl, rfl, e2, fun e he => ?_⟩
        dsimp only
        rw [e3 e he]
        by_cases hen : e = n
        · subst hen
          rw [if_neg (by omega), if_pos (by omega)]
          unfold mxN
          rw [if_neg (by omega)]
        · by_cases hlt : e < n
          · rw [if_pos hlt, if_pos (by omega)]
          · rw [if_neg hlt, if_neg (by omega)]
      · rw [if_neg (by rw [n_le (by omega) (by omega)]; exact ht)]
        refine ⟨_, rfl, rfl, fun K i k h => ?_, fun e he => ?_⟩
        · dsimp only; rw [gi_K h]; exact e2 K i k h
        · dsimp only
          by_cases hen : e = n
          · subst hen
            rw [gi_same, if_pos (by omega)]
            unfold mxN
            rw [if_pos (by omega)]
          · rw [gi_k hen, e3 e he]
            by_cases hlt : e < n
            · rw [if_pos hlt, if_pos (by omega)]
            · rw [if_neg hlt, if_neg (by omega)]
    · intro s hI
      obtain ⟨t, x⟩ := s
      obtain ⟨e1, e2, e3⟩ := hI
      have e1 : x = nI (ne g) := e1
      subst e1
      dsimp only at e2 e3 ⊢
      rw [e2 0 0 8 (by decide), f2 0 0 8 (by decide), hm.1, if_pos (by rw [n_le (by omega) (by omega)]; omega)]
      exact ⟨_, rfl, e2, fun e he => by rw [e3 e he, if_pos he]⟩
  rw [hr3]
  simp only [Option.bind_some]
  dsimp only at f3 g3
  rw [f3 0 0 18 (by decide), f2 0 0 18 (by decide), hl, if_pos (nb ha (by decide)), if_pos (nb hi (by decide)), nx (by omega), nx (by omega), f3 15 0 a (by decide), f2 15 0 a (by decide), hk.2.1 a ha, n_add1, n_add1]
  refine ⟨_, rfl, fun K j k h1 h2 => ?_, fun e he => ?_, fun b hb8 => ?_, gi_same, fun j => ?_⟩
  · rw [gi0 (by omega), gi0 (by omega), gi0 (by omega), f3 K j k (by omega), f2 K j k (by omega)]
  · rw [gi_K (by decide), gi_K (by decide), gi_K (by decide), gi_K (by decide), gi_K (by decide), gi_K (by decide), f3 18 0 e (by decide)]
    exact ⟨g2 e he, g3 e he⟩
  · rw [gi_K (by decide), gi_K (by decide)]
    by_cases hba : b = a
    · subst hba
      rw [gi_same, up_same]
    · rw [gi_k hba, up_ne hba, f3 15 0 b (by decide), f2 15 0 b (by decide), hk.2.1 b hb8]
  · rw [gi_K (by decide)]
    by_cases hj : j = i
    · subst hj
      rw [gi_same, if_pos rfl]
    · rw [gi_k hj, if_neg hj, gi_K (by decide), f3 16 0 j (by decide), f2 16 0 j (by decide)]
end ST3
