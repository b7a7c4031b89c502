/-! PURE: firing on numbers, the class's side -/
/-- the class's edges hold the tokens -/
def TC (g : GD) (pe ct : Nat → Nat) (tk : Nat → Nat → Int32) (σ : ST) : Prop := ∀ e, e < ne g → gi σ 2 (pe e) 7 = nI (ct e) ∧ ∃ st : Nat, st < 256 ∧ gi σ 2 (pe e) 6 = nI st ∧ ∀ i, i < ct e → gi σ 3 (pe e) ((st + i) % 256) = tk e i
/-- nothing but tokens changed -/
def FrC (σ σ' : ST) : Prop := ∀ K i k, K ≠ 3 → ¬ (K = 2 ∧ (k = 6 ∨ k = 7)) → gi σ' K i k = gi σ K i k
theorem FrC.rf {σ : ST} : FrC σ σ := fun _ _ _ _ _ => rfl
theorem FrC.tr {a b c : ST} (h1 : FrC a b) (h2 : FrC b c) : FrC a c := fun K i k x y => (h2 K i k x y).trans (h1 K i k x y)
theorem GC.fr {g : GD} {pm : Nat → Int32} {pe : Nat → Nat} {σ σ' : ST} (hc : GC g pm pe σ) (hf : FrC σ σ') : GC g pm pe σ' := by
  refine ⟨?_, fun a ha => ?_, fun e he => ?_, hc.2.2.2.1, fun e he => ?_⟩
  · rw [hf 0 0 5 (by decide) (by omega)]; exact hc.1
  · rw [hf 1 a 0 (by decide) (by omega), hf 1 a 1 (by decide) (by omega), hf 1 a 2 (by decide) (by omega)]; exact hc.2.1 a ha
  · rw [hf 5 0 e (by decide) (by omega)]; exact hc.2.2.1 e he
  · rw [hf 2 _ 1 (by decide) (by omega), hf 2 _ 2 (by decide) (by omega), hf 2 _ 3 (by decide) (by omega), hf 2 _ 4 (by decide) (by omega), hf 2 _ 5 (by decide) (by omega)]; exact hc.2.2.2.2 e he
/-- the weighed sum of the first n tokens -/
def wT (t : Nat → Int32) (n : Nat) : Int32 := smI (fun i => t i * nI (i + 1)) n
section RC
variable {g : GD} {pm : Nat → Int32} {pe ct : Nat → Nat} {tk : Nat → Nat → Int32} {σ : ST}
theorem C_at_eq (hw : WG g) (hT : TC g pe ct tk σ) {e i st : Nat} (he : e < ne g) (hst : gi σ 2 (pe e) 6 = nI st) (h2 : st < 256) (hi : i < 1000) : C_Edge_at σ (pe e) (nI i) = some (gi σ 3 (pe e) ((st + i) % 256)) := by
  unfold C_Edge_at
  rw [hst, nI_add, n_and255 (by omega), if_pos (nb (by omega) (by decide)), nx (by omega)]
theorem C_take_eq (hw : WG g) (hc : GC g pm pe σ) (hT : TC g pe ct tk σ) {e : Nat} (he : e < ne g) (hout : rout g e ≤ ct e) (hct : ct e ≤ 256) : ∃ σ', C_Edge_takeWeighed σ (pe e) = some (wT (tk e) (rout g e), σ') ∧ FrC σ σ' ∧ TC g pe (fun d => if d = e then ct e - rout g e else ct d) (fun d i => if d = e then tk e (i + rout g e) else tk d i) σ' := by
  obtain ⟨c7, st, s1, s2, s3⟩ := hT e he
  obtain ⟨-, -, -, c4, -⟩ := hc.2.2.2.2 e he
  have h12 := hw.1
  obtain ⟨-, -, -, -, -, -, -, ho6, -⟩ := hw.2.2 e he
  unfold C_Edge_takeWeighed
  rw [show lp (fun s1 : Int32 × Int32 =>
  if (gi σ 2 (pe e) 4) ≤ s1.2 then
  (some (.inr ((s1.1, s1.2)))) else
  ((C_Edge_at σ (pe e) s1.2).bind (fun b1 => 
  (some (.inl ((s1.1 + (b1 * (s1.2 + 1)), s1.2 + 1))))))) 1000 ((0, 0)) = some (wT (tk e) (rout g e), nI (rout g e)) from ?_]
  · refine ⟨_, rfl, fun K i k hK hk => ?_, fun d hd => ?_⟩
    · by_cases h2 : K = 2
      · subst h2
        rw [gi_k (by omega), gi_k (by omega)]
      · rw [gi_K h2, gi_K h2]
    · dsimp only
      by_cases hde : d = e
      · subst hde
        rw [if_pos rfl, gi_same]
        refine ⟨?_, (st + rout g d) % 256, by omega, ?_, fun i hi => ?_⟩
        · rw [c7, c4, pk_sub hout]
        · rw [gi_k (by decide), gi_same, s2, c4, nI_add, n_and255 (by omega)]
        · rw [if_pos rfl, gi_K (by decide), gi_K (by decide), show ((st + rout g d) % 256 + i) % 256 = (st + (i + rout g d)) % 256 by omega]
          exact s3 _ (by omega)
      · have hpe : ¬ pe d = pe e := fun h => hde (hc.2.2.2.1 d e (by omega) (by omega) h)
        rw [if_neg hde, gi_i hpe, gi_i hpe]
        obtain ⟨t7, su', q1, q2, q3⟩ := hT d hd
        refine ⟨t7, su', q1, ?_, fun i hi => ?_⟩
        · rw [gi_i hpe, gi_i hpe]; exact q2
        · rw [if_neg hde, gi_K (by decide), gi_K (by decide)]
          exact q3 i hi
  · refine lp_for (fun i => (wT (tk e) i, nI i)) (rout g e) (fun i hi => ?_) ?_ 1000 0 (by omega) (by omega)
    · dsimp only
      rw [c4, if_neg (by rw [n_le (by omega) (by omega)]; omega), C_at_eq hw hT he s2 s1 (by omega), s3 i (by omega)]
      simp only [Option.bind_some]
      rw [n_add1]
      rfl
    · dsimp only
      rw [c4, if_pos (by rw [n_le (by omega) (by omega)]; omega)]
theorem C_put_eq (hw : WG g) (hc : GC g pm pe σ) (hT : TC g pe ct tk σ) {e : Nat} (he : e < ne g) (hct : ct e + rin g e ≤ 256) (y : Int32) : ∃ σ', C_Edge_putFrom σ (pe e) y = some σ' ∧ FrC σ σ' ∧ TC g pe (fun d => if d = e then ct e + rin g e else ct d) (fun d i => if d = e ∧ ct e ≤ i then y + nI (i - ct e) else tk d i) σ' := by
  obtain ⟨c7, st, s1, s2, s3⟩ := hT e he
  obtain ⟨-, -, c3, -, -⟩ := hc.2.2.2.2 e he
  have h12 := hw.1
  obtain ⟨-, -, -, -, -, hi6, -, -, -⟩ := hw.2.2 e he
  unfold C_Edge_putFrom
  obtain ⟨⟨r1, r2⟩, hr, rf, rn⟩ : ∃ r : ST × Int32, lp (fun s1 : ST × Int32 =>
  if (gi s1.1 2 (pe e) 3) ≤ s1.2 then
  (some (.inr ((s1.1, s1.2)))) else
  (if inb ((((gi s1.1 2 (pe e) 6) + (gi s1.1 2 (pe e) 7)) + s1.2) &&& 255) 256 then 
  (some (.inl ((su s1.1 3 (pe e) (ix ((((gi s1.1 2 (pe e) 6) + (gi s1.1 2 (pe e) 7)) + s1.2) &&& 255)) (y + s1.2), s1.2 + 1)))) else none)) 1000 ((σ, 0)) = some r ∧ (∀ K i k, ¬ (K = 3 ∧ i = pe e) → gi r.1 K i k = gi σ K i k) ∧ (∀ k, k < ct e + rin g e → gi r.1 3 (pe e) ((st + k) % 256) = if ct e ≤ k then y + nI (k - ct e) else gi σ 3 (pe e) ((st + k) % 256)) := by
    refine lp_cnt (fun j s => s.2 = nI j ∧ (∀ K i k, ¬ (K = 3 ∧ i = pe e) → gi s.1 K i k = gi σ K i k) ∧ (∀ k, k < ct e + rin g e → gi s.1 3 (pe e) ((st + k) % 256) = if ct e ≤ k ∧ k < ct e + j then y + nI (k - ct e) else gi σ 3 (pe e) ((st + k) % 256))) (rin g e) _ ?_ ?_ 1000 0 (σ, 0) (by omega) (by omega) ⟨rfl, fun _ _ _ _ => rfl, fun k _ => by rw [if_neg (by omega)]⟩
    · intro j s hj hI
      obtain ⟨t1, t2⟩ := s
      obtain ⟨e1, e2, e3⟩ := hI
      have e1 : t2 = nI j := e1
      subst e1
      left
      dsimp only at e2 e3 ⊢
      rw [e2 2 _ 3 (by omega), e2 2 _ 6 (by omega), e2 2 _ 7 (by omega), c3, s2, c7, if_neg (by rw [n_le (by omega) (by omega)]; omega), nI_add, nI_add, n_and255 (by omega), if_pos (nb (by omega) (by decide)), nx (by omega), n_add1]
      refine ⟨_, rfl, rfl, fun K i k hk => ?_, fun k hk => ?_⟩
      · dsimp only
        rw [gi0 (by omega)]
        exact e2 K i k hk
      · dsimp only
        by_cases hkj : k = ct e + j
        · subst hkj
          rw [show st + (ct e + j) = st + ct e + j by omega, gi_same, if_pos (by omega), show ct e + j - ct e = j by omega]
        · rw [gi_k (by omega), e3 k hk]
          by_cases h1 : ct e ≤ k ∧ k < ct e + j
          · rw [if_pos h1, if_pos (by omega)]
          · rw [if_neg h1, if_neg (by omega)]
    · intro s hI
      obtain ⟨t1, t2⟩ := s
      obtain ⟨e1, e2, e3⟩ := hI
      have e1 : t2 = nI (rin g e) := e1
      subst e1
      dsimp only at e2 e3 ⊢
      rw [e2 2 _ 3 (by omega), c3, if_pos (by rw [n_le (by omega) (by omega)]; omega)]
      refine ⟨_, rfl, e2, fun k hk => ?_⟩
      rw [e3 k hk]
      by_cases h1 : ct e ≤ k
      · rw [if_pos h1, if_pos (by omega)]
      · rw [if_neg h1, if_neg (by omega)]
  rw [hr]
  simp only [Option.bind_some]
  dsimp only at rf rn
  refine ⟨_, rfl, fun K i k hK hk => ?_, fun d hd => ?_⟩
  · by_cases h2 : K = 2
    · subst h2
      rw [gi_k (by omega)]
      exact rf 2 i k (by omega)
    · rw [gi_K h2]
      exact rf K i k (by omega)
  · dsimp only
    by_cases hde : d = e
    · subst hde
      rw [if_pos rfl, gi_same, rf 2 _ 7 (by omega), rf 2 _ 3 (by omega), c7, c3, nI_add]
      refine ⟨rfl, st, s1, ?_, fun i hi => ?_⟩
      · rw [gi_k (by decide), rf 2 _ 6 (by omega)]; exact s2
      · rw [gi_K (by decide), rn i hi]
        by_cases h1 : ct d ≤ i
        · rw [if_pos h1, if_pos ⟨rfl, h1⟩]
        · rw [if_neg h1, if_neg (by omega)]
          exact s3 i (by omega)
    · have hpe : ¬ pe d = pe e := fun h => hde (hc.2.2.2.1 d e (by omega) (by omega) h)
      rw [if_neg hde, gi_i hpe]
      obtain ⟨t7, su', q1, q2, q3⟩ := hT d hd
      refine ⟨by rw [rf 2 _ 7 (by omega)]; exact t7, su', q1, ?_, fun i hi => ?_⟩
      · rw [gi_i hpe, rf 2 _ 6 (by omega)]; exact q2
      · rw [if_neg (by omega), gi_K (by decide), rf 3 _ _ (by omega)]
        exact q3 i hi
end RC
