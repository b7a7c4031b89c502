/-! PURE: the run -/
theorem cnt_le (sd : GD) (a : Nat) : ∀ i, cnt sd a i ≤ i
  | 0 => Nat.le_refl _
  | i + 1 => by
    have := cnt_le sd a i
    unfold cnt
    split <;> omega
theorem cnt_s (sd : GD) (a i : Nat) : cnt sd a (i + 1) = cnt sd a i + if od sd i = a then 1 else 0 := rfl
theorem GC.cg {g : GD} {pm : Nat → Int32} {pe : Nat → Nat} {σ σ' : ST} (hc : GC g pm pe σ) (hf : ∀ K i k, ((K = 0 ∧ k = 5) ∨ (K = 1 ∧ k ≤ 2) ∨ (K = 2 ∧ 1 ≤ k ∧ k ≤ 5) ∨ K = 5) → gi σ' K i k = gi σ K i k) : GC g pm pe σ' := by
  refine ⟨?_, fun a ha => ?_, fun e he => ?_, hc.2.2.2.1, fun e he => ?_⟩
  · rw [hf 0 0 5 (by omega)]; exact hc.1
  · rw [hf 1 a 0 (by omega), hf 1 a 1 (by omega), hf 1 a 2 (by omega)]; exact hc.2.1 a ha
  · rw [hf 5 0 e (by omega)]; exact hc.2.2.1 e he
  · rw [hf 2 _ 1 (by omega), hf 2 _ 2 (by omega), hf 2 _ 3 (by omega), hf 2 _ 4 (by omega), hf 2 _ 5 (by omega)]; exact hc.2.2.2.2 e he
theorem GM.cg {g : GD} {pm : Nat → Int32} {ρ ρ' : ST} (hm : GM g pm ρ) (hf : ∀ K i k, ((K = 0 ∧ k = 8) ∨ (1 ≤ K ∧ K ≤ 8)) → gi ρ' K i k = gi ρ K i k) : GM g pm ρ' := by
  refine ⟨?_, fun a ha => ?_, fun e he => ?_⟩
  · rw [hf 0 0 8 (by omega)]; exact hm.1
  · rw [hf 1 0 a (by omega), hf 2 0 a (by omega), hf 3 0 a (by omega)]; exact hm.2.1 a ha
  · rw [hf 4 0 e (by omega), hf 5 0 e (by omega), hf 6 0 e (by omega), hf 7 0 e (by omega), hf 8 0 e (by omega)]; exact hm.2.2 e he
section RR
variable {g sd : GD} {pm : Nat → Int32} {pe : Nat → Nat}
theorem ont_next (hw : WG g) (hv : VS g sd) {i e : Nat} (he : e < ne g) (hi : i < ln sd) : ctP g (ctT g (fun e => ont g sd e i) (od sd i)) (od sd i) e = ont g sd e (i + 1) := by
  obtain ⟨-, -, -, -, v5, v6, -⟩ := hv
  obtain ⟨b1, -⟩ := v6 e i he (by omega)
  obtain ⟨b2, -⟩ := v6 e (i + 1) he (by omega)
  have r := v5 e i he hi
  unfold ctP ctT ont
  dsimp only
  unfold ont at r
  rw [cnt_s, cnt_s, Nat.mul_add, Nat.mul_add] at b2 ⊢
  generalize rin g e * cnt sd (fr g e) i = A at *
  generalize rout g e * cnt sd (tt g e) i = B at *
  by_cases h1 : fr g e = od sd i
  · by_cases h2 : tt g e = od sd i
    · have r := r h2.symm
      rw [if_pos h1, if_pos h2, if_pos h1.symm, if_pos h2.symm]
      rw [if_pos h1.symm, if_pos h2.symm] at b2
      omega
    · rw [if_pos h1, if_neg h2, if_pos h1.symm, if_neg (Ne.symm h2)]
      rw [if_pos h1.symm, if_neg (Ne.symm h2)] at b2
      omega
  · by_cases h2 : tt g e = od sd i
    · have r := r h2.symm
      rw [if_neg h1, if_pos h2, if_neg (Ne.symm h1), if_pos h2.symm]
      rw [if_neg (Ne.symm h1), if_pos h2.symm] at b2
      omega
    · rw [if_neg h1, if_neg h2, if_neg (Ne.symm h1), if_neg (Ne.symm h2)]
      omega
theorem ont_zero (e : Nat) : ont g sd e 0 = dl g e := by
  unfold ont cnt
  simp
theorem ont_end (hw : WG g) (hv : VS g sd) {e : Nat} (he : e < ne g) : ont g sd e (ln sd) = dl g e := by
  obtain ⟨-, -, v3, v4, -⟩ := hv
  obtain ⟨w1, w2, w3, w4, -⟩ := hw.2.2 e he
  have := v4 e he
  unfold ont
  rw [v3 _ w1 w3, v3 _ w2 w4, this]
  omega
/-- both, in the middle of a run, n firings from its begin -/
def RS (g sd : GD) (pm : Nat → Int32) (pe : Nat → Nat) (σ0 ρ0 : ST) (i n : Nat) (σ ρ : ST) : Prop := FrF σ0 σ ∧ FrG ρ0 ρ ∧ gi ρ 0 0 19 = gi ρ0 0 0 19 + nI n ∧ ∃ tk la fx sx, TC g pe (fun e => ont g sd e i) tk σ ∧ AA g la fx sx σ ∧ TM g (fun e => ont g sd e i) tk ρ ∧ AM g la fx sx ρ
theorem RS.step (hw : WG g) (hv : VS g sd) {σ0 ρ0 σ ρ : ST} (hc : GC g pm pe σ0) (hm : GM g pm ρ0) {i n : Nat} (hi : i < ln sd) (h : RS g sd pm pe σ0 ρ0 i n σ ρ) : ∃ σ' ρ', C_fire σ (nI (od sd i)) = some σ' ∧ M_fire ρ (nI (od sd i)) = some ρ' ∧ RS g sd pm pe σ0 ρ0 (i + 1) (n + 1) σ' ρ' := by
  obtain ⟨f1, f2, f3, tk, la, fx, sx, t1, t2, t3, t4⟩ := h
  have hc1 := hc.ff f1
  have hm1 : GM g pm ρ := hm.fr (fun K i k h1 h2 => f2 K i k (by omega) h2)
  obtain ⟨a1, a2⟩ := hv.2.1 i hi
  have ho : ∀ e, e < ne g → tt g e = od sd i → rout g e ≤ ont g sd e i := fun e he h => hv.2.2.2.2.1 e i he hi h.symm
  have hb : ∀ e, e < ne g → ont g sd e i ≤ 256 := fun e he => by have := (hv.2.2.2.2.2.1 e i he (by omega)).2; omega
  have hb2 : ∀ e, e < ne g → ctP g (ctT g (fun e => ont g sd e i) (od sd i)) (od sd i) e ≤ 256 := fun e he => by
    rw [ont_next hw hv he hi]
    have := (hv.2.2.2.2.2.1 e (i + 1) he (by omega)).2; omega
  obtain ⟨σ', c1, c2, c3, c4⟩ := C_fire_eq hw hc1 t1 t2 a1 a2 ho hb hb2
  obtain ⟨ρ', m1, m2, m3, m4, m5⟩ := M_fire_eq hw hm1 t3 t4 a1 a2 ho hb hb2
  refine ⟨σ', ρ', c1, m1, fun K i k h1 h2 h3 => (c2 K i k h1 h2 h3).trans (f1 K i k h1 h2 h3), fun K i k h1 h2 => (m2 K i k h1 h2).trans (f2 K i k h1 h2), ?_, _, _, _, _, c3.cg (fun d hd => ont_next hw hv hd hi) (fun _ _ _ _ => rfl), c4, m3.cg (fun d hd => ont_next hw hv hd hi) (fun _ _ _ _ => rfl), m4⟩
  rw [m5, f3, Int32.add_assoc, ← n_add1]
theorem RS.period (hw : WG g) (hv : VS g sd) {σ0 ρ0 σ ρ : ST} (hc : GC g pm pe σ0) (hm : GM g pm ρ0) (hl : gi σ0 0 0 6 = nI (ln sd)) (hl' : gi ρ0 0 0 18 = nI (ln sd)) (ho : ∀ i, i < ln sd → gi σ0 8 0 i = nI (od sd i)) (ho' : ∀ i, i < ln sd → gi ρ0 16 0 i = nI (od sd i)) {n : Nat} (h : RS g sd pm pe σ0 ρ0 0 n σ ρ) : ∃ r r' : ST × Int32, (lp (fun s2 : ST × Int32 =>
  if (gi s2.1 0 0 6) ≤ s2.2 then
  (some (.inr ((s2.1, s2.2)))) else
  (if inb s2.2 64 then 
  ((C_fire s2.1 (gi s2.1 8 0 (ix s2.2))).bind (fun b2 => 
  (some (.inl ((b2, s2.2 + 1)))))) else none)) 1000 ((σ, 0))) = some r ∧ (lp (fun s2 : ST × Int32 =>
  if (gi s2.1 0 0 18) ≤ s2.2 then
  (some (.inr ((s2.1, s2.2)))) else
  (if inb s2.2 64 then 
  ((M_fire s2.1 (gi s2.1 16 0 (ix s2.2))).bind (fun b1 => 
  (some (.inl ((b1, s2.2 + 1)))))) else none)) 1000 ((ρ, 0))) = some r' ∧ RS g sd pm pe σ0 ρ0 0 (n + ln sd) r.1 r'.1 := by
  have h64 := hv.1
  refine lp_cnt2 (fun i s s' => s.2 = nI i ∧ s'.2 = nI i ∧ RS g sd pm pe σ0 ρ0 i (n + i) s.1 s'.1) (ln sd) _ ?_ ?_ 1000 0 (σ, 0) (ρ, 0) (by omega) (by omega) ⟨rfl, rfl, h⟩
  · intro i s s' hi hI
    obtain ⟨t, x⟩ := s
    obtain ⟨t', x'⟩ := s'
    obtain ⟨e1, e2, e3⟩ := hI
    have e1 : x = nI i := e1
    have e2 : x' = nI i := e2
    subst e1 e2
    dsimp only at e3 ⊢
    rw [e3.1 0 0 6 (by decide) (by omega) (by omega), hl, if_neg (by rw [n_le (by omega) (by omega)]; omega), if_pos (nb (by omega) (by decide)), nx (by omega), e3.1 8 0 i (by decide) (by omega) (by omega), ho i hi]
    rw [e3.2.1 0 0 18 (by omega) (by omega), hl', if_neg (by rw [n_le (by omega) (by omega)]; omega), if_pos (nb (by omega) (by decide)), e3.2.1 16 0 i (by omega) (by omega), ho' i hi]
    obtain ⟨σ', ρ', c1, m1, hn⟩ := RS.step hw hv hc hm hi e3
    rw [c1, m1, n_add1]
    exact ⟨_, _, rfl, rfl, rfl, rfl, hn⟩
  · intro s s' hI
    obtain ⟨t, x⟩ := s
    obtain ⟨t', x'⟩ := s'
    obtain ⟨e1, e2, e3⟩ := hI
    have e1 : x = nI (ln sd) := e1
    have e2 : x' = nI (ln sd) := e2
    subst e1 e2
    dsimp only at e3 ⊢
    rw [e3.1 0 0 6 (by decide) (by omega) (by omega), hl, if_pos (by rw [n_le (by omega) (by omega)]; omega)]
    rw [e3.2.1 0 0 18 (by omega) (by omega), hl', if_pos (by rw [n_le (by omega) (by omega)]; omega)]
    refine ⟨_, _, rfl, rfl, e3.1, e3.2.1, e3.2.2.1, ?_⟩
    obtain ⟨tk, la, fx, sx, t1, t2, t3, t4⟩ := e3.2.2.2
    exact ⟨tk, la, fx, sx, t1.cg (fun d hd => by rw [ont_end hw hv hd, ont_zero]) (fun _ _ _ _ => rfl), t2, t3.cg (fun d hd => by rw [ont_end hw hv hd, ont_zero]) (fun _ _ _ _ => rfl), t4⟩
end RR
theorem op_run {σ ρ : ST} (hR : Rel σ ρ) (x : Int32) : ∃ r σ' ρ', C_run σ x = some (r, σ') ∧ M_run ρ x = some (r, ρ') ∧ Rel σ' ρ' := by
  have hR0 := hR
  obtain ⟨g, pm, pe, hw, hc, hm, hs⟩ := hR
  unfold C_run M_run
  rcases rng x 1 8 (by decide) (by decide) with ⟨p, hp1, hp2, rfl⟩ | hout
  · rw [show C_isWithin (nI p) 1 8 = some 1 from w_in (lo := 1) (hi := 8) (by omega) (by omega) (by decide)]
    rw [if_neg (show ¬ nI p < 1 by rw [show (1 : Int32) = nI 1 from rfl, n_lt (by omega) (by omega)]; omega), if_pos (show nI p ≤ 8 by rw [show (8 : Int32) = nI 8 from rfl, n_le (by omega) (by omega)]; omega)]
    simp only [Option.bind_some]
    rw [if_neg (show ¬ (1 : Int32) = 0 by decide)]
    rcases sol_or hs with ⟨s1, s2⟩ | ⟨s1, s2, s3⟩
    · rw [if_pos s1, if_pos s2]
      exact ⟨_, _, _, rfl, rfl, hR0⟩
    · rw [if_neg s1, if_neg s2]
      obtain ⟨q1, q2, sd, tk, la, fx, sx, fi, hv, hr, ⟨c1, c2, c3, c4, c5⟩, ⟨m1, m2, m3, m4, m5⟩⟩ := s3
      have h64 := hv.1
      have h0 : RS g sd pm pe σ ρ 0 0 σ ρ := by
        refine ⟨fun _ _ _ _ _ _ => rfl, fun _ _ _ _ _ => rfl, by rw [show nI 0 = 0 from rfl, Int32.add_zero], tk, la, fx, sx, fun e he => ?_, fun a ha ta => (c1 a ha ta).2, fun e he => ?_, fun a ha ta => (m1 a ha ta).2⟩
        · dsimp only; rw [ont_zero]; exact (c5 e he).2
        · dsimp only; rw [ont_zero]; exact (m5 e he).2
      obtain ⟨r, r', e1, e2, e3⟩ : ∃ r r' : ST × Int32, lp (fun s1 : ST × Int32 =>
  if nI p ≤ s1.2 then
  (some (.inr ((s1.1, s1.2)))) else
  ((lp (fun s2 : ST × Int32 =>
  if (gi s2.1 0 0 6) ≤ s2.2 then
  (some (.inr ((s2.1, s2.2)))) else
  (if inb s2.2 64 then 
  ((C_fire s2.1 (gi s2.1 8 0 (ix s2.2))).bind (fun b2 => 
  (some (.inl ((b2, s2.2 + 1)))))) else none)) 1000 ((s1.1, 0))).bind (fun r2 : ST × Int32 =>
  some (.inl ((r2.1, s1.2 + 1)))))) 1000 ((σ, 0)) = some r ∧ lp (fun s1 : ST × Int32 =>
  if nI p ≤ s1.2 then
  (some (.inr ((s1.1, s1.2)))) else
  ((lp (fun s2 : ST × Int32 =>
  if (gi s2.1 0 0 18) ≤ s2.2 then
  (some (.inr ((s2.1, s2.2)))) else
  (if inb s2.2 64 then 
  ((M_fire s2.1 (gi s2.1 16 0 (ix s2.2))).bind (fun b1 => 
  (some (.inl ((b1, s2.2 + 1)))))) else none)) 1000 ((s1.1, 0))).bind (fun r2 : ST × Int32 =>
  some (.inl ((r2.1, s1.2 + 1)))))) 1000 ((ρ, 0)) = some r' ∧ RS g sd pm pe σ ρ 0 (p * ln sd) r.1 r'.1 := by
        refine lp_cnt2 (fun i s s' => s.2 = nI i ∧ s'.2 = nI i ∧ RS g sd pm pe σ ρ 0 (i * ln sd) s.1 s'.1) p _ ?_ ?_ 1000 0 (σ, 0) (ρ, 0) (by omega) (by omega) ⟨rfl, rfl, by rw [Nat.zero_mul]; exact h0⟩
        · intro i s s' hi hI
          obtain ⟨t, x⟩ := s
          obtain ⟨t', x'⟩ := s'
          obtain ⟨e1, e2, e3⟩ := hI
          have e1 : x = nI i := e1
          have e2 : x' = nI i := e2
          subst e1 e2
          dsimp only at e3 ⊢
          rw [if_neg (by rw [n_le (by omega) (by omega)]; omega), if_neg (by rw [n_le (by omega) (by omega)]; omega)]
          obtain ⟨r, r', z1, z2, z3⟩ := RS.period hw hv hc hm c2 m2 c3 m3 e3
          rw [z1, z2, n_add1]
          exact ⟨_, _, rfl, rfl, rfl, rfl, by rw [Nat.add_mul, Nat.one_mul]; exact z3⟩
        · intro s s' hI
          obtain ⟨t, x⟩ := s
          obtain ⟨t', x'⟩ := s'
          obtain ⟨e1, e2, e3⟩ := hI
          have e1 : x = nI p := e1
          have e2 : x' = nI p := e2
          subst e1 e2
          dsimp only at e3 ⊢
          rw [if_pos (by rw [n_le (by omega) (by omega)]; omega), if_pos (by rw [n_le (by omega) (by omega)]; omega)]
          exact ⟨_, _, rfl, rfl, e3⟩
      rw [e1, e2]
      simp only [Option.bind_some]
      obtain ⟨f1, f2, f3, tk', la', fx', sx', t1, t2, t3, t4⟩ := e3
      rw [f1 0 0 6 (by decide) (by omega) (by omega), c2, f2 0 0 18 (by omega) (by omega), m2, pk_mul]
      refine ⟨_, _, _, rfl, rfl, g, pm, pe, hw, (hc.ff f1).cg (fun K i k h1 => ?_), hm.fr (fun K i k h1 h2 => f2 K i k (by omega) h2), Or.inr ⟨?_, ?_, sd, tk', la', fx', sx', fi + nI (p * ln sd), hv, hr, ⟨fun a ha ta => ?_, ?_, fun i hi => ?_, ?_, fun e he => ?_⟩, ⟨fun a ha ta => ?_, ?_, fun i hi => ?_, ?_, fun e he => ?_⟩⟩⟩
      · rw [gi0 (by omega)]
      · rw [gi0 (by omega), f1 0 0 8 (by decide) (by omega) (by omega)]; exact q1
      · rw [f2 0 0 9 (by omega) (by omega)]; exact q2
      · rw [gi_K (by decide), gi_K (by decide), gi_K (by decide), gi_K (by decide), f1 1 a 5 (by decide) (by omega) (by omega)]
        exact ⟨(c1 a ha ta).1, t2 a ha ta⟩
      · rw [gi0 (by omega), f1 0 0 6 (by decide) (by omega) (by omega)]; exact c2
      · rw [gi_K (by decide), f1 8 0 i (by decide) (by omega) (by omega)]; exact c3 i hi
      · rw [gi_same, f1 0 0 7 (by decide) (by omega) (by omega), c4]
      · obtain ⟨z1, st, z2, z3, z4⟩ := t1 e he
        dsimp only at z1 z4
        rw [ont_zero] at z1 z4
        refine ⟨?_, ?_, st, z2, ?_, fun i hi => ?_⟩
        · rw [gi_K (by decide), f1 2 _ 8 (by decide) (by omega) (by omega)]; exact (c5 e he).1
        · rw [gi_K (by decide)]; exact z1
        · rw [gi_K (by decide)]; exact z3
        · rw [gi_K (by decide)]; exact z4 i hi
      · rw [f2 14 0 a (by omega) (by omega)]
        exact ⟨(m1 a ha ta).1, t4 a ha ta⟩
      · rw [f2 0 0 18 (by omega) (by omega)]; exact m2
      · rw [f2 16 0 i (by omega) (by omega)]; exact m3 i hi
      · rw [f3, m4]
      · obtain ⟨z1, z4⟩ := t3 e he
        dsimp only at z1 z4
        rw [ont_zero] at z1 z4
        rw [f2 17 0 e (by omega) (by omega)]
        exact ⟨(m5 e he).1, z1, z4⟩
  · rw [w_out (lo := 1) (hi := 8) hout]
    simp only [Option.bind_some]
    refine ⟨-1, σ, ρ, by simp, ?_, hR0⟩
    rcases hout with h | h
    · rw [if_pos (show x < 1 from h)]
    · by_cases h0 : x < 1
      · rw [if_pos h0]
      · rw [if_neg h0, if_neg (show ¬ x ≤ 8 from Int32.not_le.mpr h)]
