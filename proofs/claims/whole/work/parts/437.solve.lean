/-! PURE: solve -/
section S7
variable {g : GD} {pm : Nat → Int32} {pe S R P Q T L : Nat → Nat} {σ ρ ρ0 : ST} {n k : Nat}
theorem bal_ok2 (hw : WG g) (hk : k ≤ ne g) (h1 : ∀ a, a < 8 → 1 ≤ S a) (h2 : ∀ e, e < k → rin g e * S (fr g e) = rout g e * S (tt g e)) (hB : BO g k 8 Q T L ρ0 ρ) : Con g k T L := by
  obtain ⟨-, f2, f3, f4, -, -⟩ := hB
  intro e he
  obtain ⟨w1, w2, w3, w4, w5, w6, w7, w8, -⟩ := hw.2.2 e (by omega)
  have qf := f3 _ w1 w1 w3
  have qt := f3 _ w2 w2 w4
  have hr : Q (tt g e) = Q (fr g e) := (f4 e he).1 qf (by omega)
  have c1 := ((f2 _ w1).2 qf).2.2.2.2.2.2.2.2.2 S h2
  have c2 := ((f2 _ w2).2 qt).2.2.2.2.2.2.2.2.2 S h2
  rw [hr] at c2
  have s0 := h1 _ qf
  apply Nat.eq_of_mul_eq_mul_left (show 0 < S (Q (fr g e)) by omega)
  calc S (Q (fr g e)) * (T (fr g e) * rin g e * L (tt g e)) = (T (fr g e) * S (Q (fr g e))) * (rin g e * L (tt g e)) := by ac_rfl
    _ = (rin g e * S (fr g e)) * (L (fr g e) * L (tt g e)) := by rw [c1]; ac_rfl
    _ = (L (tt g e) * S (tt g e)) * (rout g e * L (fr g e)) := by rw [h2 e he]; ac_rfl
    _ = S (Q (fr g e)) * (T (tt g e) * rout g e * L (fr g e)) := by rw [← c2]; ac_rfl
theorem m2_step (hw : WG g) (hm : GM g pm ρ) (hn : n ≤ ne g) (h1 : ∀ a, a < 8 → 1 ≤ S a) (h2 : ∀ e, e < n → rin g e * S (fr g e) = rout g e * S (tt g e)) (i : Nat) (s : ST × Int32) (hi : i < n) (hI : s.2 = nI (i + 1) ∧ FrQ ρ s.1) : ∃ s', m2b s = some (.inl s') ∧ s'.2 = nI (i + 1 + 1) ∧ FrQ ρ s'.1 := by
  have h12 := hw.1
  obtain ⟨t, x⟩ := s
  obtain ⟨e1, e2⟩ := hI
  have e1 : x = nI (i + 1) := e1
  subst e1
  dsimp only at e2
  have hm1 := hm.fq e2
  obtain ⟨b, ρ', Q, T, L, z1, z2, z3⟩ := M_bal_eq hw (show i + 1 ≤ ne g by omega) hm1
  have con := bal_ok2 hw (by omega) h1 (fun e he => h2 e (by omega)) z2
  have hb : b = 1 := by
    rcases z3 with ⟨q, -⟩ | ⟨-, q⟩
    · exact q
    · exact absurd con q
  subst hb
  unfold m2b
  dsimp only
  rw [hm1.1, if_neg (by rw [n_lt (by omega) (by omega)]; omega), z1]
  simp only [Option.bind_some]
  rw [if_neg (show ¬ (1 : Int32) = 0 by decide), n_add1]
  exact ⟨_, rfl, rfl, fun K i k h => (z2.1 K i k h).trans (e2 K i k h)⟩
theorem m2_bad (hw : WG g) (hm : GM g pm ρ) (hn : n < ne g) (hcs : CS g n P S) (hp : P (fr g n) = P (tt g n)) (hne : ¬ rin g n * S (fr g n) = rout g n * S (tt g n)) : ∃ ρ', lp m2b 1000 (ρ, 1) = some (.inr (-100 - nI n, ρ')) ∧ FrQ ρ ρ' := by
  have h12 := hw.1
  obtain ⟨r, hr, ρ', hp1, hp2⟩ : ∃ r, lp m2b 1000 (ρ, 1) = some r ∧ ∃ ρ', r = .inr (-100 - nI n, ρ') ∧ FrQ ρ ρ' := by
    refine lp_cnt (fun i s => s.2 = nI (i + 1) ∧ FrQ ρ s.1) n _ ?_ ?_ 1000 0 (ρ, 1) (by omega) (by omega) ⟨rfl, fun _ _ _ _ => rfl⟩
    · intro i s hi hI
      exact Or.inl (m2_step hw hm (by omega) (fun a ha => (hcs.1 a ha).1) hcs.2.1 i s hi hI)
    · intro s hI
      obtain ⟨t, x⟩ := s
      obtain ⟨e1, e2⟩ := hI
      have e1 : x = nI (n + 1) := e1
      subst e1
      dsimp only at e2
      have hm1 := hm.fq e2
      obtain ⟨b, ρ', Q, T, L, z1, z2, z3⟩ := M_bal_eq hw (show n + 1 ≤ ne g by omega) hm1
      have con := bal_bad hw (by omega) hcs hp hne z2
      have hb : b = 0 := by
        rcases z3 with ⟨-, q⟩ | ⟨q, -⟩
        · exact absurd q con
        · exact q
      subst hb
      unfold m2b
      dsimp only
      rw [hm1.1, if_neg (by rw [n_lt (by omega) (by omega)]; omega), z1]
      refine ⟨.inr (-100 - nI n, ρ'), ?_, ρ', rfl, fun K i k h => (z2.1 K i k h).trans (e2 K i k h)⟩
      show some (Sum.inr (Sum.inr ((-100 : Int32) - (nI (n + 1) - 1), ρ'))) = _
      rw [← n_add1, show nI n + 1 - 1 = nI n from by rw [Int32.add_sub_cancel]]
  subst hp1
  exact ⟨ρ', hr, hp2⟩
theorem m2_good (hw : WG g) (hm : GM g pm ρ) (hcs : CS g (ne g) P S) : ∃ x ρ', lp m2b 1000 (ρ, 1) = some (.inl (ρ', x)) ∧ FrQ ρ ρ' := by
  have h12 := hw.1
  obtain ⟨r, hr, x, ρ', hp1, hp2⟩ : ∃ r, lp m2b 1000 (ρ, 1) = some r ∧ ∃ x ρ', r = .inl (ρ', x) ∧ FrQ ρ ρ' := by
    refine lp_cnt (fun i s => s.2 = nI (i + 1) ∧ FrQ ρ s.1) (ne g) _ ?_ ?_ 1000 0 (ρ, 1) (by omega) (by omega) ⟨rfl, fun _ _ _ _ => rfl⟩
    · intro i s hi hI
      exact Or.inl (m2_step hw hm (by omega) (fun a ha => (hcs.1 a ha).1) hcs.2.1 i s hi hI)
    · intro s hI
      obtain ⟨t, x⟩ := s
      obtain ⟨e1, e2⟩ := hI
      have e1 : x = nI (ne g + 1) := e1
      subst e1
      dsimp only at e2
      unfold m2b
      dsimp only
      rw [(hm.fq e2).1, if_pos (by rw [n_lt (by omega) (by omega)]; omega)]
      exact ⟨_, rfl, _, _, rfl, e2⟩
  subst hp1
  exact ⟨x, ρ', hr, hp2⟩
theorem solve_fin (hw : WG g) (hc : GC g pm pe σ) (hm : GM g pm ρ) (f1 : gi σ 0 0 8 = 0) (f2 : gi ρ 0 0 9 = 0) (hb : HB g R) (hR0 : ∀ a, a < 8 → ¬ th g a = 1 → R a = 0) (hC : ∀ a, a < 8 → gi σ 1 a 5 = nI (R a)) (hM : ∀ a, a < 8 → th g a = 1 → gi ρ 14 0 a = nI (R a)) (hex : ∃ a, a < 8 ∧ th g a = 1) {p : Nat} (hp : p ≤ 2) : ∃ r σ' ρ', (C_makeSchedule (su σ 0 0 6 (nI (sm R 8))) (nI p)).bind (fun b5 => 
  (if b5.1 = (-1) then
  ((C_setRunAsAtFirst b5.2).bind (fun b6 => 
  (some ((gi b6 0 0 6, su b6 0 0 8 1))))) else
  (some (((-200) - b5.1, b5.2))))) = some (r, σ') ∧ (lp m3b 1000 ((ρ, 0))).bind (fun r3 : ST × Int32 =>
  (lp m4b 1000 ((r3.1, 0))).bind (fun r4 : ST × Int32 =>
  (lp (sb (nI (sm R 8)) (nI p)) 1000 ((su (su r4.1 0 0 19 0) 0 0 18 0, -1))).bind (fun r5 : (ST × Int32) ⊕ (Int32 × ST) => Sum.elim (fun o3 : ST × Int32 =>
  ((lp m7b 1000 ((o3.1, 0))).bind (fun r7 : ST × Int32 =>
  some ((nI (sm R 8), su r7.1 0 0 9 1))))) (fun v3 : Int32 × ST => some v3) r5))) = some (r, ρ') ∧ Rel σ' ρ' := by
  have h64 := hb.2.1
  have hcA : GC g pm pe (su σ 0 0 6 (nI (sm R 8))) := hc.cg (fun K i k h => by rw [gi0 (by omega)])
  obtain ⟨r1, r2, i1, i2, i3, i4, i5⟩ := C_init hw hcA
  obtain ⟨r3, r4, j1, j2, j3, j4, j5⟩ := M_init hw hm
  have hmB : GM g pm (su (su r4.1 0 0 19 0) 0 0 18 0) := hm.cg (fun K i k h => by rw [gi0 (by omega), gi0 (by omega)]; exact j3 K i k (by omega))
  have hJ : JJ g pe R (su σ 0 0 6 (nI (sm R 8))) (su (su r4.1 0 0 19 0) 0 0 18 0) 0 (r2.1, 0, 0) (su (su r4.1 0 0 19 0) 0 0 18 0, -1) := by
    refine ⟨rfl, ⟨0, by omega, rfl, Or.inl ⟨rfl, rfl⟩⟩, gi_same, i3, fun _ _ _ _ _ => rfl, (fun _ => 0), (fun _ => 0), (fun e => dl g e), (fun e => dl g e), SI.zero hw, ⟨fun a ha => ⟨?_, i4 a ha⟩, fun e he => (i5 e he).1⟩, ⟨fun a ha ta => ?_, fun a ha => ?_, fun e he => ?_⟩, fun e he => ⟨(i5 e he).2, ?_⟩, fun j hj => by omega⟩
    · dsimp only
      rw [i3 1 a 5 (by omega) (by omega) (by omega), gi0 (by omega)]; exact hC a ha
    · dsimp only
      rw [gi0 (by omega), gi0 (by omega), j3 14 0 a (by omega)]; exact hM a ha ta
    · dsimp only
      rw [gi0 (by omega), gi0 (by omega)]; exact (j4 a ha).1
    · dsimp only
      rw [gi0 (by omega), gi0 (by omega)]; exact (j5 e he).2
    · dsimp only
      rw [gi0 (by omega), gi0 (by omega)]; exact (j5 e he).1
  obtain ⟨r, r', s1, s2, s3⟩ := sched hw hb hR0 hcA hmB gi_same hp hJ
  rw [C_makeSchedule_def, i1, j1]
  simp only [Option.bind_some]
  rw [i2, j2]
  simp only [Option.bind_some]
  rw [s1, s2]
  rcases s3 with ⟨t, t', rfl, rfl, hJ'⟩ | ⟨a, σ', ρ', ha, rfl, rfl, fs, fv⟩
  · obtain ⟨τ, y, x⟩ := t
    obtain ⟨τ', y'⟩ := t'
    obtain ⟨-, -, e3, e4, e5, o, fd, on, pk', k1, k2, k3, k4, k5⟩ := hJ'
    dsimp only at e3 e4 e5 k2 k3 k4 k5
    have hcT := hcA.fs e4
    have hmT := hmB.fv e5
    obtain ⟨σ7, u1, u2, u3, u4, u5⟩ := C_set_eq hw hcT
    obtain ⟨r7, v1, v2, v3⟩ := M_tok hw hmT
    have n6 : gi σ7 0 0 6 = nI (sm R 8) := by rw [u2 0 0 6 (by omega) (by omega) (by omega) (by omega), e4 0 0 6 (by omega) (by omega) (by omega), gi_same]
    refine ⟨nI (sm R 8), su σ7 0 0 8 1, su r7.1 0 0 9 1, ?_, ?_, ?_⟩
    · show (C_setRunAsAtFirst τ).bind _ = _
      rw [u1]
      show some (gi σ7 0 0 6, su σ7 0 0 8 1) = _
      rw [n6]
    · show (lp m7b 1000 (τ', 0)).bind _ = _
      rw [v1]
      rfl
    · refine ⟨g, pm, pe, hw, hcT.cg (fun K i k h => by rw [gi0 (by omega)]; exact u2 K i k (by omega) (by omega) (by omega) (by omega)), hmT.cg (fun K i k h => by rw [gi0 (by omega)]; exact v2 K i k (by omega) (by omega)), Or.inr ⟨gi_same, gi_same, mkS R o (sm R 8) pk', fun _ _ => 0, fun _ => 0, fun _ => 0, fun _ => 0, 0, k1.vs hb, ⟨fun a ha ta => hb.2.2 a ha ta, hex⟩, ⟨fun a ha ta => ?_, ?_, fun i hi => ?_, ?_, fun e he => ?_⟩, ⟨fun a ha ta => ?_, ?_, fun i hi => ?_, ?_, fun e he => ?_⟩⟩⟩
      · rw [gi0 (by omega), gi0 (by omega), gi0 (by omega), gi0 (by omega), u2 1 a 5 (by omega) (by omega) (by omega) (by omega)]
        exact ⟨(k2.1 a ha).1, u3 a ha⟩
      · rw [gi0 (by omega)]; exact n6
      · rw [gi0 (by omega), u2 8 0 i (by omega) (by omega) (by omega) (by omega)]
        exact (k5 i hi).1
      · rw [gi0 (by omega)]; exact u5
      · obtain ⟨y1, y2, y3⟩ := u4 e he
        have w9 := (hw.2.2 e he).2.2.2.2.2.2.2.2
        rw [gi0 (by omega), gi0 (by omega), u2 2 _ 8 (by omega) (by omega) (by omega) (by omega)]
        refine ⟨(k4 e he).1, y2, 0, by omega, ?_, fun i hi => ?_⟩
        · rw [gi0 (by omega)]; exact y1
        · rw [gi0 (by omega), show (0 + i) % 256 = i by omega]; exact y3 i hi
      · have q : gi τ' 23 0 a = 0 ∧ gi τ' 24 0 a = 0 := by
          rw [e5 23 0 a (by omega) (by omega), e5 24 0 a (by omega) (by omega), gi0 (by omega), gi0 (by omega), gi0 (by omega), gi0 (by omega)]
          exact (j4 a ha).2
        rw [gi0 (by omega), gi0 (by omega), gi0 (by omega), v2 14 0 a (by omega) (by omega), v2 23 0 a (by omega) (by omega), v2 24 0 a (by omega) (by omega)]
        refine ⟨k3.1 a ha ta, q.1, ?_⟩
        rw [q.2]
        split <;> rfl
      · rw [gi0 (by omega), v2 0 0 18 (by omega) (by omega)]; exact e3
      · rw [gi0 (by omega), v2 16 0 i (by omega) (by omega)]; exact (k5 i hi).2
      · rw [gi0 (by omega), v2 0 0 19 (by omega) (by omega), e5 0 0 19 (by omega) (by omega), gi0 (by omega), gi_same]
      · obtain ⟨y1, y2⟩ := v3 e he
        rw [gi0 (by omega), gi0 (by omega), v2 17 0 e (by omega) (by omega)]
        exact ⟨(k4 e he).2, y1, fun i hi => by rw [gi0 (by omega)]; exact y2 i hi⟩
  · refine ⟨-200 - nI a, σ', ρ', ?_, rfl, g, pm, pe, hw, hcA.fs fs, hmB.fv fv, Or.inl ⟨?_, ?_⟩⟩
    · show (if nI a = -1 then _ else some ((-200) - nI a, σ')) = _
      rw [if_neg (ni_m1 (by omega))]
    · rw [fs 0 0 8 (by omega) (by omega) (by omega), gi0 (by omega)]; exact f1
    · rw [fv 0 0 9 (by omega) (by omega), gi0 (by omega), gi0 (by omega), j3 0 0 9 (by omega)]; exact f2
end S7
theorem op_solve {σ ρ : ST} (hR : Rel σ ρ) (x : Int32) : ∃ r σ' ρ', C_solve σ x = some (r, σ') ∧ M_solve ρ x = some (r, ρ') ∧ Rel σ' ρ' := by
  have hR0 := hR
  obtain ⟨g, pm, pe, hw, hc, hm, hs⟩ := hR
  rw [M_solve_def]
  unfold C_solve
  rcases rng x 0 2 (by decide) (by decide) with ⟨p, -, hp, rfl⟩ | hout
  · rw [show C_isWithin (nI p) 0 2 = some 1 from w_in (lo := 0) (hi := 2) (by omega) (by omega) (by decide)]
    rw [if_neg (show ¬ nI p < 0 by rw [show (0 : Int32) = nI 0 from rfl, n_lt (by omega) (by omega)]; omega), if_pos (show nI p ≤ 2 by rw [show (2 : Int32) = nI 2 from rfl, n_le (by omega) (by omega)]; omega)]
    rw [C_countActors_eq hw hc, cnt_loop (v := fun a => gi ρ 1 0 a) (t := th g) (fun a ha => ⟨(hm.2.1 a ha).1, (hw.2.1 a ha).1⟩)]
    simp only [Option.bind_some]
    rw [if_neg (show ¬ (1 : Int32) = 0 by decide)]
    have h8 : sm (th g) 8 ≤ 8 * 1 := sm_le 8 (fun a ha => (hw.2.1 a ha).1)
    by_cases h0 : sm (th g) 8 = 0
    · rw [h0, if_pos (show nI 0 = 0 from rfl), if_pos (show nI 0 = 0 from rfl)]
      refine ⟨-4, _, _, rfl, rfl, g, pm, pe, hw, hc, hm.cg (fun K i k h => by rw [gi0 (by omega)]), Or.inl ⟨?_, gi_same⟩⟩
      rcases hs with ⟨s1, s2⟩ | s3
      · exact s1
      · obtain ⟨-, -, sd, tk, la, fx, sx, fi, hv, ⟨-, a, ha, ta⟩, -⟩ := s3
        have := sm_ge (f := th g) (t := a) 8 ha
        omega
    · have hn0 : ¬ nI (sm (th g) 8) = 0 := by
        rw [show (0 : Int32) = nI 0 from rfl, n_eq (by omega) (by omega)]; exact h0
      have hex : ∃ a, a < 8 ∧ th g a = 1 := by
        apply Classical.byContradiction
        intro hn
        have := sm_le (f := th g) (b := 0) 8 (fun a ha => by
          have := (hw.2.1 a ha).1
          have : ¬ th g a = 1 := fun q => hn ⟨a, ha, q⟩
          omega)
        omega
      rw [if_neg hn0, if_neg hn0]
      have hc1 : GC g pm pe (su σ 0 0 8 0) := hc.cg (fun K i k h => by rw [gi0 (by omega)])
      have hm1 : GM g pm (su ρ 0 0 9 0) := hm.cg (fun K i k h => by rw [gi0 (by omega)])
      have f1 : gi (su σ 0 0 8 0) 0 0 8 = 0 := gi_same
      have f2 : gi (su ρ 0 0 9 0) 0 0 9 = 0 := gi_same
      generalize su σ 0 0 8 0 = σ1 at *
      generalize su ρ 0 0 9 0 = ρ1 at *
      obtain ⟨r, σ2, c1, c2, c3⟩ := C_fc_eq hw hc1
      have hc2 := hc1.fp c2
      have g1 : gi σ2 0 0 8 = 0 := by rw [c2 0 0 8 (by omega)]; exact f1
      rw [c1]
      simp only [Option.bind_some]
      rcases c3 with ⟨n, P, S, hn, rfl, cp, cs, hpp, hne⟩ | ⟨rfl, P, S, cp, cs, hS⟩
      · have h12 := hw.1
        rw [if_neg (ni_m1 (by omega))]
        obtain ⟨ρ2, e1, e2⟩ := m2_bad hw hm1 hn cs hpp hne
        rw [e1]
        exact ⟨_, _, _, rfl, rfl, g, pm, pe, hw, hc2, hm1.fq e2, Or.inl ⟨g1, by rw [e2 0 0 9 (by omega)]; exact f2⟩⟩
      · rw [if_pos (show (-1 : Int32) = -1 from rfl)]
        obtain ⟨x', ρ2, e1, e2⟩ := m2_good hw hm1 cs
        rw [e1]
        simp only [Option.bind_some, Sum.elim_inl]
        have hm2 := hm1.fq e2
        rw [hm2.1]
        obtain ⟨b, ρ3, Q, T, L, z1, z2, -⟩ := M_bal_eq hw (Nat.le_refl _) hm2
        rw [z1]
        simp only [Option.bind_some]
        have hm3 := hm2.fq z2.1
        obtain ⟨s, ρ4, y1, y2, y3⟩ := M_rep_eq hw hm3 cp cs z2
        rw [y1]
        obtain ⟨σ4, k1, k2, k3⟩ := C_kr_eq hw hc2 hS
        rw [k1]
        simp only [Option.bind_some]
        have hc4 : GC g pm pe σ4 := hc2.cg (fun K i k h => k2 K i k (by omega))
        have hm4 : GM g pm ρ4 := hm3.cg (fun K i k h => y2.1 K i k (by omega))
        have g4 : gi σ4 0 0 8 = 0 := by rw [k2 0 0 8 (by omega)]; exact g1
        have g5 : gi ρ4 0 0 9 = 0 := by rw [y2.1 0 0 9 (by omega), z2.1 0 0 9 (by omega), e2 0 0 9 (by omega)]; exact f2
        have htb : tot g S ≤ 8 * 279936 := by
          unfold tot
          refine sm_le 8 (fun a ha => ?_)
          have := p68 (cs.1 a ha).2
          split <;> omega
        rcases y3 with ⟨t1, rfl, t3⟩ | ⟨t1, t2⟩
        · rw [if_pos (show nI (tot g S) ≤ 64 by rw [show (64 : Int32) = nI 64 from rfl, n_le (by omega) (by omega)]; exact t1), if_pos (show nI (tot g S) ≤ 64 by rw [show (64 : Int32) = nI 64 from rfl, n_le (by omega) (by omega)]; exact t1)]
          refine solve_fin (R := fun a => if th g a = 1 then S a else 0) hw hc4 hm4 g4 g5 ⟨fun e he => ?_, t1, fun a ha ta => ?_⟩ (fun a ha ta => ?_) k3 (fun a ha ta => ?_) hex hp
          · obtain ⟨-, -, w3, w4, -⟩ := hw.2.2 e he
            dsimp only
            rw [if_pos w3, if_pos w4]; exact cs.2.1 e he
          · dsimp only
            rw [if_pos ta]; exact (cs.1 a ha).1
          · skip
            rw [if_neg ta]
          · skip
            rw [if_pos ta]; exact t3 a ha ta
        · rw [if_neg t2, if_neg (show ¬ nI (tot g S) ≤ 64 by rw [show (64 : Int32) = nI 64 from rfl, n_le (by omega) (by omega)]; omega)]
          exact ⟨_, _, _, rfl, rfl, g, pm, pe, hw, hc4, hm4, Or.inl ⟨g4, g5⟩⟩
  · rw [w_out (lo := 0) (hi := 2) hout]
    simp only [Option.bind_some]
    refine ⟨-1, σ, ρ, by simp, ?_, hR0⟩
    rcases hout with h | h
    · rw [if_pos (show x < 0 from h)]
    · by_cases h0 : x < 0
      · rw [if_pos h0]
      · rw [if_neg h0, if_neg (show ¬ x ≤ 2 from Int32.not_le.mpr h)]
