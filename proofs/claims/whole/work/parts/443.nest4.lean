/-! PURE: nested, both sides -/
section N4
variable {g : GD} {pm : Nat → Int32} {pe r l : Nat → Nat} {σ ρ : ST} {K : Nat}
theorem LK.mono (h : LK g l K) {i j : Nat} (hij : i ≤ j) (hj : j < K) : l i ≤ l j := by
  by_cases e : i = j
  · subst e; exact Nat.le_refl _
  · exact Nat.le_of_lt (h.lt (by omega) hj)
theorem LK.inj (h : LK g l K) {i a : Nat} (hi : i < K) (hl : l i = a) : i = sm (th g) a := by
  rw [← hl]; exact (h.2 i hi).2.2.symm
theorem M_mid_eq (hw : WG g) (hm : GM g pm ρ) (hl : LK g l K) (hK : 1 ≤ K) (hr : ∀ a, a < 8 → th g a = 1 → 1 ≤ r a ∧ r a ≤ 64) (h14 : MR g r ρ) {n : Nat} (hn : l 0 + n ≤ l (K - 1)) {t : ST} (hf : Fr25 ρ t) (ht0 : NTM (co (cc g r l) 8) l K n (l 0) t) : ∃ q : ST × Int32, lp (sbb (nI (l (K - 1))) (nI (n + 1))) 1000 (t, nI (l 0)) = some q ∧ Fr25 ρ q.1 ∧ NTM (co (cc g r l) 8) l K (n + 1) (l 0) q.1 := by
  have h8 := hl.le hw
  obtain ⟨k1, k2, k3⟩ := hl.2 (K - 1) (by omega)
  refine lp_cnt (fun m s => s.2 = nI (l 0 + m) ∧ Fr25 ρ s.1 ∧ NTM (co (cc g r l) 8) l K n (l 0 + m) s.1) (l (K - 1) + 1 - n - l 0) _ ?_ ?_ 1000 0 (t, nI (l 0)) (by omega) (by omega) ⟨rfl, hf, ht0⟩
  · intro m s hm' hI
    obtain ⟨u, x⟩ := s
    obtain ⟨e1, e2, e3⟩ := hI
    have e1 : x = nI (l 0 + m) := e1
    subst e1
    left
    dsimp only at e2 e3
    have hmu : GM g pm u := hm.cg (fun K i k h => e2 K i k (by omega))
    have h14u : MR g r u := fun a ha ta => by rw [e2 14 0 a (by omega)]; exact h14 a ha ta
    generalize hs : l 0 + m = s at *
    have hs8 : s + n < 8 := by omega
    have key : ∃ x y, lp (nib u (nI s) (nI (n + 1))) 1000 (-1, nI s) = some (x, y) ∧ ((x = -1 ∧ ¬ (th g s = 1 ∧ th g (s + n) = 1 ∧ 0 < n)) ∨ ∃ v, v < 2147483648 ∧ x = nI v ∧ (∀ i j, i ≤ j → j < K → l i = s → l j = s + n → v = co (cc g r l) 8 i j)) := by
      by_cases hp : th g s = 1 ∧ th g (s + n) = 1 ∧ 0 < n
      · obtain ⟨p1, p2, p3⟩ := hp
        obtain ⟨a1, a2⟩ := hl.rk (show s < 8 by omega) p1
        obtain ⟨b1, b2⟩ := hl.rk hs8 p2
        have hab := sm_up1 (f := th g) (show s < s + n by omega) p1
        have hin := M_in_eq hw hmu hl hr h14u hab b1 (show l (sm (th g) (s + n)) = l (sm (th g) s) + n by rw [a2, b2]) (by rw [a2]; exact e3)
        rw [a2] at hin
        have cb := co_bd (c := cc g r l) (B := 4608) (fun i k j => cc_le hw hr i k j) 8 (sm (th g) s) (sm (th g) (s + n))
        have b5 : 4608 * (sm (th g) (s + n) - sm (th g) s) ≤ 4608 * 8 := Nat.mul_le_mul_left _ (by omega)
        refine ⟨_, _, hin, Or.inr ⟨_, by omega, rfl, fun i j hij hj hi' hj' => ?_⟩⟩
        rw [hl.inj (by omega) hi', hl.inj hj hj']
      · refine ⟨-1, nI s, ?_, Or.inl ⟨rfl, hp⟩⟩
        refine lp_for (fun _ => ((-1 : Int32), nI s)) 0 (fun i hi => by omega) ?_ 1000 0 (by omega) (by omega)
        unfold nib
        dsimp only
        rw [n_e1]
        by_cases h0 : n = 0
        · rw [if_pos (by rw [n_le (by omega) (by omega)]; omega)]
        · rw [if_neg (by rw [n_le (by omega) (by omega)]; omega), if_pos (nb (by omega) (by decide)), nx (by omega), (hmu.2.1 s (by omega)).1]
          have w1 := (hw.2.1 s (by omega)).1
          by_cases h1 : th g s = 1
          · have w2 := (hw.2.1 (s + n) hs8).1
            rw [h1, if_neg (show ¬ nI 1 = 0 by decide), if_pos (nb hs8 (by decide)), nx (by omega), (hmu.2.1 (s + n) hs8).1, show th g (s + n) = 0 by omega, if_pos (show nI 0 = 0 from rfl)]
          · rw [show th g s = 0 by omega, if_pos (show nI 0 = 0 from rfl)]
    obtain ⟨x, y, z1, z2⟩ := key
    obtain ⟨v, zv, hv⟩ : ∃ v, (if 0 ≤ x then
  (if inb ((nI s * 8) + nI (s + n)) 64 then 
  (some (.inl ((su u 25 0 (ix ((nI s * 8) + nI (s + n))) x, nI s + 1)))) else none) else
  (if inb ((nI s * 8) + nI (s + n)) 64 then 
  (some (.inl ((su u 25 0 (ix ((nI s * 8) + nI (s + n))) 0, nI s + 1)))) else none) : Option ((ST × Int32) ⊕ (ST × Int32))) = some (.inl (su u 25 0 (s * 8 + (s + n)) (nI v), nI (s + 1))) ∧ ∀ i j, i ≤ j → j < K → l i = s → l j = s + n → v = co (cc g r l) 8 i j := by
      rw [n_i8, if_pos (nb (show s * 8 + (s + n) < 64 by omega) (by decide)), if_pos (nb (show s * 8 + (s + n) < 64 by omega) (by decide)), nx (by omega), n_add1]
      rcases z2 with ⟨rfl, q2⟩ | ⟨v, v1, rfl, v2⟩
      · refine ⟨0, by rw [if_neg m1_nn]; rfl, fun i j hij hj hi' hj' => ?_⟩
        have t1 := (hl.2 i (by omega)).2.1
        have t2 := (hl.2 j hj).2.1
        rw [hi'] at t1
        rw [hj'] at t2
        have n0 : n = 0 := Nat.eq_zero_of_not_pos (fun q => q2 ⟨t1, t2, q⟩)
        subst n0
        rw [hl.inj (by omega) hi', hl.inj hj hj', Nat.add_zero, co_self]
      · exact ⟨v, by rw [if_pos (nI_pos' v1)], v2⟩
    unfold sbb
    dsimp only
    rw [n_e1, if_neg (by rw [n_lt (by omega) (by omega)]; omega), z1]
    simp only [Option.bind_some]
    refine ⟨_, zv, by rw [show l 0 + (m + 1) = s + 1 by omega], fun K i k h => ?_, fun i j hij hj hh => ?_⟩
    · dsimp only; rw [gi_K h]; exact e2 K i k h
    · dsimp only
      have l1 := (hl.2 i (by omega)).1
      have l2 := (hl.2 j hj).1
      by_cases hc : l i = s ∧ l j = s + n
      · rw [hc.1, hc.2, gi_same, hv i j hij hj hc.1 hc.2]
      · rw [gi_k (by omega)]
        exact e3 i j hij hj (by omega)
  · intro s hI
    obtain ⟨u, x⟩ := s
    obtain ⟨e1, e2, e3⟩ := hI
    have e1 : x = nI (l 0 + (l (K - 1) + 1 - n - l 0)) := e1
    subst e1
    dsimp only at e2 e3
    unfold sbb
    dsimp only
    rw [n_e1, if_pos (by rw [n_lt (by omega) (by omega)]; omega)]
    refine ⟨_, rfl, e2, fun i j hij hj hh => ?_⟩
    have l1 := hl.mono (Nat.zero_le i) (show i < K by omega)
    have l2 := hl.mono (show j ≤ K - 1 by omega) (by omega)
    exact e3 i j hij hj (by omega)
theorem M_tab_eq (hw : WG g) (hm : GM g pm ρ) (hl : LK g l K) (hK : 1 ≤ K) (hr : ∀ a, a < 8 → th g a = 1 → 1 ≤ r a ∧ r a ≤ 64) (h14 : MR g r ρ) : ∃ q : ST × Int32, lp (nbb (nI (l 0)) (nI (l (K - 1)))) 1000 (ρ, 1) = some q ∧ Fr25 ρ q.1 ∧ gi q.1 25 0 (l 0 * 8 + l (K - 1)) = nI (co (cc g r l) 8 0 (K - 1)) := by
  have h8 := hl.le hw
  obtain ⟨k1, k2, k3⟩ := hl.2 (K - 1) (by omega)
  have h0 := hl.mono (Nat.zero_le (K - 1)) (show K - 1 < K by omega)
  refine lp_cnt (fun n s => s.2 = nI (n + 1) ∧ Fr25 ρ s.1 ∧ NTM (co (cc g r l) 8) l K n (l 0) s.1) (l (K - 1) - l 0 + 1) _ ?_ ?_ 1000 0 (ρ, 1) (by omega) (by omega) ⟨rfl, fun _ _ _ _ => rfl, fun i j hij hj hh => ?_⟩
  · intro n s hn hI
    obtain ⟨u, x⟩ := s
    obtain ⟨e1, e2, e3⟩ := hI
    have e1 : x = nI (n + 1) := e1
    subst e1
    left
    dsimp only at e2 e3
    obtain ⟨q, z1, z2, z3⟩ := M_mid_eq hw hm hl hK hr h14 (show l 0 + n ≤ l (K - 1) by omega) e2 e3
    unfold nbb
    dsimp only
    rw [pk_sub h0, n_add1, if_neg (by rw [n_lt (by omega) (by omega)]; omega), z1]
    simp only [Option.bind_some]
    rw [n_add1]
    exact ⟨_, rfl, rfl, z2, z3⟩
  · intro s hI
    obtain ⟨u, x⟩ := s
    obtain ⟨e1, e2, e3⟩ := hI
    have e1 : x = nI (l (K - 1) - l 0 + 1 + 1) := e1
    subst e1
    dsimp only at e2 e3
    unfold nbb
    dsimp only
    rw [pk_sub h0, n_add1, if_pos (by rw [n_lt (by omega) (by omega)]; omega)]
    exact ⟨_, rfl, e2, e3 0 (K - 1) (by omega) (by omega) (by omega)⟩
  · have l1 := hl.mono (Nat.zero_le i) (show i < K by omega)
    have l2 := hl.mono hij hj
    omega
theorem M_ok_step (hw : WG g) (hm : GM g pm ρ) {e : Nat} (he : e < ne g) (hok : okE g e) : okb ρ (nI e) = some (.inl (nI (e + 1))) := by
  have h12 := hw.1
  obtain ⟨w1, w2, w3, w4, w5, w6, w7, w8, w9⟩ := hw.2.2 e he
  obtain ⟨c1, c2, c3, c4, c5⟩ := hm.2.2 e he
  unfold okb
  rw [hm.1, if_neg (by rw [n_le (by omega) (by omega)]; omega), if_pos (nb (by omega) (by decide)), nx (by omega), c1, c2, c5, n_add1]
  rcases hok with h | ⟨h1, h2⟩
  · rw [if_pos (by rw [h])]
  · rw [if_neg (by rw [n_eq (by omega) (by omega)]; omega), if_neg (by rw [n_lt (by omega) (by omega)]; omega), if_pos (by rw [h2]; decide)]
theorem M_ok_eq (hw : WG g) (hm : GM g pm ρ) (h : ∀ e, e < ne g → okE g e) : lp (okb ρ) 1000 0 = some (.inl (nI (ne g))) := by
  have h12 := hw.1
  refine lp_for (body := okb ρ) (fun e => nI e) (ne g) (fun e he => M_ok_step hw hm he (h e he)) ?_ 1000 0 (by omega) (by omega)
  unfold okb
  rw [hm.1, if_pos (by rw [n_le (by omega) (by omega)]; omega)]
theorem M_ok_bad (hw : WG g) (hm : GM g pm ρ) {e : Nat} (he : e < ne g) (hb : ¬ okE g e) (h : ∀ j, j < e → okE g j) : lp (okb ρ) 1000 0 = some (.inr (-4, ρ)) := by
  have h12 := hw.1
  refine lp_for (body := okb ρ) (fun e => nI e) e (fun j hj => M_ok_step hw hm (by omega) (h j hj)) ?_ 1000 0 (by omega) (by omega)
  obtain ⟨w1, w2, w3, w4, w5, w6, w7, w8, w9⟩ := hw.2.2 e he
  obtain ⟨c1, c2, c3, c4, c5⟩ := hm.2.2 e he
  unfold okE at hb
  unfold okb
  rw [hm.1, if_neg (by rw [n_le (by omega) (by omega)]; omega), if_pos (nb (by omega) (by decide)), nx (by omega), c1, c2, c5, if_neg (by rw [n_eq (by omega) (by omega)]; omega)]
  by_cases hlt : tt g e < fr g e
  · rw [if_pos (by rw [n_lt (by omega) (by omega)]; exact hlt)]
  · rw [if_neg (by rw [n_lt (by omega) (by omega)]; exact hlt), if_neg (by rw [show (0 : Int32) = nI 0 from rfl, n_le (by omega) (by omega)]; omega)]
end N4
theorem Rel.fr2 {σ ρ σ' ρ' : ST} (hR : Rel σ ρ) (h1 : FrN σ σ') (h2 : Fr25 ρ ρ') : Rel σ' ρ' := by
  obtain ⟨g, pm, pe, hw, hc, hm, hs⟩ := hR
  refine ⟨g, pm, pe, hw, hc.cg (fun K i k h => h1 K i k (by omega) (by omega)), hm.cg (fun K i k h => h2 K i k (by omega)), ?_⟩
  rw [h1 0 0 8 (by omega) (by omega), h2 0 0 9 (by omega)]
  rcases hs with hs | hs
  · exact Or.inl hs
  · obtain ⟨q1, q2, sd, tk, la, fx, sx, fi, hv, hr, ⟨c1, c2, c3, c4, c5⟩, ⟨m1, m2, m3, m4, m5⟩⟩ := hs
    refine Or.inr ⟨by rw [h1 0 0 8 (by omega) (by omega)]; exact q1, by rw [h2 0 0 9 (by omega)]; exact q2, sd, tk, la, fx, sx, fi, hv, hr, ⟨fun a ha ta => ?_, ?_, fun i hi => ?_, ?_, fun e he => ?_⟩, ⟨fun a ha ta => ?_, ?_, fun i hi => ?_, ?_, fun e he => ?_⟩⟩
    · rw [h1 1 a 5 (by omega) (by omega), h1 1 a 9 (by omega) (by omega), h1 1 a 7 (by omega) (by omega), h1 1 a 8 (by omega) (by omega)]; exact c1 a ha ta
    · rw [h1 0 0 6 (by omega) (by omega)]; exact c2
    · rw [h1 8 0 i (by omega) (by omega)]; exact c3 i hi
    · rw [h1 0 0 7 (by omega) (by omega)]; exact c4
    · obtain ⟨z1, z2, st, z3, z4, z5⟩ := c5 e he
      rw [h1 2 _ 8 (by omega) (by omega), h1 2 _ 7 (by omega) (by omega)]
      exact ⟨z1, z2, st, z3, by rw [h1 2 _ 6 (by omega) (by omega)]; exact z4, fun i hi => by rw [h1 3 _ _ (by omega) (by omega)]; exact z5 i hi⟩
    · rw [h2 14 0 a (by omega), h2 23 0 a (by omega), h2 24 0 a (by omega)]; exact m1 a ha ta
    · rw [h2 0 0 18 (by omega)]; exact m2
    · rw [h2 16 0 i (by omega)]; exact m3 i hi
    · rw [h2 0 0 19 (by omega)]; exact m4
    · obtain ⟨z1, z2, z3⟩ := m5 e he
      rw [h2 17 0 e (by omega), h2 22 0 e (by omega)]
      exact ⟨z1, z2, fun i hi => by rw [h2 21 0 _ (by omega)]; exact z3 i hi⟩
theorem op_nested {σ ρ : ST} (hR : Rel σ ρ) : ∃ r σ' ρ', C_nested σ = some (r, σ') ∧ M_nested ρ = some (r, ρ') ∧ Rel σ' ρ' := by
  have hR0 := hR
  obtain ⟨g, pm, pe, hw, hc, hm, hs⟩ := hR
  rw [M_nested_def]
  unfold C_nested
  rcases sol_or hs with ⟨s1, s2⟩ | ⟨s1, s2, s3⟩
  · rw [if_pos s1, if_pos s2]
    exact ⟨_, _, _, rfl, rfl, hR0⟩
  · rw [if_neg s1, if_neg s2]
    obtain ⟨q1, q2, sd, tk, la, fx, sx, fi, hv, ⟨hr1, a0, ha0, ta0⟩, hC, hM⟩ := s3
    have hr : ∀ a, a < 8 → th g a = 1 → 1 ≤ rp sd a ∧ rp sd a ≤ 64 := fun a ha ta => ⟨hr1 a ha ta, by rw [← hv.2.2.1 a ha ta]; exact Nat.le_trans (cnt_le sd a _) hv.1⟩
    obtain ⟨l, hl⟩ := lk_ex hw
    have hK : 1 ≤ sm (th g) 8 := by have := (hl.rk ha0 ta0).1; omega
    rcases C_can_nest hw hc with ⟨h1, h2⟩ | ⟨e, he, h1, h2, h3⟩
    · rw [h2, M_ok_eq hw hm h1]
      simp only [Option.bind_some, Sum.elim_inl]
      rw [if_neg (show ¬ (1 : Int32) = 0 by decide)]
      generalize hKK : sm (th g) 8 = K at *
      have h8 := hl.le hw
      obtain ⟨k1, k2, k3⟩ := hl.2 (K - 1) (by omega)
      obtain ⟨j1, j2, j3⟩ := hl.2 0 (by omega)
      obtain ⟨σ', c1, c2⟩ := C_room_eq (r := fun a => rp sd a) hw hc hl hK hr (fun a ha ta => (hC.1 a ha ta).1)
      obtain ⟨q, m1, m2, m3⟩ := M_tab_eq (r := fun a => rp sd a) hw hm hl hK hr (fun a ha ta => (hM.1 a ha ta).1)
      have z1 := M_nx (s := 0) hm (Nat.zero_le _) j1 j2 (fun a _ h2 => hl.gap hw (show a < 8 by omega) (n := 0) (Or.inl rfl) (Or.inr h2) (by omega))
      rw [show nI 0 = (0 : Int32) from rfl] at z1
      have z2 := M_dn hm k1 k2 (fun a h1 h2 => hl.gap hw h2 (n := K) (Or.inr h1) (Or.inl rfl) (Nat.le_refl _))
      rw [c1, z1]
      simp only [Option.bind_some]
      rw [z2]
      simp only [Option.bind_some]
      rw [m1]
      simp only [Option.bind_some]
      rw [n_i8, if_pos (nb (by omega) (by decide)), nx (by omega), m3]
      exact ⟨_, _, _, rfl, rfl, hR0.fr2 c2 m2⟩
    · rw [h3, M_ok_bad hw hm he h1 h2]
      exact ⟨-4, _, _, rfl, rfl, hR0⟩
