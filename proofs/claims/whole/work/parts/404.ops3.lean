/-! PURE: unedge -/
theorem n_m1 (n : Nat) (h : 1 ≤ n) : nI n - 1 = nI (n - 1) := n_sub1 h
theorem C_unedge_loop {g : GD} {pm : Nat → Int32} {pe : Nat → Nat} {σ : ST} (hw : WG g) (hc : GC g pm pe σ) {e : Nat} (he : e < ne g) : ∃ r : ST × Int32, lp (fun s1 : ST × Int32 =>
  if ((gi s1.1 0 0 5) - 1) ≤ s1.2 then
  (some (.inr ((s1.1, s1.2)))) else
  (if inb (s1.2 + 1) 12 then 
  (if ix (gi s1.1 5 0 (ix (s1.2 + 1))) < 12 then 
  (if inb s1.2 12 then 
  (some (.inl ((su s1.1 5 0 (ix s1.2) (nI (ix (gi s1.1 5 0 (ix (s1.2 + 1))))), s1.2 + 1)))) else none) else none) else none)) 1000 ((σ, nI e)) = some r ∧ (∀ K i k, K ≠ 5 → gi r.1 K i k = gi σ K i k) ∧ (∀ j, j < 12 → gi r.1 5 0 j = nI (if e ≤ j ∧ j < ne g - 1 then pe (j + 1) else pe j)) := by
  have h12 := hw.1
  refine lp_cnt (fun i s => (s.2 = nI i ∧ e ≤ i) ∧ (∀ K i k, K ≠ 5 → gi s.1 K i k = gi σ K i k) ∧ (∀ j, j < 12 → gi s.1 5 0 j = nI (if e ≤ j ∧ j < i then pe (j + 1) else pe j))) (ne g - 1) _ ?_ ?_ 1000 e (σ, nI e) (by omega) (by omega) ⟨⟨rfl, Nat.le_refl _⟩, fun _ _ _ _ => rfl, fun j hj => ?_⟩
  · intro i s hi hI
    obtain ⟨s1, s2⟩ := s
    obtain ⟨⟨e1, hei⟩, e2, e3⟩ := hI
    have e1 : s2 = nI i := e1
    subst e1
    left
    dsimp only at e2 e3 ⊢
    rw [e2 0 0 5 (by decide), hc.1, n_m1 _ (by omega), if_neg (by rw [n_le (by omega) (by omega)]; omega), n_add1, if_pos (nb (by omega) (by decide)), nx (by omega)]
    · have e4 : gi s1 5 0 (i + 1) = nI (pe (i + 1)) := by rw [e3 (i + 1) (by omega), if_neg (by omega)]
      have hp := (hc.2.2.1 (i + 1) (by omega)).2
      rw [e4, nx (by omega), if_pos hp, if_pos (nb (by omega) (by decide)), nx (by omega)]
      refine ⟨_, rfl, ⟨rfl, by omega⟩, fun K i' k hK => ?_, fun j hj => ?_⟩
      · rw [gi_K hK]
        exact e2 K i' k hK
      · dsimp only
        by_cases hji : j = i
        · subst hji
          rw [gi_same, if_pos (by omega)]
        · rw [gi_k hji, e3 j hj]
          congr 1
          by_cases h1 : e ≤ j ∧ j < i
          · rw [if_pos h1, if_pos (by omega)]
          · rw [if_neg h1, if_neg (by omega)]
  · intro s hI
    obtain ⟨s1, s2⟩ := s
    obtain ⟨⟨e1, -⟩, e2, e3⟩ := hI
    have e1 : s2 = nI (ne g - 1) := e1
    subst e1
    dsimp only at e2 e3 ⊢
    rw [e2 0 0 5 (by decide), hc.1, n_m1 _ (by omega), if_pos (by rw [n_le (by omega) (by omega)]; omega)]
    exact ⟨_, rfl, e2, e3⟩
  · dsimp only
    rw [(hc.2.2.1 j hj).1, if_neg (by omega)]

theorem M_unedge_loop {ρ : ST} {n e : Nat} (hn : n ≤ 12) (he : e < n) (h8 : gi ρ 0 0 8 = nI (n - 1)) : ∃ r : ST × Int32, lp (fun s1 : ST × Int32 =>
  if (gi s1.1 0 0 8) ≤ s1.2 then
  (some (.inr ((s1.1, s1.2)))) else
  (if inb (s1.2 + 1) 13 then 
  (if inb s1.2 13 then 
  (some (.inl ((su (su (su (su (su s1.1 4 0 (ix s1.2) (gi s1.1 4 0 (ix (s1.2 + 1)))) 5 0 (ix s1.2) (gi s1.1 5 0 (ix (s1.2 + 1)))) 6 0 (ix s1.2) (gi s1.1 6 0 (ix (s1.2 + 1)))) 7 0 (ix s1.2) (gi s1.1 7 0 (ix (s1.2 + 1)))) 8 0 (ix s1.2) (gi s1.1 8 0 (ix (s1.2 + 1))), s1.2 + 1)))) else none) else none)) 1000 ((ρ, nI e)) = some r ∧ (∀ K i k, (K < 4 ∨ 8 < K) → gi r.1 K i k = gi ρ K i k) ∧ (∀ K j, 4 ≤ K → K ≤ 8 → gi r.1 K 0 j = if e ≤ j ∧ j < n - 1 then gi ρ K 0 (j + 1) else gi ρ K 0 j) := by
  refine lp_cnt (fun i s => (s.2 = nI i ∧ e ≤ i) ∧ (∀ K i k, (K < 4 ∨ 8 < K) → gi s.1 K i k = gi ρ K i k) ∧ (∀ K j, 4 ≤ K → K ≤ 8 → gi s.1 K 0 j = if e ≤ j ∧ j < i then gi ρ K 0 (j + 1) else gi ρ K 0 j)) (n - 1) _ ?_ ?_ 1000 e (ρ, nI e) (by omega) (by omega) ⟨⟨rfl, Nat.le_refl _⟩, fun _ _ _ _ => rfl, fun K j _ _ => ?_⟩
  · intro i s hi hI
    obtain ⟨s1, s2⟩ := s
    obtain ⟨⟨e1, hei⟩, e2, e3⟩ := hI
    have e1 : s2 = nI i := e1
    subst e1
    left
    dsimp only at e2 e3 ⊢
    rw [e2 0 0 8 (by omega), h8, if_neg (by rw [n_le (by omega) (by omega)]; omega), n_add1, if_pos (nb (by omega) (by decide)), if_pos (nb (by omega) (by decide)), nx (by omega), nx (by omega)]
    refine ⟨_, rfl, ⟨rfl, by omega⟩, fun K i' k hK => ?_, fun K j h4 h8 => ?_⟩
    · dsimp only
      rw [gi_K (by omega), gi_K (by omega), gi_K (by omega), gi_K (by omega), gi_K (by omega)]
      exact e2 K i' k hK
    · dsimp only
      have hnew : ∀ K, 4 ≤ K → K ≤ 8 → gi s1 K 0 (i + 1) = gi ρ K 0 (i + 1) := fun K a b => by rw [e3 K (i + 1) a b, if_neg (by omega)]
      by_cases hji : j = i
      · subst hji
        rw [if_pos (by omega)]
        rcases (show K = 4 ∨ K = 5 ∨ K = 6 ∨ K = 7 ∨ K = 8 by omega) with rfl | rfl | rfl | rfl | rfl <;> simp [gi_su, hnew]
      · rw [gi_k hji, gi_k hji, gi_k hji, gi_k hji, gi_k hji, e3 K j h4 h8]
        by_cases h1 : e ≤ j ∧ j < i
        · rw [if_pos h1, if_pos (by omega)]
        · rw [if_neg h1, if_neg (by omega)]
  · intro s hI
    obtain ⟨s1, s2⟩ := s
    obtain ⟨⟨e1, -⟩, e2, e3⟩ := hI
    have e1 : s2 = nI (n - 1) := e1
    subst e1
    dsimp only at e2 e3 ⊢
    rw [e2 0 0 8 (by omega), h8, if_pos (by rw [n_le (by omega) (by omega)]; omega)]
    exact ⟨_, rfl, e2, e3⟩
  · rw [if_neg (by omega)]
theorem op_unedge {σ ρ : ST} (hR : Rel σ ρ) (x : Int32) : ∃ r σ' ρ', C_unedge σ x = some (r, σ') ∧ M_unedge ρ x = some (r, ρ') ∧ Rel σ' ρ' := by
  obtain ⟨g, pm, pe, hw, hc, hm, hs⟩ := id hR
  have h12 := hw.1
  have h10 : ¬ (1 : Int32) = 0 := by decide
  unfold C_unedge M_unedge
  rcases edg hw hc hm x with ⟨e, he, rfl, c1, m0, m1⟩ | ⟨c1, m1⟩
  rotate_left
  · rw [c1]
    refine ⟨-1, σ, ρ, by simp, ?_, hR⟩
    rcases m1 with m1 | ⟨m0, m1⟩
    · rw [if_pos m1]
    · rw [if_neg m0, if_neg m1]
  rw [c1, if_neg m0, if_pos m1]
  simp only [Option.bind_some, if_neg h10]
  obtain ⟨q1, q2⟩ := hc.2.2.1 e (by omega)
  rw [if_pos (nb (by omega) (by decide)), nx (by omega), q1, nx (by omega), if_pos q2]
  obtain ⟨⟨r1, r2⟩, hr, rk, r5⟩ := C_unedge_loop hw hc he
  rw [hr]
  have e0 : gi (su ρ 0 0 8 (gi ρ 0 0 8 - 1)) 0 0 8 = nI (ne g - 1) := by rw [gi_same, hm.1, n_m1 _ (by omega)]
  obtain ⟨⟨t1, t2⟩, ht, tk, t5⟩ := M_unedge_loop h12 he e0
  rw [ht]
  simp only [Option.bind_some]
  dsimp only at rk r5 tk t5
  rw [rk 0 0 5 (by decide), hc.1, n_m1 _ (by omega), if_pos (nb (by omega) (by decide)), nx (by omega), tk 0 0 8 (by omega), e0]
  refine ⟨_, _, _, rfl, rfl, ?_⟩
  refine ⟨fun K j => if K = 7 then ne g - 1 else if 2 ≤ K ∧ K ≤ 6 ∧ e ≤ j then g K (j + 1) else g K j, pm, fun j => if j = ne g - 1 then pe e else if e ≤ j ∧ j < ne g - 1 then pe (j + 1) else pe j, ?_, ?_, ?_, Or.inl ⟨by simp [gi_su], by simp [gi_su]⟩⟩
  · refine ⟨?_, fun a ha => ?_, fun j hj => ?_⟩
    · show ne g - 1 ≤ 12
      omega
    · simpa [th, kd] using hw.2.1 a ha
    · have hj : j < ne g - 1 := hj
      by_cases hej : e ≤ j
      · have := hw.2.2 (j + 1) (by omega)
        simpa [fr, tt, th, rin, rout, dl, hej] using this
      · have := hw.2.2 j (by omega)
        simpa [fr, tt, th, rin, rout, dl, hej] using this
  · refine ⟨?_, fun a ha => ?_, fun j hj => ?_, fun j j' hj hj' hjj => ?_, fun j hj => ?_⟩
    · simp [gi_su, ne]
    · have := hc.2.1 a ha
      simp [gi_su, th, kd] at this ⊢
      rw [rk 1 a 0 (by decide), rk 1 a 1 (by decide), rk 1 a 2 (by decide)]
      exact this
    · by_cases h1 : j = ne g - 1
      · subst h1
        simp [gi_su]
        exact q2
      · have h5 := r5 j hj
        simp [gi_su, h1, h5]
        split
        · exact (hc.2.2.1 (j + 1) (by omega)).2
        · exact (hc.2.2.1 j hj).2
    · have inj := hc.2.2.2.1
      by_cases a1 : j = ne g - 1
      · by_cases b1 : j' = ne g - 1
        · omega
        · simp [a1, b1] at hjj
          split at hjj
          · have := inj e (j' + 1) (by omega) (by omega) hjj
            omega
          · have := inj e j' (by omega) (by omega) hjj
            omega
      · by_cases b1 : j' = ne g - 1
        · simp [a1, b1] at hjj
          split at hjj
          · have := inj (j + 1) e (by omega) (by omega) hjj
            omega
          · have := inj j e (by omega) (by omega) hjj
            omega
        · simp [a1, b1] at hjj
          split at hjj <;> split at hjj
          · have := inj (j + 1) (j' + 1) (by omega) (by omega) hjj
            omega
          · have := inj (j + 1) j' (by omega) (by omega) hjj
            omega
          · have := inj j (j' + 1) (by omega) (by omega) hjj
            omega
          · exact inj j j' hj hj' hjj
    · have hj : j < ne g - 1 := hj
      have hne : ¬ j = ne g - 1 := by omega
      by_cases hej : e ≤ j
      · have := hc.2.2.2.2 (j + 1) (by omega)
        simp [gi_su, hne, hej, hj, fr, tt, rin, rout, dl] at this ⊢
        rw [rk 2 _ 1 (by decide), rk 2 _ 2 (by decide), rk 2 _ 3 (by decide), rk 2 _ 4 (by decide), rk 2 _ 5 (by decide)]
        exact this
      · have := hc.2.2.2.2 j (by omega)
        simp [gi_su, hne, hej, hj, fr, tt, rin, rout, dl] at this ⊢
        rw [rk 2 _ 1 (by decide), rk 2 _ 2 (by decide), rk 2 _ 3 (by decide), rk 2 _ 4 (by decide), rk 2 _ 5 (by decide)]
        exact this
  · refine ⟨?_, fun a ha => ?_, fun j hj => ?_⟩
    · rw [gi_k (by decide), tk 0 0 8 (by omega), e0]
      rfl
    · have := hm.2.1 a ha
      rw [gi_K (by decide), gi_K (by decide), gi_K (by decide), tk 1 0 a (by omega), tk 2 0 a (by omega), tk 3 0 a (by omega), gi_K (by decide), gi_K (by decide), gi_K (by decide)]
      simpa [th, kd] using this
    · have hj : j < ne g - 1 := hj
      rw [gi_K (by decide), gi_K (by decide), gi_K (by decide), gi_K (by decide), gi_K (by decide), t5 4 j (by omega) (by omega), t5 5 j (by omega) (by omega), t5 6 j (by omega) (by omega), t5 7 j (by omega) (by omega), t5 8 j (by omega) (by omega)]
      by_cases hej : e ≤ j
      · have := hm.2.2 (j + 1) (by omega)
        simpa [gi_su, hej, hj, fr, tt, rin, rout, dl] using this
      · have := hm.2.2 j (by omega)
        simpa [gi_su, hej, hj, fr, tt, rin, rout, dl] using this
