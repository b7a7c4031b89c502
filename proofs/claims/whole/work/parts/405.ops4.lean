/-! PURE: count, but for the parts -/
def sm (f : Nat → Nat) : Nat → Nat
  | 0 => 0
  | n + 1 => sm f n + f n
def smI (f : Nat → Int32) : Nat → Int32
  | 0 => 0
  | n + 1 => smI f n + f n
theorem sm_le {f : Nat → Nat} {b : Nat} : ∀ n, (∀ a, a < n → f a ≤ b) → sm f n ≤ n * b := by
  intro n
  induction n with
  | zero => intro _; exact Nat.zero_le _
  | succ n ih =>
    intro h
    have h1 := ih (fun a ha => h a (by omega))
    have h2 := h n (by omega)
    show sm f n + f n ≤ (n + 1) * b
    rw [Nat.succ_mul]
    omega
theorem lt8 {i : Nat} (h : i < 8) : ¬ (8 : Int32) ≤ nI i := by rw [show (8 : Int32) = nI 8 from rfl, n_le (by omega) (by omega)]; omega
theorem ge8 : (8 : Int32) ≤ nI 8 := by decide
/-- counting the actors, on either side -/
theorem cnt_loop {v : Nat → Int32} {t : Nat → Nat} (hv : ∀ a, a < 8 → v a = nI (t a) ∧ t a ≤ 1) : lp (fun s1 : Int32 × Int32 =>
  if 8 ≤ s1.2 then
  (some (.inr ((s1.1, s1.2)))) else
  (if inb s1.2 8 then 
  (if (v (ix s1.2)) = 0 then
  (some (.inl ((s1.1, s1.2 + 1)))) else
  (some (.inl ((s1.1 + 1, s1.2 + 1))))) else none)) 1000 ((0, 0)) = some (nI (sm t 8), nI 8) := by
  refine lp_for (fun i => (nI (sm t i), nI i)) 8 (fun i hi => ?_) ?_ 1000 0 (by omega) (by omega)
  · dsimp only
    rw [if_neg (lt8 hi), if_pos (nb hi (by decide)), nx (by omega), (hv i hi).1]
    have h1 := (hv i hi).2
    by_cases h0 : t i = 0
    · rw [if_pos (by rw [h0]; rfl), n_add1]
      show some (Sum.inl (nI (sm t i), nI (i + 1))) = some (Sum.inl (nI (sm t i + t i), nI (i + 1)))
      rw [h0]
      rfl
    · have h1 : t i = 1 := by omega
      rw [if_neg (by rw [h1]; decide), n_add1, n_add1]
      show some (Sum.inl (nI (sm t i + 1), nI (i + 1))) = some (Sum.inl (nI (sm t i + t i), nI (i + 1)))
      rw [h1]
  · dsimp only
    rw [if_pos ge8]
theorem C_countActors_eq {g : GD} {pm : Nat → Int32} {pe : Nat → Nat} {σ : ST} (hw : WG g) (hc : GC g pm pe σ) : C_countActors σ = some (nI (sm (th g) 8)) := by
  unfold C_countActors
  rw [cnt_loop (v := fun a => gi σ 1 a 0) (t := th g) (fun a ha => ⟨(hc.2.1 a ha).1, (hw.2.1 a ha).1⟩)]
  rfl
/-- a sum over the edges, on either side -/
theorem C_sum_loop {g : GD} {pm : Nat → Int32} {pe : Nat → Nat} {σ : ST} (hw : WG g) (hc : GC g pm pe σ) (k : Nat) (v : Nat → Int32) (hv : ∀ e, e < ne g → gi σ 2 (pe e) k = v e) : lp (fun s1 : Int32 × Int32 =>
  if (gi σ 0 0 5) ≤ s1.2 then
  (some (.inr ((s1.1, s1.2)))) else
  (if inb s1.2 12 then 
  (if ix (gi σ 5 0 (ix s1.2)) < 12 then 
  (some (.inl ((s1.1 + (gi σ 2 (ix (gi σ 5 0 (ix s1.2))) k), s1.2 + 1)))) else none) else none)) 1000 ((0, 0)) = some (smI v (ne g), nI (ne g)) := by
  have h12 := hw.1
  refine lp_for (fun i => (smI v i, nI i)) (ne g) (fun i hi => ?_) ?_ 1000 0 (by omega) (by omega)
  · dsimp only
    obtain ⟨q1, q2⟩ := hc.2.2.1 i (by omega)
    rw [hc.1, if_neg (by rw [n_le (by omega) (by omega)]; omega), if_pos (nb (by omega) (by decide)), nx (by omega), q1, nx (by omega), if_pos q2, hv i hi, n_add1]
    rfl
  · dsimp only
    rw [hc.1, if_pos (by rw [n_le (by omega) (by omega)]; omega)]
/-- runs of a schedule -/
def rnc (o : Nat → Nat) : Nat → Int32
  | 0 => 0
  | i + 1 => if i = 0 then rnc o i + 1 else if o i = o (i - 1) then rnc o i else rnc o i + 1
theorem runs_step {v : Nat → Int32} {o : Nat → Nat} {n i : Nat} (hn : n ≤ 64) (hi : i < n) (hv : ∀ j, j < n → v j = nI (o j) ∧ o j < 8) {R : Type} : (if (nI i) = 0 then
  (some (.inl ((rnc o i + 1, nI i + 1)))) else
  (if inb (nI i) 64 then 
  (if inb (nI i - 1) 64 then 
  (if (v (ix (nI i))) = (v (ix (nI i - 1))) then
  (some (.inl ((rnc o i, nI i + 1)))) else
  (some (.inl ((rnc o i + 1, nI i + 1))))) else none) else none) : Option ((Int32 × Int32) ⊕ R)) = some (.inl (rnc o (i + 1), nI (i + 1))) := by
  by_cases h0 : i = 0
  · subst h0
    rw [if_pos (show nI 0 = 0 from rfl), n_add1]
    rfl
  · rw [if_neg (by rw [n0, n_eq (by omega) (by omega)]; omega), if_pos (nb (by omega) (by decide)), n_m1 i (by omega), if_pos (nb (by omega) (by decide)), nx (by omega), nx (by omega), (hv i hi).1, (hv (i - 1) (by omega)).1, n_add1]
    have b1 := (hv i hi).2
    have b2 := (hv (i - 1) (by omega)).2
    by_cases he : o i = o (i - 1)
    · rw [if_pos (by rw [he])]
      simp [rnc, h0, he]
    · rw [if_neg (by rw [n_eq (by omega) (by omega)]; exact he)]
      simp [rnc, h0, he]
theorem C_countRuns_eq {g sd : GD} {pe ct : Nat → Nat} {tk : Nat → Nat → Int32} {la fx sx : Nat → Int32} {fi : Int32} {σ : ST} (hv : VS g sd) (hC : SC g pe sd ct tk la fx sx fi σ) : C_countRuns σ = some (rnc (od sd) (ln sd)) := by
  have h64 := hv.1
  unfold C_countRuns
  rw [show lp (fun s1 : Int32 × Int32 =>
  if (gi σ 0 0 6) ≤ s1.2 then
  (some (.inr ((s1.1, s1.2)))) else
  (if s1.2 = 0 then
  (some (.inl ((s1.1 + 1, s1.2 + 1)))) else
  (if inb s1.2 64 then 
  (if inb (s1.2 - 1) 64 then 
  (if (gi σ 8 0 (ix s1.2)) = (gi σ 8 0 (ix (s1.2 - 1))) then
  (some (.inl ((s1.1, s1.2 + 1)))) else
  (some (.inl ((s1.1 + 1, s1.2 + 1))))) else none) else none))) 1000 ((0, 0)) = some (rnc (od sd) (ln sd), nI (ln sd)) from ?_]
  · rfl
  · refine lp_for (fun i => (rnc (od sd) i, nI i)) (ln sd) (fun i hi => ?_) ?_ 1000 0 (by omega) (by omega)
    · dsimp only
      rw [hC.2.1, if_neg (by rw [n_le (by omega) (by omega)]; omega)]
      exact runs_step h64 hi (v := fun j => gi σ 8 0 j) (fun j hj => ⟨hC.2.2.1 j hj, (hv.2.1 j hj).1⟩)
    · dsimp only
      rw [hC.2.1, if_pos (by rw [n_le (by omega) (by omega)]; omega)]
theorem lp_exit {S R : Type} {body : S → Option (S ⊕ R)} {s : S} {r : R} (h : body s = some (.inr r)) (n : Nat) : lp body (n + 1) s = some r := by unfold lp; rw [h]
theorem M_loop5 {g sd : GD} {ct : Nat → Nat} {tk : Nat → Nat → Int32} {la fx sx : Nat → Int32} {fi : Int32} {σ : ST} (hv : VS g sd) (hM : SM g sd ct tk la fx sx fi σ) (x1 : Int32) : lp (fun s2 : Int32 × Int32 =>
  if x1 = 5 then
  (if (gi σ 0 0 18) ≤ s2.2 then
  (some (.inr ((s2.1, s2.2)))) else
  (if s2.2 = 0 then
  (some (.inl ((s2.1 + 1, s2.2 + 1)))) else
  (if inb s2.2 64 then 
  (if inb (s2.2 - 1) 64 then 
  (if (gi σ 16 0 (ix s2.2)) = (gi σ 16 0 (ix (s2.2 - 1))) then
  (some (.inl ((s2.1, s2.2 + 1)))) else
  (some (.inl ((s2.1 + 1, s2.2 + 1))))) else none) else none))) else
  (some (.inr ((s2.1, s2.2))))) 1000 ((0, 0)) = some (if x1 = 5 then (rnc (od sd) (ln sd), nI (ln sd)) else (0, 0)) := by
  have h64 := hv.1
  by_cases hx : x1 = 5
  · rw [if_pos hx]
    refine lp_for (fun i => (rnc (od sd) i, nI i)) (ln sd) (fun i hi => ?_) ?_ 1000 0 (by omega) (by omega)
    · dsimp only
      rw [if_pos hx, hM.2.1, if_neg (by rw [n_le (by omega) (by omega)]; omega)]
      exact runs_step h64 hi (v := fun j => gi σ 16 0 j) (fun j hj => ⟨hM.2.2.1 j hj, (hv.2.1 j hj).1⟩)
    · dsimp only
      rw [if_pos hx, hM.2.1, if_pos (by rw [n_le (by omega) (by omega)]; omega)]
  · rw [if_neg hx]
    exact lp_exit (by dsimp only; rw [if_neg hx]) 999
theorem M_loop6 {g : GD} {pm : Nat → Int32} {σ : ST} (hw : WG g) (hm : GM g pm σ) (x1 : Int32) (a : Int32) (v : Nat → Int32) (hx : ¬ x1 ≤ 5) (hv : ∀ e, e < ne g → (if x1 = 6 then gi σ 17 0 e else gi σ 22 0 e) = v e) : lp (fun s3 : Int32 × Int32 =>
  if x1 ≤ 5 then
  (some (.inr ((s3.1, s3.2)))) else
  (if (gi σ 0 0 8) ≤ s3.2 then
  (some (.inr ((s3.1, s3.2)))) else
  (if x1 = 6 then
  (if inb s3.2 12 then 
  (some (.inl ((s3.1 + (gi σ 17 0 (ix s3.2)), s3.2 + 1)))) else none) else
  (if inb s3.2 12 then 
  (some (.inl ((s3.1 + (gi σ 22 0 (ix s3.2)), s3.2 + 1)))) else none)))) 1000 ((0, 0)) = some (smI v (ne g), nI (ne g)) := by
  have h12 := hw.1
  refine lp_for (fun i => (smI v i, nI i)) (ne g) (fun i hi => ?_) ?_ 1000 0 (by omega) (by omega)
  · dsimp only
    have h3 := hv i hi
    rw [if_neg hx, hm.1, if_neg (by rw [n_le (by omega) (by omega)]; omega), if_pos (nb (by omega) (by decide)), nx (by omega), n_add1]
    by_cases h6 : x1 = 6
    · rw [if_pos h6] at h3 ⊢
      rw [h3]
      rfl
    · rw [if_neg h6] at h3 ⊢
      rw [if_pos (show inb (nI i) 12 from nb (by omega) (by decide)), h3]
      rfl
  · dsimp only
    rw [if_neg hx, hm.1, if_pos (by rw [n_le (by omega) (by omega)]; omega)]
theorem op_count {σ ρ : ST} (hR : Rel σ ρ) (x : Int32) (h2 : x = 2 → ∃ r σ' ρ', C_count σ x = some (r, σ') ∧ M_count ρ x = some (r, ρ') ∧ Rel σ' ρ') : ∃ r σ' ρ', C_count σ x = some (r, σ') ∧ M_count ρ x = some (r, ρ') ∧ Rel σ' ρ' := by
  by_cases hx2 : x = 2
  · exact h2 hx2
  obtain ⟨g, pm, pe, hw, hc, hm, hs⟩ := id hR
  have h12 := hw.1
  unfold C_count M_count
  rw [C_countActors_eq hw hc]
  rw [if_neg hx2, if_neg hx2]
  rw [cnt_loop (v := fun a => gi ρ 1 0 a) (t := th g) (fun a ha => ⟨(hm.2.1 a ha).1, (hw.2.1 a ha).1⟩)]
  simp only [Option.bind_some]
  rcases rng x 0 8 (by decide) (by decide) with ⟨k, -, hk, rfl⟩ | hout
  rotate_left
  · refine ⟨-1, σ, ρ, ?_, ?_, hR⟩
    · have hne : ∀ j : Nat, j ≤ 8 → ¬ x = nI j := by
        intro j hj e
        subst e
        rcases hout with h | h
        · rw [n_lt (by omega) (by omega)] at h; omega
        · rw [n_lt (by omega) (by omega)] at h; omega
      rw [if_neg (show ¬ x = 0 from hne 0 (by omega)), if_neg (show ¬ x = 1 from hne 1 (by omega)), if_neg (show ¬ x = 3 from hne 3 (by omega)), if_neg (show ¬ x = 4 from hne 4 (by omega)), if_neg (show ¬ x = 5 from hne 5 (by omega)), if_neg (show ¬ x = 6 from hne 6 (by omega)), if_neg (show ¬ x = 7 from hne 7 (by omega)), if_neg (show ¬ x = 8 from hne 8 (by omega))]
    · rcases hout with h | h
      · rw [if_pos (show x < 0 from h)]
      · by_cases h0 : x < 0
        · rw [if_pos h0]
        · rw [if_neg h0, if_neg (show ¬ x ≤ 8 from Int32.not_le.mpr h)]
  rw [if_neg (nn0 (by omega)), if_pos (show nI k ≤ 8 by rw [show (8 : Int32) = nI 8 from rfl, n_le (by omega) (by omega)]; omega)]
  have hk2 : k ≠ 2 := fun h => hx2 (by rw [h]; rfl)
  rcases (show k = 0 ∨ k = 1 ∨ k = 3 ∨ k = 4 ∨ k = 5 ∨ k = 6 ∨ k = 7 ∨ k = 8 by omega) with rfl | rfl | rfl | rfl | rfl | rfl | rfl | rfl
  · exact ⟨_, σ, ρ, rfl, rfl, hR⟩
  · exact ⟨_, σ, ρ, rfl, by rw [hm.1, hc.1]; rfl, hR⟩
  all_goals
    rcases sol_or hs with ⟨s1, s2⟩ | ⟨s1, s2, sd⟩
    · refine ⟨0, σ, ρ, ?_, ?_, hR⟩
      · simp [s1, nI]
      · simp [s2, nI]
  · refine ⟨1, σ, ρ, ?_, ?_, hR⟩
    · simp [s1, nI]
    · simp [s2, nI]
  · obtain ⟨-, -, sd, tk, la, fx, sx, fi, -, -, hC, hM⟩ := sd
    refine ⟨nI (ln sd), σ, ρ, ?_, ?_, hR⟩
    · simp [s1, nI, hC.2.1]
    · simp [s2, nI, hM.2.1]
  · obtain ⟨-, -, sd, tk, la, fx, sx, fi, hv, -, hC, hM⟩ := sd
    refine ⟨rnc (od sd) (ln sd), σ, ρ, ?_, ?_, hR⟩
    · show (if gi σ 0 0 8 = 0 then some (0, σ) else (C_countRuns σ).bind fun b3 => some (b3, σ)) = _
      rw [if_neg s1, C_countRuns_eq hv hC]
      rfl
    · rw [if_pos (show (2 : Int32) ≤ nI 5 by decide), if_neg s2, if_neg (show ¬ nI 5 = 3 by decide), if_neg (show ¬ nI 5 = 4 by decide), if_neg (show ¬ nI 5 = 7 by decide), M_loop5 hv hM, if_pos (show nI 5 = 5 from rfl)]
      simp only [Option.bind_some]
      rw [lp_exit (n := 999) (r := (rnc (od sd) (ln sd), 0)) (by dsimp only; rw [if_pos (show nI 5 ≤ 5 by decide)])]
      rfl
  · obtain ⟨-, -, sd, tk, la, fx, sx, fi, hv, -, hC, hM⟩ := sd
    refine ⟨smI (fun e => nI (pk sd e)) (ne g), σ, ρ, ?_, ?_, hR⟩
    · show (if gi σ 0 0 8 = 0 then some (0, σ) else (C_sumOfPeaks σ).bind fun b3 => some (b3, σ)) = _
      unfold C_sumOfPeaks
      rw [if_neg s1, C_sum_loop hw hc 8 _ (fun e he => (hC.2.2.2.2 e he).1)]
      rfl
    · rw [if_pos (show (2 : Int32) ≤ nI 6 by decide), if_neg s2, if_neg (show ¬ nI 6 = 3 by decide), if_neg (show ¬ nI 6 = 4 by decide), if_neg (show ¬ nI 6 = 7 by decide), M_loop5 hv hM, if_neg (show ¬ nI 6 = 5 by decide)]
      simp only [Option.bind_some]
      rw [M_loop6 hw hm (nI 6) 0 (fun e => nI (pk sd e)) (by decide) (fun e he => by rw [if_pos (show nI 6 = 6 from rfl)]; exact (hM.2.2.2.2 e he).1)]
      rfl
  · obtain ⟨-, -, sd, tk, la, fx, sx, fi, -, -, hC, hM⟩ := sd
    refine ⟨fi, σ, ρ, ?_, ?_, hR⟩
    · simp [s1, nI, hC.2.2.2.1]
    · simp [s2, nI, hM.2.2.2.1]
  · obtain ⟨-, -, sd, tk, la, fx, sx, fi, hv, -, hC, hM⟩ := sd
    refine ⟨smI (fun e => nI (dl g e)) (ne g), σ, ρ, ?_, ?_, hR⟩
    · show (if gi σ 0 0 8 = 0 then some (0, σ) else (C_sumOfTokens σ).bind fun b3 => some (b3, σ)) = _
      unfold C_sumOfTokens
      rw [if_neg s1, C_sum_loop hw hc 7 _ (fun e he => (hC.2.2.2.2 e he).2.1)]
      rfl
    · rw [if_pos (show (2 : Int32) ≤ nI 8 by decide), if_neg s2, if_neg (show ¬ nI 8 = 3 by decide), if_neg (show ¬ nI 8 = 4 by decide), if_neg (show ¬ nI 8 = 7 by decide), M_loop5 hv hM, if_neg (show ¬ nI 8 = 5 by decide)]
      simp only [Option.bind_some]
      rw [M_loop6 hw hm (nI 8) 0 (fun e => nI (dl g e)) (by decide) (fun e he => by rw [if_neg (show ¬ nI 8 = 6 by decide)]; exact (hM.2.2.2.2 e he).2.1)]
      rfl
