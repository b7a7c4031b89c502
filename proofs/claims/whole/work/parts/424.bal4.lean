/-! PURE: the reference's balance, its loops -/
abbrev rb (i : Int32) (x1 : Int32) : ST × Int32 → Option ((ST × Int32) ⊕ (ST × Int32)) := fun s3 : ST × Int32 =>
  if 8 ≤ s3.2 then
  (some (.inr ((s3.1, s3.2)))) else
  ((lp (eb i x1) 1000 ((s3.1, 0))).bind (fun r4 : ST × Int32 =>
  some (.inl ((r4.1, s3.2 + 1)))))
abbrev ob (x1 : Int32) : ST × Int32 → Option ((ST × Int32) ⊕ (ST × Int32)) := fun s2 : ST × Int32 =>
  if 8 ≤ s2.2 then
  (some (.inr ((s2.1, s2.2)))) else
  (if inb s2.2 8 then 
  (if (gi s2.1 1 0 (ix s2.2)) = 0 then
  (some (.inl ((s2.1, s2.2 + 1)))) else
  (if (gi s2.1 13 0 (ix s2.2)) < 0 then
  ((lp (rb s2.2 x1) 1000 ((sl (sl (su s2.1 13 0 (ix s2.2) s2.2) 12 0 (ix s2.2) 1) 11 0 (ix s2.2) 1, 0))).bind (fun r3 : ST × Int32 =>
  some (.inl ((r3.1, s2.2 + 1))))) else
  (some (.inl ((s2.1, s2.2 + 1)))))) else none)
abbrev ib : ST × Int32 → Option ((ST × Int32) ⊕ (ST × Int32)) := fun s1 : ST × Int32 =>
  if 8 ≤ s1.2 then
  (some (.inr ((s1.1, s1.2)))) else
  (if inb s1.2 8 then 
  (some (.inl ((su s1.1 13 0 (ix s1.2) (-1), s1.2 + 1)))) else none)
abbrev kb (ρ : ST) (x1 : Int32) : Int32 → Option (Int32 ⊕ ((Int32) ⊕ (Int32 × ST))) := fun s5 : Int32 =>
  if x1 ≤ s5 then
  (some (.inr (.inl s5))) else
  (if inb s5 13 then 
  (if inb (gi ρ 4 0 (ix s5)) 8 then 
  (if inb (gi ρ 5 0 (ix s5)) 8 then 
  (if (lg_cmp (((gl ρ 11 0 (ix (gi ρ 4 0 (ix s5)))) * ((gi ρ 6 0 (ix s5)).toInt64)) * (gl ρ 12 0 (ix (gi ρ 5 0 (ix s5))))) (((gl ρ 11 0 (ix (gi ρ 5 0 (ix s5)))) * ((gi ρ 7 0 (ix s5)).toInt64)) * (gl ρ 12 0 (ix (gi ρ 4 0 (ix s5)))))) = 0 then
  (some (.inl (s5 + 1))) else
  (some (.inr (.inr ((0, ρ)))))) else none) else none) else none)
theorem M_balance_def (σ : ST) (x1 : Int32) : M_balance σ x1 = (lp ib 1000 (σ, 0)).bind (fun r1 : ST × Int32 => (lp (ob x1) 1000 (r1.1, 0)).bind (fun r2 : ST × Int32 => (lp (kb r2.1 x1) 1000 0).bind (fun r5 : (Int32) ⊕ (Int32 × ST) => Sum.elim (fun o1 : Int32 =>
  (some ((1, r2.1)))) (fun v1 : Int32 × ST => some v1) r5))) := rfl
section BM
variable {g : GD} {pm : Nat → Int32} {n : Nat}
def Sat (g : GD) (n i : Nat) (Q : Nat → Nat) : Prop := ∀ e, e < n → OK g i Q e
theorem M_round (hw : WG g) (hn : n ≤ ne g) {ρ0 ρ : ST} (hm : GM g pm ρ0) {i : Nat} (hi : i < 8) {Q T L : Nat → Nat} (h : BQ g n i Q T L ρ0 ρ) : ∃ r : ST × Int32, lp (eb (nI i) (nI n)) 1000 (ρ, 0) = some r ∧ ∃ Q' T' L', BQ g n i Q' T' L' ρ0 r.1 ∧ (Sat g n i Q → Sat g n i Q') ∧ (Sat g n i Q' ∨ sz Q i + 1 ≤ sz Q' i) := by
  have h12 := hw.1
  refine lp_cnt (fun e s => s.2 = nI e ∧ ∃ Q' T' L', BQ g n i Q' T' L' ρ0 s.1 ∧ (Sat g n i Q → Sat g n i Q') ∧ sz Q i ≤ sz Q' i ∧ ((∀ d, d < e → OK g i Q' d) ∨ sz Q i + 1 ≤ sz Q' i)) n _ ?_ ?_ 1000 0 (ρ, 0) (by omega) (by omega) ⟨rfl, Q, T, L, h, fun q => q, Nat.le_refl _, Or.inl (fun d hd => by omega)⟩
  · intro e s he hI
    obtain ⟨t, x⟩ := s
    obtain ⟨e1, Q', T', L', e2, e3, e5, e4⟩ := hI
    have e1 : x = nI e := e1
    subst e1
    left
    dsimp only at e2
    rcases M_eb hw hn hm hi he e2 with ⟨z1, z2⟩ | ⟨ρ', u, T2, L2, u1, u2, z1, z2, z3⟩
    · refine ⟨_, z1, rfl, Q', T', L', e2, e3, e5, ?_⟩
      rcases e4 with e4 | e4
      · left
        intro d hd
        by_cases hde : d = e
        · subst hde; exact z2
        · exact e4 d (by omega)
      · exact Or.inr e4
    · refine ⟨_, z2, rfl, up Q' u i, T2, L2, z3, fun q => absurd (e3 q e he) z1, ?_, Or.inr ?_⟩
      · rw [sz_up u1 (by omega)]; omega
      · rw [sz_up u1 (by omega)]; omega
  · intro s hI
    obtain ⟨t, x⟩ := s
    obtain ⟨e1, Q', T', L', e2, e3, e5, e4⟩ := hI
    have e1 : x = nI n := e1
    subst e1
    dsimp only at e2
    refine ⟨(t, nI n), ?_, Q', T', L', e2, e3, e4⟩
    unfold eb
    dsimp only
    rw [if_pos (by rw [n_le (by omega) (by omega)]; omega)]
theorem M_part (hw : WG g) (hn : n ≤ ne g) {ρ0 ρ : ST} (hm : GM g pm ρ0) {i : Nat} (hi : i < 8) {Q T L : Nat → Nat} (h : BQ g n i Q T L ρ0 ρ) : ∃ r : ST × Int32, lp (rb (nI i) (nI n)) 1000 (ρ, 0) = some r ∧ ∃ Q' T' L', BQ g n i Q' T' L' ρ0 r.1 ∧ Sat g n i Q' := by
  refine lp_cnt (fun k s => s.2 = nI k ∧ ∃ Q' T' L', BQ g n i Q' T' L' ρ0 s.1 ∧ (Sat g n i Q' ∨ k + 1 ≤ sz Q' i)) 8 _ ?_ ?_ 1000 0 (ρ, 0) (by omega) (by omega) ⟨rfl, Q, T, L, h, Or.inr ?_⟩
  · intro k s hk hI
    obtain ⟨t, x⟩ := s
    obtain ⟨e1, Q', T', L', e2, e3⟩ := hI
    have e1 : x = nI k := e1
    subst e1
    left
    dsimp only at e2
    obtain ⟨r, hr, Q2, T2, L2, z1, z2, z3⟩ := M_round hw hn hm hi e2
    refine ⟨(r.1, nI (k + 1)), ?_, rfl, Q2, T2, L2, z1, ?_⟩
    · unfold rb
      dsimp only
      rw [if_neg (lt8 hk), hr, n_add1]
      rfl
    · rcases e3 with e3 | e3
      · exact Or.inl (z2 e3)
      · rcases z3 with z3 | z3
        · exact Or.inl z3
        · right; omega
  · intro s hI
    obtain ⟨t, x⟩ := s
    obtain ⟨e1, Q', T', L', e2, e3⟩ := hI
    have e1 : x = nI 8 := e1
    subst e1
    dsimp only at e2
    refine ⟨(t, nI 8), ?_, Q', T', L', e2, ?_⟩
    · unfold rb
      dsimp only
      rw [if_pos ge8]
    · rcases e3 with e3 | e3
      · exact e3
      · have := sz_le Q' i
        omega
  · have := sz_pos (P := Q) hi
    rw [h.2.2.2.2.1] at this
    omega
def BO (g : GD) (n i : Nat) (Q T L : Nat → Nat) (ρ0 ρ : ST) : Prop := FrQ ρ0 ρ ∧ BI g n Q T L ∧ PM g i Q ∧ DN g n 8 Q ∧ LM Q ρ ∧ FM Q T L ρ
theorem M_outer (hw : WG g) (hn : n ≤ ne g) {ρ0 ρ : ST} (hm : GM g pm ρ0) (hf : FrQ ρ0 ρ) (hl : LM (fun _ => 8) ρ) : ∃ r : ST × Int32, lp (ob (nI n)) 1000 (ρ, 0) = some r ∧ ∃ Q T L, BO g n 8 Q T L ρ0 r.1 := by
  refine lp_cnt (fun i s => s.2 = nI i ∧ ∃ Q T L, BO g n i Q T L ρ0 s.1) 8 _ ?_ ?_ 1000 0 (ρ, 0) (by omega) (by omega) ⟨rfl, fun _ => 8, fun _ => 0, fun _ => 0, hf, fun a ha => ⟨Nat.le_refl _, fun q => absurd q (Nat.lt_irrefl _)⟩, fun a h => by omega, fun e he => ⟨fun q => absurd q (Nat.lt_irrefl _), fun q => absurd q (Nat.lt_irrefl _)⟩, hl, fun a ha q => absurd q (Nat.lt_irrefl _)⟩
  · intro i s hi hI
    obtain ⟨t, x⟩ := s
    obtain ⟨e1, Q, T, L, f1, f2, f3, f4, f5, f6⟩ := hI
    have e1 : x = nI i := e1
    subst e1
    left
    dsimp only at f1 f5 f6
    have hm1 := hm.fq f1
    obtain ⟨t1, -⟩ := hm1.2.1 i hi
    have w1 := (hw.2.1 i hi).1
    have q8 := (f2 i hi).1
    unfold ob
    dsimp only
    rw [if_neg (lt8 hi), if_pos (nb hi (by decide)), nx (by omega), t1, f5 i hi, n_add1]
    by_cases h0 : th g i = 0
    · rw [if_pos (by rw [h0]; rfl)]
      refine ⟨_, rfl, rfl, Q, T, L, f1, f2, fun a h1 h2 h3 => ?_, f4, f5, f6⟩
      by_cases ha : a = i
      · subst ha; omega
      · exact f3 a (by omega) h2 h3
    · have h1 : th g i = 1 := by omega
      rw [if_neg (by rw [h1]; decide)]
      by_cases hq : Q i < 8
      · rw [if_neg (by rw [q_neg]; exact fun q => q hq)]
        refine ⟨_, rfl, rfl, Q, T, L, f1, f2, fun a h1 h2 h3 => ?_, f4, f5, f6⟩
        by_cases ha : a = i
        · subst ha; exact hq
        · exact f3 a (by omega) h2 h3
      · rw [if_pos (by rw [q_neg]; exact hq)]
        have h8 : Q i = 8 := by omega
        have hs : BQ g n i (up Q i i) (up T i 1) (up L i 1) ρ0 (sl (sl (su t 13 0 i (nI i)) 12 0 i 1) 11 0 i 1) := by
          refine ⟨fun K a k hK => ?_, f2.root hi h8 h1, f3.lab hi, f4.first hi h8, up_same, fun a ha => ?_, fun a ha => ?_⟩
          · rw [gi_sl, gi_sl, gi_K hK]; exact f1 K a k hK
          · rw [gi_sl, gi_sl]
            by_cases e : a = i
            · subst e
              rw [gi_same, up_same]
              unfold qI
              rw [if_pos hi]
            · rw [gi_k e, up_ne e]; exact f5 a ha
          · by_cases e : a = i
            · subst e
              rw [up_same, up_same, up_same, gl_same, gl_K (by decide), gl_same]
              exact fun _ => ⟨rfl, rfl⟩
            · rw [up_ne e, up_ne e, up_ne e, gl_k e, gl_k e, gl_k e, gl_k e, gl_su, gl_su]
              exact f6 a ha
        obtain ⟨r, hr, Q2, T2, L2, ⟨z1, z2, z3, z4, z5, z6, z7⟩, z8⟩ := M_part hw hn hm hi hs
        rw [hr]
        refine ⟨_, rfl, rfl, Q2, T2, L2, z1, z2, fun a h1 h2 h3 => ?_, z4.last hw hn z2 z8, z6, z7⟩
        by_cases ha : a = i
        · subst ha; omega
        · exact z3 a (by omega) h2 h3
  · intro s hI
    obtain ⟨t, x⟩ := s
    obtain ⟨e1, h⟩ := hI
    have e1 : x = nI 8 := e1
    subst e1
    refine ⟨(t, nI 8), ?_, h⟩
    unfold ob
    dsimp only
    rw [if_pos ge8]
def Con (g : GD) (n : Nat) (T L : Nat → Nat) : Prop := ∀ e, e < n → T (fr g e) * rin g e * L (tt g e) = T (tt g e) * rout g e * L (fr g e)
theorem M_bal_eq (hw : WG g) (hn : n ≤ ne g) {ρ : ST} (hm : GM g pm ρ) : ∃ b ρ' Q T L, M_balance ρ (nI n) = some (b, ρ') ∧ BO g n 8 Q T L ρ ρ' ∧ ((b = 1 ∧ Con g n T L) ∨ (b = 0 ∧ ¬ Con g n T L)) := by
  have h12 := hw.1
  rw [M_balance_def]
  obtain ⟨r1, hr1, g1, g2⟩ : ∃ r : ST × Int32, lp ib 1000 (ρ, 0) = some r ∧ FrQ ρ r.1 ∧ LM (fun _ => 8) r.1 := by
    refine lp_cnt (fun j s => s.2 = nI j ∧ FrQ ρ s.1 ∧ ∀ a, a < j → gi s.1 13 0 a = -1) 8 _ ?_ ?_ 1000 0 (ρ, 0) (by omega) (by omega) ⟨rfl, FrQ.rf, fun a h => by omega⟩
    · intro j s hj hI
      obtain ⟨t, x⟩ := s
      obtain ⟨e1, e2, e3⟩ := hI
      have e1 : x = nI j := e1
      subst e1
      left
      dsimp only at e2 e3
      unfold ib
      dsimp only
      rw [if_neg (lt8 hj), if_pos (nb hj (by decide)), nx (by omega), n_add1]
      refine ⟨_, rfl, rfl, fun K i k h => ?_, fun a ha => ?_⟩
      · dsimp only
        rw [gi_K h]; exact e2 K i k h
      · dsimp only
        by_cases e : a = j
        · subst e; rw [gi_same]
        · rw [gi_k e]; exact e3 a (by omega)
    · intro s hI
      obtain ⟨t, x⟩ := s
      obtain ⟨e1, e2, e3⟩ := hI
      have e1 : x = nI 8 := e1
      subst e1
      refine ⟨(t, nI 8), ?_, e2, fun a ha => e3 a ha⟩
      unfold ib
      dsimp only
      rw [if_pos ge8]
  rw [hr1]
  simp only [Option.bind_some]
  obtain ⟨r2, hr2, Q, T, L, hB⟩ := M_outer hw hn hm g1 g2
  rw [hr2]
  simp only [Option.bind_some]
  obtain ⟨f1, f2, f3, f4, f5, f6⟩ := hB
  have hm2 := hm.fq f1
  obtain ⟨r, hr, hp⟩ : ∃ r : Int32 ⊕ (Int32 × ST), lp (kb r2.1 (nI n)) 1000 0 = some r ∧ (match r with
    | .inl _ => Con g n T L
    | .inr v => v = (0, r2.1) ∧ ¬ Con g n T L) := by
    refine lp_cnt (fun e (s : Int32) => s = nI e ∧ ∀ d, d < e → T (fr g d) * rin g d * L (tt g d) = T (tt g d) * rout g d * L (fr g d)) n _ ?_ ?_ 1000 0 0 (by omega) (by omega) ⟨rfl, fun d h => by omega⟩
    · intro e s he hI
      obtain ⟨e1, e2⟩ := hI
      subst e1
      obtain ⟨m1, m2, m3, m4, -⟩ := hm2.2.2 e (by omega)
      obtain ⟨w1, w2, w3, w4, w5, w6, w7, w8, -⟩ := hw.2.2 e (by omega)
      have qf := f3 _ w1 w1 w3
      have qt := f3 _ w2 w2 w4
      obtain ⟨l1, l2⟩ := f6 _ w1 qf
      obtain ⟨l3, l4⟩ := f6 _ w2 qt
      obtain ⟨-, -, -, -, -, -, c1, c2, -⟩ := (f2 _ w1).2 qf
      obtain ⟨-, -, -, -, -, -, c3, c4, -⟩ := (f2 _ w2).2 qt
      have c1 := p68 c1
      have c2 := p68 c2
      have c3 := p68 c3
      have c4 := p68 c4
      have a1 : T (fr g e) * rin g e ≤ T (fr g e) * 6 := Nat.mul_le_mul_left _ w6
      have a2 : T (tt g e) * rout g e ≤ T (tt g e) * 6 := Nat.mul_le_mul_left _ w8
      have b1 : T (fr g e) * rin g e * L (tt g e) ≤ 1679616 * 279936 := Nat.mul_le_mul (by omega) (by omega)
      have b2 : T (tt g e) * rout g e * L (fr g e) ≤ 1679616 * 279936 := Nat.mul_le_mul (by omega) (by omega)
      unfold kb
      rw [if_neg (by rw [n_le (by omega) (by omega)]; omega), if_pos (nb (by omega) (by decide)), nx (by omega), m1, m2, m3, m4, nx (by omega), nx (by omega), if_pos (nb w1 (by decide)), if_pos (nb w2 (by decide)), l1, l2, l3, l4, nI_l (by omega), nI_l (by omega), lN_mul, lN_mul, lN_mul, lN_mul, n_add1]
      by_cases hq : T (fr g e) * rin g e * L (tt g e) = T (tt g e) * rout g e * L (fr g e)
      · left
        rw [if_pos (by rw [lg0, hq])]
        refine ⟨_, rfl, rfl, fun d hd => ?_⟩
        by_cases hde : d = e
        · subst hde; exact hq
        · exact e2 d (by omega)
      · right
        rw [if_neg (by rw [lg0, pk_lEQ (by omega) (by omega)]; exact hq)]
        exact ⟨_, rfl, rfl, fun q => hq (q e he)⟩
    · intro s hI
      obtain ⟨e1, e2⟩ := hI
      subst e1
      unfold kb
      rw [if_pos (by rw [n_le (by omega) (by omega)]; omega)]
      exact ⟨_, rfl, e2⟩
  rw [hr]
  rcases r with s | v
  · exact ⟨1, r2.1, Q, T, L, rfl, ⟨f1, f2, f3, f4, f5, f6⟩, Or.inl ⟨rfl, hp⟩⟩
  · obtain ⟨p1, p2⟩ := hp
    subst p1
    exact ⟨0, r2.1, Q, T, L, rfl, ⟨f1, f2, f3, f4, f5, f6⟩, Or.inr ⟨rfl, p2⟩⟩
end BM
