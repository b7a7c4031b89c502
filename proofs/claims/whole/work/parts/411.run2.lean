/-! PURE: one firing, the class's side -/
def ctT (g : GD) (ct : Nat → Nat) (a e : Nat) : Nat := if tt g e = a then ct e - rout g e else ct e
def tkT (g : GD) (tk : Nat → Nat → Int32) (a e i : Nat) : Int32 := if tt g e = a then tk e (i + rout g e) else tk e i
def wX (g : GD) (tk : Nat → Nat → Int32) (a n : Nat) : Int32 := smI (fun e => if tt g e = a then wT (tk e) (rout g e) else 0) n
def ctP (g : GD) (ct : Nat → Nat) (a e : Nat) : Nat := if fr g e = a then ct e + rin g e else ct e
def tkP (g : GD) (ct : Nat → Nat) (tk : Nat → Nat → Int32) (a : Nat) (y : Int32) (e i : Nat) : Int32 := if fr g e = a ∧ ct e ≤ i then y + nI (i - ct e) else tk e i
/-- Y by kind -/
def yK (g : GD) (pm fx sx : Nat → Int32) (a : Nat) (x : Int32) : Int32 := if kd g a = 0 then pm a + x else if kd g a = 1 then pm a * x else if kd g a = 2 then sx a + x else x - fx a
def u1 (f : Nat → Int32) (a : Nat) (v : Int32) : Nat → Int32 := fun b => if b = a then v else f b
theorem TC.cg {g : GD} {pe ct ct' : Nat → Nat} {tk tk' : Nat → Nat → Int32} {σ : ST} (h : TC g pe ct tk σ) (h1 : ∀ d, d < ne g → ct d = ct' d) (h2 : ∀ d i, d < ne g → i < ct d → tk d i = tk' d i) : TC g pe ct' tk' σ := by
  intro e he
  obtain ⟨q1, st, q2, q3, q4⟩ := h e he
  refine ⟨by rw [← h1 e he]; exact q1, st, q2, q3, fun i hi => ?_⟩
  have hi' : i < ct e := by rw [h1 e he]; exact hi
  rw [q4 i hi', h2 e i he hi']
theorem TC.put {g : GD} {pe ct : Nat → Nat} {tk : Nat → Nat → Int32} {σ σ' : ST} (h : TC g pe ct tk σ) (hf : ∀ K i k, 2 ≤ K → K ≤ 3 → gi σ' K i k = gi σ K i k) : TC g pe ct tk σ' := by
  intro e he
  obtain ⟨q1, st, q2, q3, q4⟩ := h e he
  exact ⟨by rw [hf 2 _ 7 (by decide) (by decide)]; exact q1, st, q2, by rw [hf 2 _ 6 (by decide) (by decide)]; exact q3, fun i hi => by rw [hf 3 _ _ (by decide) (by decide)]; exact q4 i hi⟩
/-- the actors' part of a run -/
def AA (g : GD) (la fx sx : Nat → Int32) (σ : ST) : Prop := ∀ a, a < 8 → th g a = 1 → gi σ 1 a 9 = la a ∧ gi σ 1 a 7 = fx a ∧ gi σ 1 a 8 = sx a
def FrF (σ σ' : ST) : Prop := ∀ K i k, K ≠ 3 → ¬ (K = 2 ∧ (k = 6 ∨ k = 7)) → ¬ (K = 1 ∧ 7 ≤ k) → gi σ' K i k = gi σ K i k
section RF
variable {g : GD} {pm : Nat → Int32} {pe ct : Nat → Nat} {tk : Nat → Nat → Int32} {la fx sx : Nat → Int32} {σ : ST}
theorem GC.ff {σ' : ST} (hc : GC g pm pe σ) (hf : FrF σ σ') : GC g pm pe σ' := by
  refine ⟨?_, fun a ha => ?_, fun e he => ?_, hc.2.2.2.1, fun e he => ?_⟩
  · rw [hf 0 0 5 (by decide) (by omega) (by omega)]; exact hc.1
  · rw [hf 1 a 0 (by decide) (by omega) (by omega), hf 1 a 1 (by decide) (by omega) (by omega), hf 1 a 2 (by decide) (by omega) (by omega)]; exact hc.2.1 a ha
  · rw [hf 5 0 e (by decide) (by omega) (by omega)]; exact hc.2.2.1 e he
  · rw [hf 2 _ 1 (by decide) (by omega) (by omega), hf 2 _ 2 (by decide) (by omega) (by omega), hf 2 _ 3 (by decide) (by omega) (by omega), hf 2 _ 4 (by decide) (by omega) (by omega), hf 2 _ 5 (by decide) (by omega) (by omega)]; exact hc.2.2.2.2 e he
theorem C_takes (hw : WG g) (hc : GC g pm pe σ) (hT : TC g pe ct tk σ) {a : Nat} (ha : a < 8) (hout : ∀ e, e < ne g → tt g e = a → rout g e ≤ ct e) (hct : ∀ e, e < ne g → ct e ≤ 256) : ∃ r : ST × Int32 × Int32, lp (fun s1 : ST × Int32 × Int32 =>
  if (gi s1.1 0 0 5) ≤ s1.2.2 then
  (some (.inr ((s1.1, s1.2.1, s1.2.2)))) else
  (if inb s1.2.2 12 then 
  (if ix (gi s1.1 5 0 (ix s1.2.2)) < 12 then 
  (if (gi s1.1 2 (ix (gi s1.1 5 0 (ix s1.2.2))) 2) = (nI a) then
  ((C_Edge_takeWeighed s1.1 (ix (gi s1.1 5 0 (ix s1.2.2)))).bind (fun b1 => 
  (some (.inl ((b1.2, s1.2.1 + b1.1, s1.2.2 + 1)))))) else
  (some (.inl ((s1.1, s1.2.1, s1.2.2 + 1))))) else none) else none)) 1000 ((σ, 0, 0)) = some r ∧ FrC σ r.1 ∧ TC g pe (ctT g ct a) (tkT g tk a) r.1 ∧ r.2.1 = wX g tk a (ne g) := by
  have h12 := hw.1
  refine lp_cnt (fun n s => s.2.2 = nI n ∧ FrC σ s.1 ∧ TC g pe (fun d => if d < n then ctT g ct a d else ct d) (fun d i => if d < n then tkT g tk a d i else tk d i) s.1 ∧ s.2.1 = wX g tk a n) (ne g) _ ?_ ?_ 1000 0 (σ, 0, 0) (by omega) (by omega) ⟨rfl, FrC.rf, hT.cg (fun d _ => by rw [if_neg (by omega)]) (fun d i _ _ => by rw [if_neg (by omega)]), rfl⟩
  · intro n s hn hI
    obtain ⟨t, x, y⟩ := s
    obtain ⟨e1, e2, e3, e4⟩ := hI
    have e1 : y = nI n := e1
    have e4 : x = wX g tk a n := e4
    subst e1 e4
    left
    dsimp only at e2 e3 ⊢
    have hc2 := hc.fr e2
    obtain ⟨q1, q2⟩ := hc2.2.2.1 n (by omega)
    obtain ⟨-, w2, -⟩ := hw.2.2 n hn
    rw [hc2.1, if_neg (by rw [n_le (by omega) (by omega)]; omega), if_pos (nb (by omega) (by decide)), nx (by omega), q1, nx (by omega), if_pos q2, (hc2.2.2.2.2 n hn).2.1, n_add1]
    by_cases hta : tt g n = a
    · rw [if_pos (by rw [hta])]
      have hn1 : (if n < n then ctT g ct a n else ct n) = ct n := by rw [if_neg (by omega)]
      obtain ⟨σ', h1, h2, h3⟩ := C_take_eq hw hc2 e3 hn (by rw [hn1]; exact hout n hn hta) (by rw [hn1]; exact hct n hn)
      rw [h1]
      simp only [Option.bind_some]
      refine ⟨_, rfl, rfl, e2.tr h2, h3.cg (fun d hd => ?_) (fun d i hd _ => ?_), ?_⟩
      · by_cases hdn : d = n
        · subst hdn
          rw [if_pos rfl, hn1, if_pos (by omega)]
          simp [ctT, hta]
        · rw [if_neg hdn]
          by_cases hl : d < n
          · rw [if_pos hl, if_pos (by omega)]
          · rw [if_neg hl, if_neg (by omega)]
      · by_cases hdn : d = n
        · subst hdn
          rw [if_pos rfl, if_neg (by omega), if_pos (by omega)]
          simp [tkT, hta]
        · rw [if_neg hdn]
          by_cases hl : d < n
          · rw [if_pos hl, if_pos (by omega)]
          · rw [if_neg hl, if_neg (by omega)]
      · have hw2 : wT (fun i => if n < n then tkT g tk a n i else tk n i) (rout g n) = wT (tk n) (rout g n) := by
          have : (fun i => if n < n then tkT g tk a n i else tk n i) = tk n := by funext i; rw [if_neg (by omega)]
          rw [this]
        rw [hw2]
        show wX g tk a n + wT (tk n) (rout g n) = wX g tk a n + (if tt g n = a then wT (tk n) (rout g n) else 0)
        rw [if_pos hta]
    · rw [if_neg (by rw [n_eq (by omega) (by omega)]; exact hta)]
      refine ⟨_, rfl, rfl, e2, e3.cg (fun d hd => ?_) (fun d i hd _ => ?_), ?_⟩
      · by_cases hl : d < n
        · rw [if_pos hl, if_pos (by omega)]
        · by_cases hdn : d = n
          · subst hdn
            rw [if_neg hl, if_pos (by omega)]
            simp [ctT, hta]
          · rw [if_neg hl, if_neg (by omega)]
      · by_cases hl : d < n
        · rw [if_pos hl, if_pos (by omega)]
        · by_cases hdn : d = n
          · subst hdn
            rw [if_neg hl, if_pos (by omega)]
            simp [tkT, hta]
          · rw [if_neg hl, if_neg (by omega)]
      · show wX g tk a n = wX g tk a n + (if tt g n = a then wT (tk n) (rout g n) else 0)
        rw [if_neg hta]
        simp
  · intro s hI
    obtain ⟨t, x, y⟩ := s
    obtain ⟨e1, e2, e3, e4⟩ := hI
    have e1 : y = nI (ne g) := e1
    subst e1
    dsimp only at e2 e3 ⊢
    rw [(hc.fr e2).1, if_pos (by rw [n_le (by omega) (by omega)]; omega)]
    exact ⟨_, rfl, e2, e3.cg (fun d hd => by rw [if_pos hd]) (fun d i hd _ => by rw [if_pos hd]), e4⟩
theorem C_puts (hw : WG g) (hc : GC g pm pe σ) (hT : TC g pe ct tk σ) {a : Nat} (ha : a < 8) (hct : ∀ e, e < ne g → ctP g ct a e ≤ 256) (y : Int32) : ∃ r : ST × Int32, lp (fun s2 : ST × Int32 =>
  if (gi s2.1 0 0 5) ≤ s2.2 then
  (some (.inr ((s2.1, s2.2)))) else
  (if inb s2.2 12 then 
  (if ix (gi s2.1 5 0 (ix s2.2)) < 12 then 
  (if (gi s2.1 2 (ix (gi s2.1 5 0 (ix s2.2))) 1) = (nI a) then
  ((C_Edge_putFrom s2.1 (ix (gi s2.1 5 0 (ix s2.2))) y).bind (fun b3 => 
  (some (.inl ((b3, s2.2 + 1)))))) else
  (some (.inl ((s2.1, s2.2 + 1))))) else none) else none)) 1000 ((σ, 0)) = some r ∧ FrC σ r.1 ∧ TC g pe (ctP g ct a) (tkP g ct tk a y) r.1 := by
  have h12 := hw.1
  refine lp_cnt (fun n s => s.2 = nI n ∧ FrC σ s.1 ∧ TC g pe (fun d => if d < n then ctP g ct a d else ct d) (fun d i => if d < n then tkP g ct tk a y d i else tk d i) s.1) (ne g) _ ?_ ?_ 1000 0 (σ, 0) (by omega) (by omega) ⟨rfl, FrC.rf, hT.cg (fun d _ => by rw [if_neg (by omega)]) (fun d i _ _ => by rw [if_neg (by omega)])⟩
  · intro n s hn hI
    obtain ⟨t, x⟩ := s
    obtain ⟨e1, e2, e3⟩ := hI
    have e1 : x = nI n := e1
    subst e1
    left
    dsimp only at e2 e3 ⊢
    have hc2 := hc.fr e2
    obtain ⟨q1, q2⟩ := hc2.2.2.1 n (by omega)
    obtain ⟨w1, -⟩ := hw.2.2 n hn
    rw [hc2.1, if_neg (by rw [n_le (by omega) (by omega)]; omega), if_pos (nb (by omega) (by decide)), nx (by omega), q1, nx (by omega), if_pos q2, (hc2.2.2.2.2 n hn).1, n_add1]
    by_cases hta : fr g n = a
    · rw [if_pos (by rw [hta])]
      have hn1 : (if n < n then ctP g ct a n else ct n) = ct n := by rw [if_neg (by omega)]
      have hb := hct n hn
      simp only [ctP, hta, if_true] at hb
      obtain ⟨σ', h1, h2, h3⟩ := C_put_eq hw hc2 e3 hn (by rw [hn1]; exact hb) y
      rw [h1]
      simp only [Option.bind_some]
      refine ⟨_, rfl, rfl, e2.tr h2, h3.cg (fun d hd => ?_) (fun d i hd _ => ?_)⟩
      · by_cases hdn : d = n
        · subst hdn
          rw [if_pos rfl, hn1, if_pos (by omega)]
          simp [ctP, hta]
        · rw [if_neg hdn]
          by_cases hl : d < n
          · rw [if_pos hl, if_pos (by omega)]
          · rw [if_neg hl, if_neg (by omega)]
      · rw [hn1]
        by_cases hdn : d = n
        · subst hdn
          rw [if_pos (show d < d + 1 by omega), if_neg (show ¬ d < d by omega)]
          simp [tkP, hta]
        · rw [if_neg (show ¬ (d = n ∧ ct n ≤ i) from fun h => hdn h.1)]
          by_cases hl : d < n
          · rw [if_pos hl, if_pos (by omega)]
          · rw [if_neg hl, if_neg (by omega)]
    · rw [if_neg (by rw [n_eq (by omega) (by omega)]; exact hta)]
      refine ⟨_, rfl, rfl, e2, e3.cg (fun d hd => ?_) (fun d i hd _ => ?_)⟩
      · by_cases hl : d < n
        · rw [if_pos hl, if_pos (by omega)]
        · by_cases hdn : d = n
          · subst hdn
            rw [if_neg hl, if_pos (by omega)]
            simp [ctP, hta]
          · rw [if_neg hl, if_neg (by omega)]
      · by_cases hl : d < n
        · rw [if_pos hl, if_pos (by omega)]
        · by_cases hdn : d = n
          · subst hdn
            rw [if_neg hl, if_pos (by omega)]
            simp [tkP, hta]
          · rw [if_neg hl, if_neg (by omega)]
  · intro s hI
    obtain ⟨t, x⟩ := s
    obtain ⟨e1, e2, e3⟩ := hI
    have e1 : x = nI (ne g) := e1
    subst e1
    dsimp only at e2 e3 ⊢
    rw [(hc.fr e2).1, if_pos (by rw [n_le (by omega) (by omega)]; omega)]
    exact ⟨_, rfl, e2, e3.cg (fun d hd => by rw [if_pos hd]) (fun d i hd _ => by rw [if_pos hd])⟩
theorem C_answer (hw : WG g) (hc : GC g pm pe σ) (hA : AA g la fx sx σ) {a : Nat} (ha : a < 8) (ta : th g a = 1) (x : Int32) : C_Actor_answerTo σ a x = some (yK g pm fx sx a x, su (su σ 1 a 8 (sx a + x)) 1 a 7 x) := by
  obtain ⟨-, h7, h8⟩ := hA a ha ta
  obtain ⟨-, h1, h2⟩ := hc.2.1 a ha
  have hk := (hw.2.1 a ha).2
  unfold C_Actor_answerTo yK
  rw [h7, h8, h1, h2]
  rcases (show kd g a = 0 ∨ kd g a = 1 ∨ kd g a = 2 ∨ kd g a = 3 by omega) with e | e | e | e <;> rw [e] <;> rfl
theorem C_fire_eq (hw : WG g) (hc : GC g pm pe σ) (hT : TC g pe ct tk σ) (hA : AA g la fx sx σ) {a : Nat} (ha : a < 8) (ta : th g a = 1) (hout : ∀ e, e < ne g → tt g e = a → rout g e ≤ ct e) (hct : ∀ e, e < ne g → ct e ≤ 256) (hct2 : ∀ e, e < ne g → ctP g (ctT g ct a) a e ≤ 256) : ∃ σ', C_fire σ (nI a) = some σ' ∧ FrF σ σ' ∧ TC g pe (ctP g (ctT g ct a) a) (tkP g (ctT g ct a) (tkT g tk a) a (yK g pm fx sx a (wX g tk a (ne g)))) σ' ∧ AA g (u1 la a (yK g pm fx sx a (wX g tk a (ne g)))) (u1 fx a (wX g tk a (ne g))) (u1 sx a (sx a + wX g tk a (ne g))) σ' := by
  unfold C_fire
  obtain ⟨⟨r1, r2, r3⟩, hr, rf, rT, rx⟩ := C_takes hw hc hT ha hout hct
  rw [hr]
  simp only [Option.bind_some]
  dsimp only at rf rT rx
  subst rx
  have hc1 := hc.fr rf
  have hA1 : AA g la fx sx r1 := fun b hb tb => by rw [rf 1 b 9 (by decide) (by omega), rf 1 b 7 (by decide) (by omega), rf 1 b 8 (by decide) (by omega)]; exact hA b hb tb
  rw [if_pos (nb ha (by decide)), nx (by omega), C_answer hw hc1 hA1 ha ta]
  simp only [Option.bind_some]
  generalize hy : yK g pm fx sx a (wX g tk a (ne g)) = y
  generalize hx : wX g tk a (ne g) = x at hy ⊢
  have f2 : ∀ K i k, K ≠ 1 → gi (su (su (su r1 1 a 8 (sx a + x)) 1 a 7 x) 1 a 9 y) K i k = gi r1 K i k := fun K i k hK => by rw [gi_K hK, gi_K hK, gi_K hK]
  have hc2 : GC g pm pe (su (su (su r1 1 a 8 (sx a + x)) 1 a 7 x) 1 a 9 y) := hc1.ff (fun K i k h3 h2 h1 => by rw [gi0 (by omega), gi0 (by omega), gi0 (by omega)])
  obtain ⟨⟨s1, s2⟩, hs, sf, sT⟩ := C_puts hw hc2 (rT.put (fun K i k h2 h3 => f2 K i k (by omega))) ha hct2 y
  rw [hs]
  refine ⟨_, rfl, ?_, sT, ?_⟩
  · intro K i k h3 h2 h1
    dsimp only at sf ⊢
    rw [sf K i k h3 h2, gi0 (by omega), gi0 (by omega), gi0 (by omega)]
    exact rf K i k h3 h2
  · intro b hb tb
    dsimp only at sf ⊢
    rw [sf 1 b 9 (by decide) (by omega), sf 1 b 7 (by decide) (by omega), sf 1 b 8 (by decide) (by omega)]
    obtain ⟨q1, q2, q3⟩ := hA1 b hb tb
    by_cases hba : b = a
    · subst hba
      simp [gi_su, u1]
    · simp [gi_su, u1, hba]
      exact ⟨q1, q2, q3⟩
end RF
