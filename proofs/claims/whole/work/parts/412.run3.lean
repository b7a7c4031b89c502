/-! PURE: one firing, the reference's side -/
def TM (g : GD) (ct : Nat → Nat) (tk : Nat → Nat → Int32) (ρ : ST) : Prop := ∀ e, e < ne g → gi ρ 22 0 e = nI (ct e) ∧ ∀ i, i < ct e → gi ρ 21 0 (e * 400 + i) = tk e i
def FrM (ρ ρ' : ST) : Prop := ∀ K i k, K ≠ 21 → K ≠ 22 → gi ρ' K i k = gi ρ K i k
theorem FrM.rf {σ : ST} : FrM σ σ := fun _ _ _ _ _ => rfl
theorem FrM.tr {a b c : ST} (h1 : FrM a b) (h2 : FrM b c) : FrM a c := fun K i k x y => (h2 K i k x y).trans (h1 K i k x y)
theorem GM.fr {g : GD} {pm : Nat → Int32} {ρ ρ' : ST} (hm : GM g pm ρ) (hf : ∀ K i k, K ≤ 8 → ¬ (K = 0 ∧ k = 19) → gi ρ' K i k = gi ρ K i k) : GM g pm ρ' := by
  refine ⟨?_, fun a ha => ?_, fun e he => ?_⟩
  · rw [hf 0 0 8 (by omega) (by omega)]; exact hm.1
  · rw [hf 1 0 a (by omega) (by omega), hf 2 0 a (by omega) (by omega), hf 3 0 a (by omega) (by omega)]; exact hm.2.1 a ha
  · rw [hf 4 0 e (by omega) (by omega), hf 5 0 e (by omega) (by omega), hf 6 0 e (by omega) (by omega), hf 7 0 e (by omega) (by omega), hf 8 0 e (by omega) (by omega)]; exact hm.2.2 e he
theorem TM.cg {g : GD} {ct ct' : Nat → Nat} {tk tk' : Nat → Nat → Int32} {σ : ST} (h : TM g ct tk σ) (h1 : ∀ d, d < ne g → ct d = ct' d) (h2 : ∀ d i, d < ne g → i < ct d → tk d i = tk' d i) : TM g ct' tk' σ := by
  intro e he
  obtain ⟨q1, q4⟩ := h e he
  refine ⟨by rw [← h1 e he]; exact q1, fun i hi => ?_⟩
  have hi' : i < ct e := by rw [h1 e he]; exact hi
  rw [q4 i hi', h2 e i he hi']
theorem n_ix {e i : Nat} : nI e * 400 + nI i = nI (e * 400 + i) := by rw [show (400 : Int32) = nI 400 from rfl, pk_mul, nI_add]
section RM
variable {g : GD} {pm : Nat → Int32} {ct : Nat → Nat} {tk : Nat → Nat → Int32} {la fx sx : Nat → Int32} {ρ : ST}
theorem M_take_eq (hw : WG g) (hm : GM g pm ρ) (hT : TM g ct tk ρ) {e : Nat} (he : e < ne g) (hout : rout g e ≤ ct e) (hct : ∀ d, d < ne g → ct d ≤ 256) : ∃ ρ', M_takeFrom ρ (nI e) = some (wT (tk e) (rout g e), ρ') ∧ FrM ρ ρ' ∧ TM g (fun d => if d = e then ct e - rout g e else ct d) (fun d i => if d = e then tk e (i + rout g e) else tk d i) ρ' := by
  have h12 := hw.1
  obtain ⟨c1, c2⟩ := hT e he
  obtain ⟨-, -, -, m7, -⟩ := hm.2.2 e he
  obtain ⟨-, -, -, -, -, -, -, ho6, -⟩ := hw.2.2 e he
  have hce := hct e he
  have i13 : inb (nI e) 13 := nb (by omega) (by decide)
  have i12 : inb (nI e) 12 := nb (by omega) (by decide)
  have xe : ix (nI e) = e := nx (by omega)
  unfold M_takeFrom
  rw [xe]
  rw [show lp (fun s1 : Int32 × Int32 =>
  if inb (nI e) 13 then 
  (if (gi ρ 7 0 e) ≤ s1.2 then
  (some (.inr ((s1.1, s1.2)))) else
  (if inb (((nI e) * 400) + s1.2) 4800 then 
  (some (.inl ((s1.1 + ((gi ρ 21 0 (ix (((nI e) * 400) + s1.2))) * (s1.2 + 1)), s1.2 + 1)))) else none)) else none) 1000 ((0, 0)) = some (wT (tk e) (rout g e), nI (rout g e)) from ?_]
  · simp only [Option.bind_some]
    rw [if_pos i12, if_pos i13, c1, m7, pk_sub hout]
    obtain ⟨⟨r1, r2⟩, hr, rf, r22, r21⟩ : ∃ r : ST × Int32, lp (fun s2 : ST × Int32 =>
  if (gi s2.1 22 0 e) ≤ s2.2 then
  (some (.inr ((s2.1, s2.2)))) else
  (if inb ((((nI e) * 400) + s2.2) + (gi s2.1 7 0 e)) 4800 then 
  (if inb (((nI e) * 400) + s2.2) 4800 then 
  (some (.inl ((su s2.1 21 0 (ix (((nI e) * 400) + s2.2)) (gi s2.1 21 0 (ix ((((nI e) * 400) + s2.2) + (gi s2.1 7 0 e)))), s2.2 + 1)))) else none) else none)) 1000 ((su ρ 22 0 e (nI (ct e - rout g e)), 0)) = some r ∧ FrM ρ r.1 ∧ (∀ d, gi r.1 22 0 d = if d = e then nI (ct e - rout g e) else gi ρ 22 0 d) ∧ (∀ k, gi r.1 21 0 k = if e * 400 ≤ k ∧ k < e * 400 + (ct e - rout g e) then gi ρ 21 0 (k + rout g e) else gi ρ 21 0 k) := by
      refine lp_cnt (fun j s => s.2 = nI j ∧ FrM ρ s.1 ∧ (∀ d, gi s.1 22 0 d = if d = e then nI (ct e - rout g e) else gi ρ 22 0 d) ∧ (∀ k, gi s.1 21 0 k = if e * 400 ≤ k ∧ k < e * 400 + j then gi ρ 21 0 (k + rout g e) else gi ρ 21 0 k)) (ct e - rout g e) _ ?_ ?_ 1000 0 (su ρ 22 0 e (nI (ct e - rout g e)), 0) (by omega) (by omega) ⟨rfl, fun K i k _ h2 => gi_K h2, fun d => ?_, fun k => ?_⟩
      · intro j s hj hI
        obtain ⟨t1, t2⟩ := s
        obtain ⟨e1, e2, e3, e4⟩ := hI
        have e1 : t2 = nI j := e1
        subst e1
        left
        dsimp only at e2 e3 e4 ⊢
        rw [e3 e, if_pos rfl, if_neg (by rw [n_le (by omega) (by omega)]; omega), e2 7 0 e (by decide) (by decide), m7, n_ix, nI_add, if_pos (nb (by omega) (by decide)), if_pos (nb (by omega) (by decide)), nx (by omega), nx (by omega), n_add1, e4 (e * 400 + j + rout g e), if_neg (by omega)]
        refine ⟨_, rfl, rfl, fun K i k h1 h2 => ?_, fun d => ?_, fun k => ?_⟩
        · dsimp only
          rw [gi_K h1]; exact e2 K i k h1 h2
        · dsimp only
          rw [gi_K (by decide)]; exact e3 d
        · dsimp only
          by_cases hk : k = e * 400 + j
          · subst hk
            rw [gi_same, if_pos (by omega)]
          · rw [gi_k hk, e4 k]
            by_cases h1 : e * 400 ≤ k ∧ k < e * 400 + j
            · rw [if_pos h1, if_pos (by omega)]
            · rw [if_neg h1, if_neg (by omega)]
      · intro s hI
        obtain ⟨t1, t2⟩ := s
        obtain ⟨e1, e2, e3, e4⟩ := hI
        have e1 : t2 = nI (ct e - rout g e) := e1
        subst e1
        dsimp only at e2 e3 e4 ⊢
        rw [e3 e, if_pos rfl, if_pos (by rw [n_le (by omega) (by omega)]; omega)]
        exact ⟨_, rfl, e2, e3, e4⟩
      · dsimp only
        by_cases h : d = e
        · subst h
          rw [gi_same, if_pos rfl]
        · rw [gi_k h, if_neg h]
      · dsimp only
        rw [gi_K (by decide), if_neg (by omega)]
    rw [hr]
    refine ⟨_, rfl, rf, fun d hd => ?_⟩
    dsimp only at r22 r21 ⊢
    rw [r22 d]
    obtain ⟨d1, d2⟩ := hT d hd
    have hcd := hct d hd
    by_cases hde : d = e
    · subst hde
      rw [if_pos rfl, if_pos rfl]
      refine ⟨rfl, fun i hi => ?_⟩
      rw [r21, if_pos (by omega), if_pos rfl, show d * 400 + i + rout g d = d * 400 + (i + rout g d) by omega]
      exact d2 _ (by omega)
    · rw [if_neg hde, if_neg hde]
      refine ⟨d1, fun i hi => ?_⟩
      rw [r21, if_neg (by omega), if_neg hde]
      exact d2 i hi
  · refine lp_for (fun i => (wT (tk e) i, nI i)) (rout g e) (fun i hi => ?_) ?_ 1000 0 (by omega) (by omega)
    · dsimp only
      rw [if_pos i13, m7, if_neg (by rw [n_le (by omega) (by omega)]; omega), n_ix, if_pos (nb (by omega) (by decide)), nx (by omega), c2 i (by omega), n_add1]
      rfl
    · dsimp only
      rw [if_pos i13, m7, if_pos (by rw [n_le (by omega) (by omega)]; omega)]
theorem M_takes (hw : WG g) (hm : GM g pm ρ) (hT : TM g ct tk ρ) {a : Nat} (ha : a < 8) (hout : ∀ e, e < ne g → tt g e = a → rout g e ≤ ct e) (hct : ∀ e, e < ne g → ct e ≤ 256) : ∃ r : ST × Int32 × Int32, lp (fun s1 : ST × Int32 × Int32 =>
  if (gi s1.1 0 0 8) ≤ s1.2.2 then
  (some (.inr ((s1.1, s1.2.1, s1.2.2)))) else
  (if inb s1.2.2 13 then 
  (if (gi s1.1 5 0 (ix s1.2.2)) = (nI a) then
  ((M_takeFrom s1.1 s1.2.2).bind (fun b1 => 
  (some (.inl ((b1.2, s1.2.1 + b1.1, s1.2.2 + 1)))))) else
  (some (.inl ((s1.1, s1.2.1, s1.2.2 + 1))))) else none)) 1000 ((ρ, 0, 0)) = some r ∧ FrM ρ r.1 ∧ TM g (ctT g ct a) (tkT g tk a) r.1 ∧ r.2.1 = wX g tk a (ne g) := by
  have h12 := hw.1
  refine lp_cnt (fun n s => s.2.2 = nI n ∧ FrM ρ s.1 ∧ TM g (fun d => if d < n then ctT g ct a d else ct d) (fun d i => if d < n then tkT g tk a d i else tk d i) s.1 ∧ s.2.1 = wX g tk a n) (ne g) _ ?_ ?_ 1000 0 (ρ, 0, 0) (by omega) (by omega) ⟨rfl, FrM.rf, hT.cg (fun d _ => by rw [if_neg (by omega)]) (fun d i _ _ => by rw [if_neg (by omega)]), rfl⟩
  · intro n s hn hI
    obtain ⟨t, x, y⟩ := s
    obtain ⟨e1, e2, e3, e4⟩ := hI
    have e1 : y = nI n := e1
    have e4 : x = wX g tk a n := e4
    subst e1 e4
    left
    dsimp only at e2 e3 ⊢
    have hm2 := hm.fr (fun K i k h1 h2 => e2 K i k (by omega) (by omega))
    obtain ⟨-, w2, -⟩ := hw.2.2 n hn
    rw [hm2.1, if_neg (by rw [n_le (by omega) (by omega)]; omega), if_pos (nb (by omega) (by decide)), nx (by omega), (hm2.2.2 n hn).2.1, n_add1]
    by_cases hta : tt g n = a
    · rw [if_pos (by rw [hta])]
      have hn1 : (if n < n then ctT g ct a n else ct n) = ct n := by rw [if_neg (by omega)]
      obtain ⟨σ', h1, h2, h3⟩ := M_take_eq hw hm2 e3 hn (by rw [hn1]; exact hout n hn hta) (fun d hd => by
        by_cases hl : d < n
        · rw [if_pos hl]
          have := hct d hd
          unfold ctT
          split <;> omega
        · rw [if_neg hl]; exact hct d hd)
      rw [h1]
      simp only [Option.bind_some]
      refine ⟨_, rfl, rfl, e2.tr h2, h3.cg (fun d hd => ?_) (fun d i hd _ => ?_), ?_⟩
      · by_cases hdn : d = n
        · subst hdn
          rw [if_pos rfl, hn1, if_pos (by omega)]
          simp [ctT, hta]
        · rw [if_neg hdn]
          by_cases hl : d < n
          · rw [if_pos hl, if_pos (by omega)]
          · rw [if_neg hl, if_neg (by omega)]
      · by_cases hdn : d = n
        · subst hdn
          rw [if_pos rfl, if_neg (by omega), if_pos (by omega)]
          simp [tkT, hta]
        · rw [if_neg hdn]
          by_cases hl : d < n
          · rw [if_pos hl, if_pos (by omega)]
          · rw [if_neg hl, if_neg (by omega)]
      · have hw2 : wT (fun i => if n < n then tkT g tk a n i else tk n i) (rout g n) = wT (tk n) (rout g n) := by
          have : (fun i => if n < n then tkT g tk a n i else tk n i) = tk n := by funext i; rw [if_neg (by omega)]
          rw [this]
        rw [hw2]
        show wX g tk a n + wT (tk n) (rout g n) = wX g tk a n + (if tt g n = a then wT (tk n) (rout g n) else 0)
        rw [if_pos hta]
    · rw [if_neg (by rw [n_eq (by omega) (by omega)]; exact hta)]
      refine ⟨_, rfl, rfl, e2, e3.cg (fun d hd => ?_) (fun d i hd _ => ?_), ?_⟩
      · by_cases hl : d < n
        · rw [if_pos hl, if_pos (by omega)]
        · by_cases hdn : d = n
          · subst hdn
            rw [if_neg hl, if_pos (by omega)]
            simp [ctT, hta]
          · rw [if_neg hl, if_neg (by omega)]
      · by_cases hl : d < n
        · rw [if_pos hl, if_pos (by omega)]
        · by_cases hdn : d = n
          · subst hdn
            rw [if_neg hl, if_pos (by omega)]
            simp [tkT, hta]
          · rw [if_neg hl, if_neg (by omega)]
      · show wX g tk a n = wX g tk a n + (if tt g n = a then wT (tk n) (rout g n) else 0)
        rw [if_neg hta]
        simp
  · intro s hI
    obtain ⟨t, x, y⟩ := s
    obtain ⟨e1, e2, e3, e4⟩ := hI
    have e1 : y = nI (ne g) := e1
    subst e1
    dsimp only at e2 e3 ⊢
    rw [(hm.fr (fun K i k h1 h2 => e2 K i k (by omega) (by omega))).1, if_pos (by rw [n_le (by omega) (by omega)]; omega)]
    exact ⟨_, rfl, e2, e3.cg (fun d hd => by rw [if_pos hd]) (fun d i hd _ => by rw [if_pos hd]), e4⟩
theorem M_put_eq (hw : WG g) (hm : GM g pm ρ) (hT : TM g ct tk ρ) {e : Nat} (he : e < ne g) (hct : ∀ d, d < ne g → ct d ≤ 256) (hc2 : ct e + rin g e ≤ 256) (y : Int32) : ∃ r : ST × Int32, lp (fun s17 : ST × Int32 =>
  if (gi s17.1 6 0 e) ≤ s17.2 then
  (some (.inr ((s17.1, s17.2)))) else
  (if inb (nI e) 12 then 
  (if inb ((((nI e) * 400) + (gi s17.1 22 0 e)) + s17.2) 4800 then 
  (some (.inl ((su s17.1 21 0 (ix ((((nI e) * 400) + (gi s17.1 22 0 e)) + s17.2)) (y + s17.2), s17.2 + 1)))) else none) else none)) 1000 ((ρ, 0)) = some r ∧ FrM ρ (su r.1 22 0 e (gi r.1 22 0 e + gi r.1 6 0 e)) ∧ TM g (fun d => if d = e then ct e + rin g e else ct d) (fun d i => if d = e ∧ ct e ≤ i then y + nI (i - ct e) else tk d i) (su r.1 22 0 e (gi r.1 22 0 e + gi r.1 6 0 e)) := by
  have h12 := hw.1
  obtain ⟨c1, c2⟩ := hT e he
  obtain ⟨-, -, m6, -, -⟩ := hm.2.2 e he
  obtain ⟨-, -, -, -, -, hi6, -, -, -⟩ := hw.2.2 e he
  have hce := hct e he
  have i12 : inb (nI e) 12 := nb (by omega) (by decide)
  refine lp_cnt (fun j s => s.2 = nI j ∧ (∀ K i k, K ≠ 21 → gi s.1 K i k = gi ρ K i k) ∧ (∀ k, gi s.1 21 0 k = if e * 400 + ct e ≤ k ∧ k < e * 400 + ct e + j then y + nI (k - (e * 400 + ct e)) else gi ρ 21 0 k)) (rin g e) _ ?_ ?_ 1000 0 (ρ, 0) (by omega) (by omega) ⟨rfl, fun _ _ _ _ => rfl, fun k => by rw [if_neg (by omega)]⟩
  · intro j s hj hI
    obtain ⟨t1, t2⟩ := s
    obtain ⟨e1, e2, e4⟩ := hI
    have e1 : t2 = nI j := e1
    subst e1
    left
    dsimp only at e2 e4 ⊢
    rw [e2 6 0 e (by decide), m6, if_neg (by rw [n_le (by omega) (by omega)]; omega), if_pos i12, e2 22 0 e (by decide), c1, n_ix, nI_add, if_pos (nb (by omega) (by decide)), nx (by omega), n_add1]
    refine ⟨_, rfl, rfl, fun K i k h1 => ?_, fun k => ?_⟩
    · dsimp only
      rw [gi_K h1]; exact e2 K i k h1
    · dsimp only
      by_cases hk : k = e * 400 + ct e + j
      · subst hk
        rw [gi_same, if_pos (by omega), show e * 400 + ct e + j - (e * 400 + ct e) = j by omega]
      · rw [gi_k hk, e4 k]
        by_cases h1 : e * 400 + ct e ≤ k ∧ k < e * 400 + ct e + j
        · rw [if_pos h1, if_pos (by omega)]
        · rw [if_neg h1, if_neg (by omega)]
  · intro s hI
    obtain ⟨t1, t2⟩ := s
    obtain ⟨e1, e2, e4⟩ := hI
    have e1 : t2 = nI (rin g e) := e1
    subst e1
    dsimp only at e2 e4 ⊢
    rw [e2 6 0 e (by decide), m6, if_pos (by rw [n_le (by omega) (by omega)]; omega)]
    refine ⟨_, rfl, fun K i k h1 h2 => ?_, fun d hd => ?_⟩
    · dsimp only
      rw [gi_K h2]; exact e2 K i k h1
    · dsimp only
      obtain ⟨d1, d2⟩ := hT d hd
      have hcd := hct d hd
      rw [e2 22 0 e (by decide), c1, e2 6 0 e (by decide), m6, nI_add]
      by_cases hde : d = e
      · subst hde
        rw [if_pos rfl, gi_same]
        refine ⟨rfl, fun i hi => ?_⟩
        rw [gi_K (by decide), e4]
        by_cases h1 : ct d ≤ i
        · rw [if_pos (by omega), if_pos ⟨rfl, h1⟩, show d * 400 + i - (d * 400 + ct d) = i - ct d by omega]
        · rw [if_neg (by omega), if_neg (by omega)]
          exact d2 i (by omega)
      · rw [if_neg hde, gi_k hde, e2 22 0 d (by decide)]
        refine ⟨d1, fun i hi => ?_⟩
        rw [gi_K (by decide), e4, if_neg (by omega), if_neg (by omega)]
        exact d2 i hi
theorem M_puts (hw : WG g) (hm : GM g pm ρ) (hT : TM g ct tk ρ) {a : Nat} (ha : a < 8) (hct0 : ∀ e, e < ne g → ct e ≤ 256) (hct : ∀ e, e < ne g → ctP g ct a e ≤ 256) (y : Int32) : ∃ r : ST × Int32, lp (fun s16 : ST × Int32 =>
  if (gi s16.1 0 0 8) ≤ s16.2 then
  (some (.inr ((s16.1, s16.2)))) else
  (if inb s16.2 13 then 
  (if (gi s16.1 4 0 (ix s16.2)) = (nI a) then
  ((lp (fun s17 : ST × Int32 =>
  if (gi s17.1 6 0 (ix s16.2)) ≤ s17.2 then
  (some (.inr ((s17.1, s17.2)))) else
  (if inb s16.2 12 then 
  (if inb (((s16.2 * 400) + (gi s17.1 22 0 (ix s16.2))) + s17.2) 4800 then 
  (some (.inl ((su s17.1 21 0 (ix (((s16.2 * 400) + (gi s17.1 22 0 (ix s16.2))) + s17.2)) (y + s17.2), s17.2 + 1)))) else none) else none)) 1000 ((s16.1, 0))).bind (fun r17 : ST × Int32 =>
  if inb s16.2 12 then 
  (some (.inl ((su r17.1 22 0 (ix s16.2) ((gi r17.1 22 0 (ix s16.2)) + (gi r17.1 6 0 (ix s16.2))), s16.2 + 1)))) else none)) else
  (some (.inl ((s16.1, s16.2 + 1))))) else none)) 1000 ((ρ, 0)) = some r ∧ FrM ρ r.1 ∧ TM g (ctP g ct a) (tkP g ct tk a y) r.1 := by
  have h12 := hw.1
  refine lp_cnt (fun n s => s.2 = nI n ∧ FrM ρ s.1 ∧ TM g (fun d => if d < n then ctP g ct a d else ct d) (fun d i => if d < n then tkP g ct tk a y d i else tk d i) s.1) (ne g) _ ?_ ?_ 1000 0 (ρ, 0) (by omega) (by omega) ⟨rfl, FrM.rf, hT.cg (fun d _ => by rw [if_neg (by omega)]) (fun d i _ _ => by rw [if_neg (by omega)])⟩
  · intro n s hn hI
    obtain ⟨t, x⟩ := s
    obtain ⟨e1, e2, e3⟩ := hI
    have e1 : x = nI n := e1
    subst e1
    left
    dsimp only at e2 e3 ⊢
    have hm2 := hm.fr (fun K i k h1 h2 => e2 K i k (by omega) (by omega))
    obtain ⟨w1, -⟩ := hw.2.2 n hn
    have i12 : inb (nI n) 12 := nb (by omega) (by decide)
    rw [hm2.1, if_neg (by rw [n_le (by omega) (by omega)]; omega), if_pos (nb (by omega) (by decide)), nx (by omega), (hm2.2.2 n hn).1, n_add1]
    by_cases hta : fr g n = a
    · rw [if_pos (by rw [hta])]
      have hn1 : (if n < n then ctP g ct a n else ct n) = ct n := by rw [if_neg (by omega)]
      have hb := hct n hn
      simp only [ctP, hta, if_true] at hb
      obtain ⟨⟨r1, r2⟩, h1, h2, h3⟩ := M_put_eq hw hm2 e3 hn (fun d hd => by
        by_cases hl : d < n
        · rw [if_pos hl]; exact hct d hd
        · rw [if_neg hl]; exact hct0 d hd) (by rw [hn1]; exact hb) y
      rw [h1]
      simp only [Option.bind_some]
      rw [if_pos i12]
      refine ⟨_, rfl, rfl, e2.tr h2, h3.cg (fun d hd => ?_) (fun d i hd _ => ?_)⟩
      · by_cases hdn : d = n
        · subst hdn
          rw [if_pos rfl, hn1, if_pos (by omega)]
          simp [ctP, hta]
        · rw [if_neg hdn]
          by_cases hl : d < n
          · rw [if_pos hl, if_pos (by omega)]
          · rw [if_neg hl, if_neg (by omega)]
      · rw [hn1]
        by_cases hdn : d = n
        · subst hdn
          rw [if_pos (show d < d + 1 by omega), if_neg (show ¬ d < d by omega)]
          simp [tkP, hta]
        · rw [if_neg (show ¬ (d = n ∧ ct n ≤ i) from fun h => hdn h.1)]
          by_cases hl : d < n
          · rw [if_pos hl, if_pos (by omega)]
          · rw [if_neg hl, if_neg (by omega)]
    · rw [if_neg (by rw [n_eq (by omega) (by omega)]; exact hta)]
      refine ⟨_, rfl, rfl, e2, e3.cg (fun d hd => ?_) (fun d i hd _ => ?_)⟩
      · by_cases hl : d < n
        · rw [if_pos hl, if_pos (by omega)]
        · by_cases hdn : d = n
          · subst hdn
            rw [if_neg hl, if_pos (by omega)]
            simp [ctP, hta]
          · rw [if_neg hl, if_neg (by omega)]
      · by_cases hl : d < n
        · rw [if_pos hl, if_pos (by omega)]
        · by_cases hdn : d = n
          · subst hdn
            rw [if_neg hl, if_pos (by omega)]
            simp [tkP, hta]
          · rw [if_neg hl, if_neg (by omega)]
  · intro s hI
    obtain ⟨t, x⟩ := s
    obtain ⟨e1, e2, e3⟩ := hI
    have e1 : x = nI (ne g) := e1
    subst e1
    dsimp only at e2 e3 ⊢
    rw [(hm.fr (fun K i k h1 h2 => e2 K i k (by omega) (by omega))).1, if_pos (by rw [n_le (by omega) (by omega)]; omega)]
    exact ⟨_, rfl, e2, e3.cg (fun d hd => by rw [if_pos hd]) (fun d i hd _ => by rw [if_pos hd])⟩
end RM
