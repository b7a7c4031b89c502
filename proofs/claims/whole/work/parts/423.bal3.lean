/-! PURE: the reference's balance -/
def qI (q : Nat) : Int32 := if q < 8 then nI q else -1
theorem q_eq {q i : Nat} (hi : i < 8) : (qI q = nI i) = (q = i) := by
  unfold qI
  by_cases h : q < 8
  · rw [if_pos h, n_eq (by omega) (by omega)]
  · rw [if_neg h]
    apply propext
    constructor
    · intro e
      exfalso
      have : ¬ nI i < 0 := nI_pos (by omega)
      rw [← e] at this
      exact this (by decide)
    · intro e; omega
theorem q_nn {q : Nat} : (0 ≤ qI q) = (q < 8) := by
  unfold qI
  by_cases h : q < 8
  · rw [if_pos h]
    exact propext ⟨fun _ => h, fun _ => nI_pos' (by omega)⟩
  · rw [if_neg h]
    exact propext ⟨fun e => absurd e (by decide), fun e => absurd e h⟩
theorem q_neg {q : Nat} : (qI q < 0) = (¬ q < 8) := by
  unfold qI
  by_cases h : q < 8
  · rw [if_pos h]
    exact propext ⟨fun e => absurd e (nI_pos (by omega)), fun e => absurd h e⟩
  · rw [if_neg h]
    exact propext ⟨fun _ => h, fun _ => by decide⟩
def LM (Q : Nat → Nat) (ρ : ST) : Prop := ∀ a, a < 8 → gi ρ 13 0 a = qI (Q a)
def FM (Q T L : Nat → Nat) (ρ : ST) : Prop := ∀ a, a < 8 → Q a < 8 → gl ρ 11 0 a = lN (T a) ∧ gl ρ 12 0 a = lN (L a)
def FrQ (ρ ρ' : ST) : Prop := ∀ K i k, K ≠ 13 → gi ρ' K i k = gi ρ K i k
theorem FrQ.rf {σ : ST} : FrQ σ σ := fun _ _ _ _ => rfl
theorem FrQ.tr {a b c : ST} (h1 : FrQ a b) (h2 : FrQ b c) : FrQ a c := fun K i k x => (h2 K i k x).trans (h1 K i k x)
theorem GM.fq {g : GD} {pm : Nat → Int32} {ρ ρ' : ST} (hm : GM g pm ρ) (hf : FrQ ρ ρ') : GM g pm ρ' := hm.cg (fun K i k h => hf K i k (by omega))
def BI (g : GD) (n : Nat) (Q T L : Nat → Nat) : Prop := ∀ a, a < 8 → Q a ≤ 8 ∧ (Q a < 8 → th g a = 1 ∧ Q a ≤ a ∧ Q (Q a) = Q a ∧ 1 ≤ T a ∧ 1 ≤ L a ∧ Nat.gcd (T a) (L a) = 1 ∧ 6 * T a ≤ 6 ^ sz Q (Q a) ∧ 6 * L a ≤ 6 ^ sz Q (Q a) ∧ (∀ φ : Nat → Nat, (∀ e, e < n → φ (fr g e) = φ (tt g e)) → φ a = φ (Q a)) ∧ ∀ S : Nat → Nat, (∀ e, e < n → rin g e * S (fr g e) = rout g e * S (tt g e)) → T a * S (Q a) = L a * S a)
def up (f : Nat → Nat) (t v : Nat) : Nat → Nat := fun b => if b = t then v else f b
theorem up_same {f : Nat → Nat} {t v : Nat} : up f t v t = v := if_pos rfl
theorem up_ne {f : Nat → Nat} {t v b : Nat} (h : ¬ b = t) : up f t v b = f b := if_neg h
theorem sz_up {Q : Nat → Nat} {t i : Nat} (ht : t < 8) (h : ¬ Q t = i) : sz (up Q t i) i = sz Q i + 1 := by
  have := sm_at (f := fun b => if Q b = i then 1 else 0) (f' := fun b => if up Q t i b = i then 1 else 0) (t := t) 8 ht (fun a _ ha => by rw [up_ne ha])
  simp only [up_same, if_true, if_neg h] at this
  exact this
theorem sz_up' {Q : Nat → Nat} {t i r : Nat} (h : ¬ r = i) (h2 : ¬ Q t = r) : sz (up Q t i) r = sz Q r := by
  refine sm_cg 8 (fun a _ => ?_)
  by_cases e : a = t
  · subst e
    rw [up_same, if_neg (fun q => h q.symm), if_neg h2]
  · rw [up_ne e]
theorem sz_up_le {Q : Nat → Nat} {t i r : Nat} (ht : t < 8) (h : ¬ Q t = i) (h2 : ¬ Q t = r) : sz Q r ≤ sz (up Q t i) r := by
  by_cases e : r = i
  · subst e; rw [sz_up ht h]; omega
  · rw [sz_up' e h2]; exact Nat.le_refl _
section BM
variable {g : GD} {pm : Nat → Int32} {n : Nat} {Q T L : Nat → Nat}
theorem BI.old (h : BI g n Q T L) {t i v w : Nat} (ht : t < 8) (h8 : Q t = 8) (hi : i < 8) {a : Nat} (ha : a < 8) (hat : ¬ a = t) : up Q t i a ≤ 8 ∧ (up Q t i a < 8 → th g a = 1 ∧ up Q t i a ≤ a ∧ up Q t i (up Q t i a) = up Q t i a ∧ 1 ≤ up T t v a ∧ 1 ≤ up L t w a ∧ Nat.gcd (up T t v a) (up L t w a) = 1 ∧ 6 * up T t v a ≤ 6 ^ sz (up Q t i) (up Q t i a) ∧ 6 * up L t w a ≤ 6 ^ sz (up Q t i) (up Q t i a) ∧ (∀ φ : Nat → Nat, (∀ e, e < n → φ (fr g e) = φ (tt g e)) → φ a = φ (up Q t i a)) ∧ ∀ S : Nat → Nat, (∀ e, e < n → rin g e * S (fr g e) = rout g e * S (tt g e)) → up T t v a * S (up Q t i a) = up L t w a * S a) := by
  rw [up_ne hat, up_ne hat, up_ne hat]
  obtain ⟨q1, q2⟩ := h a ha
  refine ⟨q1, fun hq => ?_⟩
  obtain ⟨a1, a2, a3, a4, a5, a6, a7, a8, a9, a10⟩ := q2 hq
  have hne : ¬ Q a = t := fun e => by rw [← e, a3] at h8; omega
  have hle := p6 (sz_up_le (Q := Q) (t := t) (i := i) (r := Q a) ht (by omega) (by omega))
  exact ⟨a1, a2, by rw [up_ne hne]; exact a3, a4, a5, a6, by omega, by omega, a9, a10⟩
theorem BI.root (h : BI g n Q T L) {i : Nat} (hi : i < 8) (h8 : Q i = 8) (ti : th g i = 1) : BI g n (up Q i i) (up T i 1) (up L i 1) := by
  intro a ha
  by_cases hai : a = i
  · subst hai
    have := p6 (sz_pos (P := up Q a a) ha)
    rw [up_same] at this
    rw [show up Q a a a = a from up_same, show up T a 1 a = 1 from up_same, show up L a 1 a = 1 from up_same]
    refine ⟨by omega, fun _ => ⟨ti, by omega, up_same, by omega, by omega, by decide, by omega, by omega, fun φ _ => rfl, fun S _ => rfl⟩⟩
  · exact h.old hi h8 hi ha hai
theorem BI.more (h : BI g n Q T L) {t x i p q G : Nat} (ht : t < 8) (hx : x < 8) (hi : i < 8) (h8 : Q t = 8) (hxi : Q x = i) (tt1 : th g t = 1) (hit : i ≤ t) (hp : 1 ≤ p ∧ p ≤ 6) (hq : 1 ≤ q ∧ q ≤ 6) (hφ : ∀ φ : Nat → Nat, (∀ e, e < n → φ (fr g e) = φ (tt g e)) → φ t = φ x) (hS : ∀ S : Nat → Nat, (∀ e, e < n → rin g e * S (fr g e) = rout g e * S (tt g e)) → p * S x = q * S t) (hG : G = Nat.gcd (T x * p) (L x * q)) : BI g n (up Q t i) (up T t (T x * p / G)) (up L t (L x * q / G)) := by
  obtain ⟨-, x2⟩ := h x hx
  obtain ⟨x1, x2, x3, x4, x5, x6, x7, x8, x9, x10⟩ := x2 (by omega)
  rw [hxi] at x3 x7 x8 x9 x10
  have hit' : ¬ i = t := fun e => by rw [← e] at h8; omega
  have hA : 0 < T x * p := Nat.mul_pos (by omega) (by omega)
  have hB : 0 < L x * q := Nat.mul_pos (by omega) (by omega)
  have hG0 : 0 < G := by rw [hG]; exact Nat.gcd_pos_of_pos_left _ hA
  have eT : G * (T x * p / G) = T x * p := Nat.mul_div_cancel' (by rw [hG]; exact Nat.gcd_dvd_left _ _)
  have eL : G * (L x * q / G) = L x * q := Nat.mul_div_cancel' (by rw [hG]; exact Nat.gcd_dvd_right _ _)
  intro a ha
  by_cases hat : a = t
  · subst hat
    rw [up_same, up_same, up_same]
    refine ⟨by omega, fun _ => ⟨tt1, hit, by rw [up_ne hit']; exact x3, ?_, ?_, ?_, ?_, ?_, fun φ f => by rw [hφ φ f, x9 φ f], fun S f => ?_⟩⟩
    · exact Nat.pos_of_ne_zero (fun e => by rw [e] at eT; omega)
    · exact Nat.pos_of_ne_zero (fun e => by rw [e] at eL; omega)
    · rw [hG]; exact Nat.coprime_div_gcd_div_gcd (by rw [← hG]; exact hG0)
    · rw [sz_up ha (by omega), Nat.pow_succ]
      have a1 : T x * p / G ≤ T x * p := Nat.div_le_self _ _
      have a2 : T x * p ≤ T x * 6 := Nat.mul_le_mul_left _ hp.2
      omega
    · rw [sz_up ha (by omega), Nat.pow_succ]
      have a1 : L x * q / G ≤ L x * q := Nat.div_le_self _ _
      have a2 : L x * q ≤ L x * 6 := Nat.mul_le_mul_left _ hq.2
      omega
    · apply Nat.eq_of_mul_eq_mul_left hG0
      calc G * (T x * p / G * S i) = (G * (T x * p / G)) * S i := by ac_rfl
        _ = (T x * S i) * p := by rw [eT]; ac_rfl
        _ = L x * (p * S x) := by rw [x10 S f]; ac_rfl
        _ = (L x * q) * S a := by rw [hS S f]; ac_rfl
        _ = (G * (L x * q / G)) * S a := by rw [eL]
        _ = G * (L x * q / G * S a) := by ac_rfl
  · exact h.old ht h8 hi ha hat
/-- the done labels, but for i, have whole parts -/
def DN (g : GD) (n i : Nat) (Q : Nat → Nat) : Prop := ∀ e, e < n → (Q (fr g e) < 8 → ¬ Q (fr g e) = i → Q (tt g e) = Q (fr g e)) ∧ (Q (tt g e) < 8 → ¬ Q (tt g e) = i → Q (fr g e) = Q (tt g e))
def PM (g : GD) (i : Nat) (Q : Nat → Nat) : Prop := ∀ a, a < i → a < 8 → th g a = 1 → Q a < 8
def OK (g : GD) (i : Nat) (Q : Nat → Nat) (e : Nat) : Prop := ¬ (Q (fr g e) = i ∧ Q (tt g e) = 8) ∧ ¬ (Q (tt g e) = i ∧ Q (fr g e) = 8)
theorem DN.lab {i : Nat} (hi : i < 8) (h : DN g n i Q) {t : Nat} (h8 : Q t = 8) : DN g n i (up Q t i) := by
  intro e he
  obtain ⟨h1, h2⟩ := h e he
  constructor
  · intro a1 a2
    by_cases e1 : fr g e = t
    · rw [e1, up_same] at a2; exact absurd rfl a2
    · rw [up_ne e1] at a1 a2 ⊢
      have := h1 a1 a2
      by_cases e2 : tt g e = t
      · rw [e2] at this; omega
      · rw [up_ne e2]; exact this
  · intro a1 a2
    by_cases e1 : tt g e = t
    · rw [e1, up_same] at a2; exact absurd rfl a2
    · rw [up_ne e1] at a1 a2 ⊢
      have := h2 a1 a2
      by_cases e2 : fr g e = t
      · rw [e2] at this; omega
      · rw [up_ne e2]; exact this
theorem DN.first {i : Nat} (hi : i < 8) (h : DN g n 8 Q) (h8 : Q i = 8) : DN g n i (up Q i i) := by
  refine DN.lab hi (fun e he => ?_) h8
  obtain ⟨h1, h2⟩ := h e he
  exact ⟨fun a1 a2 => h1 a1 (by omega), fun a1 a2 => h2 a1 (by omega)⟩
theorem DN.last {i : Nat} (h : DN g n i Q) (hw : WG g) (hn : n ≤ ne g) (hb : BI g n Q T L) (hs : ∀ e, e < n → OK g i Q e) : DN g n 8 Q := by
  intro e he
  obtain ⟨h1, h2⟩ := h e he
  obtain ⟨o1, o2⟩ := hs e he
  obtain ⟨w1, w2, -⟩ := hw.2.2 e (by omega)
  have b1 := (hb _ w1).1
  have b2 := (hb _ w2).1
  constructor
  · intro a1 a2
    by_cases e1 : Q (fr g e) = i
    · have : ¬ Q (tt g e) = 8 := fun q => o1 ⟨e1, q⟩
      by_cases e2 : Q (tt g e) = i
      · omega
      · exact (h2 (by omega) e2).symm
    · exact h1 a1 e1
  · intro a1 a2
    by_cases e1 : Q (tt g e) = i
    · have : ¬ Q (fr g e) = 8 := fun q => o2 ⟨e1, q⟩
      by_cases e2 : Q (fr g e) = i
      · omega
      · exact (h1 (by omega) e2).symm
    · exact h2 a1 e1
theorem PM.lab {i t v : Nat} (hv : v < 8) (h : PM g i Q) : PM g i (up Q t v) := by
  intro a h1 h2 h3
  by_cases e : a = t
  · subst e; rw [up_same]; exact hv
  · rw [up_ne e]; exact h a h1 h2 h3
theorem M_sf_eq {ρ : ST} {t A B : Nat} (ht : t < 8) (hA : 0 < A) (hA2 : A < 2147483648) (hB2 : B < 2147483648) : M_setFraction ρ (nI t) (lN A) (lN B) = some (sl (sl ρ 11 0 t (lN (A / Nat.gcd A B))) 12 0 t (lN (B / Nat.gcd A B))) := by
  unfold M_setFraction
  have hG0 : 0 < Nat.gcd A B := Nat.gcd_pos_of_pos_left _ hA
  have hGl := Nat.gcd_le_left B hA
  rw [M_gcd_eq (by omega) (by omega)]
  simp only [Option.bind_some]
  rw [if_pos (by rw [show (0 : Int64) = lN 0 from rfl, pk_lEQ (by omega) (by omega)]; omega), if_pos (nb ht (by decide)), nx (by omega), pk_lDiv (by omega) hG0 (by omega), pk_lDiv (by omega) hG0 (by omega)]
/-- one look at an edge -/
abbrev eb (i : Int32) (x1 : Int32) : ST × Int32 → Option ((ST × Int32) ⊕ (ST × Int32)) := fun s4 : ST × Int32 =>
  if x1 ≤ s4.2 then
  (some (.inr ((s4.1, s4.2)))) else
  (if inb s4.2 13 then 
  (if inb (gi s4.1 4 0 (ix s4.2)) 8 then 
  (if (gi s4.1 13 0 (ix (gi s4.1 4 0 (ix s4.2)))) = i then
  (if inb (gi s4.1 5 0 (ix s4.2)) 8 then 
  (if 0 ≤ (gi s4.1 13 0 (ix (gi s4.1 5 0 (ix s4.2)))) then
  (if (gi s4.1 13 0 (ix (gi s4.1 5 0 (ix s4.2)))) = i then
  (if 0 ≤ (gi s4.1 13 0 (ix (gi s4.1 4 0 (ix s4.2)))) then
  (some (.inl ((s4.1, s4.2 + 1)))) else
  ((M_setFraction (su s4.1 13 0 (ix (gi s4.1 4 0 (ix s4.2))) i) (gi s4.1 4 0 (ix s4.2)) ((gl s4.1 11 0 (ix (gi s4.1 5 0 (ix s4.2)))) * ((gi s4.1 7 0 (ix s4.2)).toInt64)) ((gl s4.1 12 0 (ix (gi s4.1 5 0 (ix s4.2)))) * ((gi s4.1 6 0 (ix s4.2)).toInt64))).bind (fun b2 => 
  (some (.inl ((b2, s4.2 + 1))))))) else
  (some (.inl ((s4.1, s4.2 + 1))))) else
  ((M_setFraction (su s4.1 13 0 (ix (gi s4.1 5 0 (ix s4.2))) i) (gi s4.1 5 0 (ix s4.2)) ((gl s4.1 11 0 (ix (gi s4.1 4 0 (ix s4.2)))) * ((gi s4.1 6 0 (ix s4.2)).toInt64)) ((gl s4.1 12 0 (ix (gi s4.1 4 0 (ix s4.2)))) * ((gi s4.1 7 0 (ix s4.2)).toInt64))).bind (fun b3 => 
  (if (gi b3 13 0 (ix (gi s4.1 5 0 (ix s4.2)))) = i then
  (if 0 ≤ (gi b3 13 0 (ix (gi s4.1 4 0 (ix s4.2)))) then
  (some (.inl ((b3, s4.2 + 1)))) else
  ((M_setFraction (su b3 13 0 (ix (gi s4.1 4 0 (ix s4.2))) i) (gi s4.1 4 0 (ix s4.2)) ((gl b3 11 0 (ix (gi s4.1 5 0 (ix s4.2)))) * ((gi b3 7 0 (ix s4.2)).toInt64)) ((gl b3 12 0 (ix (gi s4.1 5 0 (ix s4.2)))) * ((gi b3 6 0 (ix s4.2)).toInt64))).bind (fun b4 => 
  (some (.inl ((b4, s4.2 + 1))))))) else
  (some (.inl ((b3, s4.2 + 1)))))))) else none) else
  (if inb (gi s4.1 5 0 (ix s4.2)) 8 then 
  (if (gi s4.1 13 0 (ix (gi s4.1 5 0 (ix s4.2)))) = i then
  (if 0 ≤ (gi s4.1 13 0 (ix (gi s4.1 4 0 (ix s4.2)))) then
  (some (.inl ((s4.1, s4.2 + 1)))) else
  ((M_setFraction (su s4.1 13 0 (ix (gi s4.1 4 0 (ix s4.2))) i) (gi s4.1 4 0 (ix s4.2)) ((gl s4.1 11 0 (ix (gi s4.1 5 0 (ix s4.2)))) * ((gi s4.1 7 0 (ix s4.2)).toInt64)) ((gl s4.1 12 0 (ix (gi s4.1 5 0 (ix s4.2)))) * ((gi s4.1 6 0 (ix s4.2)).toInt64))).bind (fun b1 => 
  (some (.inl ((b1, s4.2 + 1))))))) else
  (some (.inl ((s4.1, s4.2 + 1))))) else none)) else none) else none)
/-- all that is known in the middle of part i -/
def BQ (g : GD) (n i : Nat) (Q T L : Nat → Nat) (ρ0 ρ : ST) : Prop := FrQ ρ0 ρ ∧ BI g n Q T L ∧ PM g i Q ∧ DN g n i Q ∧ Q i = i ∧ LM Q ρ ∧ FM Q T L ρ
theorem BQ.more (hw : WG g) (hn : n ≤ ne g) {i : Nat} (hi : i < 8) {ρ0 ρ : ST} (h : BQ g n i Q T L ρ0 ρ) {t x p q : Nat} (ht : t < 8) (hx : x < 8) (h8 : Q t = 8) (hxi : Q x = i) (tt1 : th g t = 1) (hp : 1 ≤ p ∧ p ≤ 6) (hq : 1 ≤ q ∧ q ≤ 6) (hφ : ∀ φ : Nat → Nat, (∀ e, e < n → φ (fr g e) = φ (tt g e)) → φ t = φ x) (hS : ∀ S : Nat → Nat, (∀ e, e < n → rin g e * S (fr g e) = rout g e * S (tt g e)) → p * S x = q * S t) : ∃ ρ' T' L', M_setFraction (su ρ 13 0 t (nI i)) (nI t) (gl ρ 11 0 x * (nI p).toInt64) (gl ρ 12 0 x * (nI q).toInt64) = some ρ' ∧ BQ g n i (up Q t i) T' L' ρ0 ρ' := by
  obtain ⟨f1, f2, f3, f4, f5, f6, f7⟩ := h
  obtain ⟨-, x2⟩ := f2 x hx
  obtain ⟨x1, x2, x3, x4, x5, x6, x7, x8, -⟩ := x2 (by omega)
  have x7 := p68 x7
  have x8 := p68 x8
  obtain ⟨g1, g2⟩ := f7 x hx (by omega)
  have a2 : T x * p ≤ T x * 6 := Nat.mul_le_mul_left _ hp.2
  have a3 : L x * q ≤ L x * 6 := Nat.mul_le_mul_left _ hq.2
  have hit : ¬ i = t := fun e => by rw [← e] at h8; omega
  rw [g1, g2, nI_l (by omega), nI_l (by omega), lN_mul, lN_mul, M_sf_eq ht (Nat.mul_pos (by omega) (by omega)) (by omega) (by omega)]
  refine ⟨_, _, _, rfl, fun K a k hK => ?_, f2.more ht hx hi h8 hxi tt1 ?_ hp hq hφ hS rfl, PM.lab hi f3, f4.lab hi h8, by rw [up_ne hit]; exact f5, fun a ha => ?_, fun a ha => ?_⟩
  · rw [gi_sl, gi_sl, gi_K hK]; exact f1 K a k hK
  · apply Classical.byContradiction
    intro hlt
    have := f3 t (by omega) ht tt1
    omega
  · rw [gi_sl, gi_sl]
    by_cases e : a = t
    · subst e
      rw [gi_same, up_same]
      unfold qI
      rw [if_pos hi]
    · rw [gi_k e, up_ne e]; exact f6 a ha
  · by_cases e : a = t
    · subst e
      rw [up_same, up_same, up_same, gl_same, gl_K (by decide), gl_same]
      exact fun _ => ⟨rfl, rfl⟩
    · rw [up_ne e, up_ne e, up_ne e, gl_k e, gl_k e, gl_k e, gl_k e, gl_su, gl_su]
      exact f7 a ha
theorem M_eb (hw : WG g) (hn : n ≤ ne g) {ρ0 ρ : ST} (hm : GM g pm ρ0) {i e : Nat} (hi : i < 8) (he : e < n) (h : BQ g n i Q T L ρ0 ρ) : (eb (nI i) (nI n) (ρ, nI e) = some (.inl (ρ, nI (e + 1))) ∧ OK g i Q e) ∨ ∃ ρ' t T' L', t < 8 ∧ Q t = 8 ∧ ¬ OK g i Q e ∧ eb (nI i) (nI n) (ρ, nI e) = some (.inl (ρ', nI (e + 1))) ∧ BQ g n i (up Q t i) T' L' ρ0 ρ' := by
  have h12 := hw.1
  have hm1 := hm.fq h.1
  obtain ⟨m1, m2, m3, m4, -⟩ := hm1.2.2 e (by omega)
  obtain ⟨w1, w2, w3, w4, w5, w6, w7, w8, -⟩ := hw.2.2 e (by omega)
  have l1 := h.2.2.2.2.2.1 _ w1
  have l2 := h.2.2.2.2.2.1 _ w2
  have b1 := (h.2.1 _ w1).1
  have b2 := (h.2.1 _ w2).1
  unfold eb
  dsimp only
  rw [if_neg (by rw [n_le (by omega) (by omega)]; omega), if_pos (nb (by omega) (by decide)), nx (by omega), m1, m2, m3, m4, nx (by omega), nx (by omega), if_pos (nb w1 (by decide)), if_pos (nb w2 (by decide)), if_pos (nb w2 (by decide)), l1, l2, n_add1]
  by_cases hf : Q (fr g e) = i
  · rw [if_pos (by rw [q_eq hi]; exact hf)]
    by_cases ht : Q (tt g e) < 8
    · left
      rw [if_pos (show 0 ≤ qI (Q (tt g e)) by rw [q_nn]; exact ht)]
      refine ⟨?_, fun q => by omega, fun q => by omega⟩
      by_cases ht2 : Q (tt g e) = i
      · rw [if_pos (by rw [q_eq hi]; exact ht2), if_pos (by rw [q_nn]; omega)]
      · rw [if_neg (by rw [q_eq hi]; exact ht2)]
    · right
      rw [if_neg (show ¬ 0 ≤ qI (Q (tt g e)) by rw [q_nn]; exact ht)]
      obtain ⟨ρ', T', L', z1, z2⟩ := h.more hw hn hi (t := tt g e) (x := fr g e) (p := rin g e) (q := rout g e) w2 w1 (by omega) hf w4 ⟨w5, w6⟩ ⟨w7, w8⟩ (fun φ f => (f e he).symm) (fun S f => f e he)
      rw [z1]
      simp only [Option.bind_some]
      have l3 := z2.2.2.2.2.2.1 _ w2
      have l4 := z2.2.2.2.2.2.1 _ w1
      rw [l3, l4, up_same, up_ne (show ¬ fr g e = tt g e from fun q => by rw [q] at hf; omega), hf, if_pos (by rw [q_eq hi]), if_pos (by rw [q_nn]; exact hi)]
      exact ⟨ρ', tt g e, T', L', w2, by omega, fun q => q.1 ⟨hf, by omega⟩, rfl, z2⟩
  · rw [if_neg (by rw [q_eq hi]; exact hf)]
    by_cases ht : Q (tt g e) = i
    · rw [if_pos (by rw [q_eq hi]; exact ht)]
      by_cases hf2 : Q (fr g e) < 8
      · left
        rw [if_pos (by rw [q_nn]; exact hf2)]
        exact ⟨rfl, fun q => by omega, fun q => by omega⟩
      · right
        rw [if_neg (by rw [q_nn]; exact hf2)]
        obtain ⟨ρ', T', L', z1, z2⟩ := h.more hw hn hi (t := fr g e) (x := tt g e) (p := rout g e) (q := rin g e) w1 w2 (by omega) ht w3 ⟨w7, w8⟩ ⟨w5, w6⟩ (fun φ f => f e he) (fun S f => (f e he).symm)
        rw [z1]
        exact ⟨ρ', fr g e, T', L', w1, by omega, fun q => q.2 ⟨ht, by omega⟩, rfl, z2⟩
    · left
      rw [if_neg (by rw [q_eq hi]; exact ht)]
      exact ⟨rfl, fun q => by omega, fun q => by omega⟩
end BM
