/-! PURE: the schedule's invariant -/
def cno (o : Nat → Nat) (a : Nat) : Nat → Nat
  | 0 => 0
  | i + 1 => cno o a i + if o i = a then 1 else 0
def mkS (R o : Nat → Nat) (N : Nat) (pk : Nat → Nat) : GD := fun K i => if K = 0 then R i else if K = 1 then o i else if K = 2 then N else pk i
theorem cnt_mk (R o : Nat → Nat) (N : Nat) (pk : Nat → Nat) (a : Nat) : ∀ i, cnt (mkS R o N pk) a i = cno o a i
  | 0 => rfl
  | i + 1 => by
    show cnt (mkS R o N pk) a i + (if o i = a then 1 else 0) = cno o a i + (if o i = a then 1 else 0)
    rw [cnt_mk R o N pk a i]
theorem cno_up {o : Nat → Nat} {i v b : Nat} : ∀ j, j ≤ i → cno (up o i v) b j = cno o b j
  | 0, _ => rfl
  | j + 1, h => by
    show cno (up o i v) b j + (if up o i v j = b then 1 else 0) = cno o b j + (if o j = b then 1 else 0)
    rw [cno_up j (by omega), up_ne (by omega)]
theorem cno_last {o : Nat → Nat} {i v b : Nat} : cno (up o i v) b (i + 1) = cno o b i + if v = b then 1 else 0 := by
  show cno (up o i v) b i + (if up o i v i = b then 1 else 0) = _
  rw [cno_up i (Nat.le_refl _), up_same]
theorem sm_lt {f f' : Nat → Nat} {t : Nat} : ∀ n, (∀ a, a < n → f a ≤ f' a) → t < n → f t < f' t → sm f n < sm f' n := by
  intro n
  induction n with
  | zero => intro _ h; omega
  | succ n ih =>
    intro h ht hlt
    show sm f n + f n < sm f' n + f' n
    have h2 := h n (by omega)
    by_cases e : t = n
    · subst e
      have := sm_mono t (fun a ha => h a (by omega))
      omega
    · have := ih (fun a ha => h a (by omega)) (by omega) hlt
      omega
theorem sm_two {f : Nat → Nat} {s t : Nat} (hs : s < 8) (ht : t < 8) (hne : ¬ s = t) : f s + f t ≤ sm f 8 := by
  have h1 := sm_at (f := f) (f' := up f s 0) (t := s) 8 hs (fun a _ ha => up_ne ha)
  have h2 := sm_ge (f := up f s 0) (t := t) 8 ht
  rw [up_ne (fun h => hne h.symm)] at h2
  rw [up_same] at h1
  omega
theorem sm_zero : ∀ n, sm (fun _ => 0) n = 0
  | 0 => rfl
  | n + 1 => by show sm (fun _ => 0) n + 0 = 0; rw [sm_zero n]
theorem sm_cno {o : Nat → Nat} : ∀ i, (∀ j, j < i → o j < 8) → sm (fun a => cno o a i) 8 = i
  | 0, _ => sm_zero 8
  | i + 1, h => by
    have h1 := sm_cno i (fun j hj => h j (by omega))
    have h2 := sm_at (f := fun a => cno o a i) (f' := fun a => cno o a (i + 1)) (t := o i) 8 (h i (by omega)) (fun a _ ha => by
      show cno o a i + (if o i = a then 1 else 0) = cno o a i
      rw [if_neg (fun q => ha q.symm)]; rfl)
    have h3 : cno o (o i) (i + 1) = cno o (o i) i + 1 := by
      show cno o (o i) i + (if o i = o i then 1 else 0) = _
      rw [if_pos rfl]
    omega
/-- what the repetitions are good for -/
def HB (g : GD) (R : Nat → Nat) : Prop := (∀ e, e < ne g → rin g e * R (fr g e) = rout g e * R (tt g e)) ∧ sm R 8 ≤ 64 ∧ ∀ a, a < 8 → th g a = 1 → 1 ≤ R a
def SI (g : GD) (R : Nat → Nat) (i : Nat) (o fd on pk : Nat → Nat) : Prop :=
  (∀ a, a < 8 → fd a = cno o a i ∧ fd a ≤ R a) ∧ (∀ j, j < i → o j < 8 ∧ th g (o j) = 1) ∧
  (∀ e, e < ne g → on e + rout g e * cno o (tt g e) i = dl g e + rin g e * cno o (fr g e) i) ∧
  (∀ e j, e < ne g → j ≤ i → rout g e * cno o (tt g e) j ≤ dl g e + rin g e * cno o (fr g e) j ∧ dl g e + rin g e * cno o (fr g e) j - rout g e * cno o (tt g e) j ≤ 204) ∧
  (∀ e j, e < ne g → j < i → o j = tt g e → rout g e ≤ dl g e + rin g e * cno o (fr g e) j - rout g e * cno o (tt g e) j) ∧ ∀ e, e < ne g → pk e ≤ 600
section SI4
variable {g : GD} {R o fd on pk : Nat → Nat} {i : Nat}
theorem SI.zero (hw : WG g) : SI g R 0 o (fun _ => 0) (fun e => dl g e) (fun e => dl g e) := by
  refine ⟨fun a _ => ⟨rfl, Nat.zero_le _⟩, fun j h => by omega, fun e _ => rfl, fun e j he hj => ?_, fun e j _ h => by omega, fun e he => ?_⟩
  · have hj : j = 0 := by omega
    subst hj
    have := (hw.2.2 e he).2.2.2.2.2.2.2.2
    refine ⟨?_, ?_⟩
    · show rout g e * 0 ≤ _
      rw [Nat.mul_zero]; exact Nat.zero_le _
    · show dl g e + rin g e * 0 - rout g e * 0 ≤ 204
      rw [Nat.mul_zero, Nat.mul_zero]; omega
  · have := (hw.2.2 e he).2.2.2.2.2.2.2.2
    dsimp only
    omega
theorem HB.bound (hw : WG g) (hb : HB g R) {e n cf ct : Nat} (he : e < ne g) (hf : cf ≤ R (fr g e)) (hs : fr g e = tt g e → cf = ct) (h : n + rout g e * ct = dl g e + rin g e * cf) : n ≤ 204 := by
  obtain ⟨w1, w2, w3, w4, w5, w6, w7, w8, w9⟩ := hw.2.2 e he
  obtain ⟨b1, b2, b3⟩ := hb
  have b1 := b1 e he
  by_cases hft : fr g e = tt g e
  · have hc := hs hft
    rw [hft] at b1
    have := b3 _ w2 w4
    have hio : rin g e = rout g e := Nat.eq_of_mul_eq_mul_right (show 0 < R (tt g e) by omega) b1
    rw [hc, hio] at h
    omega
  · have h2 := sm_two (f := R) w1 w2 hft
    have m1 : rin g e * cf ≤ rin g e * R (fr g e) := Nat.mul_le_mul_left _ hf
    have m2 : rin g e * R (fr g e) ≤ 192 := by
      by_cases hle : R (fr g e) ≤ 32
      · exact Nat.le_trans (Nat.mul_le_mul w6 hle) (by omega)
      · rw [b1]
        exact Nat.le_trans (Nat.mul_le_mul w8 (show R (tt g e) ≤ 32 by omega)) (by omega)
    omega
theorem SI.step (hw : WG g) (hb : HB g R) (h : SI g R i o fd on pk) {a : Nat} (ha : a < 8) (hr : rdy g R fd on a) : SI g R (i + 1) (up o i a) (up fd a (fd a + 1)) (onN g on a) (mxN pk (onN g on a)) := by
  obtain ⟨s1, s2, s3, s4, s5, s6⟩ := h
  obtain ⟨r1, r2, r3⟩ := hr
  have n1 : ∀ b, b < 8 → up fd a (fd a + 1) b = cno (up o i a) b (i + 1) ∧ up fd a (fd a + 1) b ≤ R b := by
    intro b hb8
    obtain ⟨q1, q2⟩ := s1 b hb8
    rw [cno_last]
    by_cases hba : b = a
    · subst hba
      rw [up_same, if_pos rfl, q1]
      rw [q1] at r2
      exact ⟨rfl, r2⟩
    · rw [up_ne hba, if_neg (fun q => hba q.symm)]
      exact ⟨q1, q2⟩
  have n3 : ∀ e, e < ne g → onN g on a e + rout g e * cno (up o i a) (tt g e) (i + 1) = dl g e + rin g e * cno (up o i a) (fr g e) (i + 1) := by
    intro e he
    have q := s3 e he
    have r := r3 e he
    rw [cno_last, cno_last, Nat.mul_add, Nat.mul_add]
    generalize rin g e * cno o (fr g e) i = A at *
    generalize rout g e * cno o (tt g e) i = B at *
    unfold onN ctP ctT
    by_cases hf : fr g e = a
    · by_cases ht : tt g e = a
      · have r := r ht
        rw [if_pos hf, if_pos ht, if_pos hf.symm, if_pos ht.symm]
        omega
      · rw [if_pos hf, if_neg ht, if_pos hf.symm, if_neg (show ¬ a = tt g e from fun q => ht q.symm)]
        omega
    · by_cases ht : tt g e = a
      · have r := r ht
        rw [if_neg hf, if_pos ht, if_neg (show ¬ a = fr g e from fun q => hf q.symm), if_pos ht.symm]
        omega
      · rw [if_neg hf, if_neg ht, if_neg (show ¬ a = fr g e from fun q => hf q.symm), if_neg (show ¬ a = tt g e from fun q => ht q.symm)]
        omega
  have nb : ∀ e, e < ne g → onN g on a e ≤ 204 := by
    intro e he
    obtain ⟨w1, w2, -⟩ := hw.2.2 e he
    refine HB.bound hw hb he ?_ (fun q => ?_) (n3 e he)
    · rw [← (n1 _ w1).1]; exact (n1 _ w1).2
    · rw [q]
  refine ⟨n1, fun j hj => ?_, n3, fun e j he hj => ?_, fun e j he hj hoj => ?_, fun e he => ?_⟩
  · by_cases hji : j = i
    · subst hji
      rw [up_same]; exact ⟨ha, r1⟩
    · rw [up_ne hji]; exact s2 j (by omega)
  · by_cases hji : j = i + 1
    · subst hji
      have q1 := n3 e he
      have q2 := nb e he
      omega
    · rw [cno_up j (by omega), cno_up j (by omega)]
      exact s4 e j he (by omega)
  · rw [cno_up j (by omega), cno_up j (by omega)]
    by_cases hji : j = i
    · subst hji
      rw [up_same] at hoj
      have q1 := s3 e he
      have q2 := r3 e he hoj.symm
      omega
    · rw [up_ne hji] at hoj
      exact s5 e j he (by omega) hoj
  · have q1 := s6 e he
    have q2 := nb e he
    unfold mxN
    split <;> omega
theorem SI.kb (hw : WG g) (hb : HB g R) (h : SI g R i o fd on pk) : KB g R fd on := by
  refine ⟨fun a ha => ?_, fun e he => ?_⟩
  · have q := sm_ge (f := R) (t := a) 8 ha
    have q2 := (h.1 a ha).2
    have := hb.2.1
    omega
  · have q1 := h.2.2.1 e he
    have q2 := (h.2.2.2.1 e i he (by omega)).2
    omega
theorem SI.sum (h : SI g R i o fd on pk) : sm fd 8 = i := by
  have h1 := sm_cno (o := o) i (fun j hj => (h.2.1 j hj).1)
  have h2 : sm fd 8 = sm (fun a => cno o a i) 8 := sm_cg 8 (fun a ha => (h.1 a ha).1)
  rw [h2]
  exact h1
theorem SI.due (h : SI g R i o fd on pk) (hi : i < sm R 8) : ∃ a, a < 8 ∧ fd a < R a := by
  apply Classical.byContradiction
  intro hn
  have hs := h.sum
  have := sm_mono (f := R) (f' := fd) 8 (fun a ha => Nat.le_of_not_lt (fun q => hn ⟨a, ha, q⟩))
  omega
theorem SI.full (h : SI g R (sm R 8) o fd on pk) {a : Nat} (ha : a < 8) : fd a = R a := by
  apply Classical.byContradiction
  intro hn
  have hs := h.sum
  have := sm_lt (f := fd) (f' := R) (t := a) 8 (fun b hb => (h.1 b hb).2) ha (by have := (h.1 a ha).2; omega)
  omega
theorem SI.vs (hb : HB g R) (h : SI g R (sm R 8) o fd on pk) : VS g (mkS R o (sm R 8) pk) := by
  refine ⟨hb.2.1, h.2.1, fun a ha ta => ?_, hb.1, fun e j he hj hoj => ?_, fun e j he hj => ?_, fun e he => ?_⟩
  · rw [show ln (mkS R o (sm R 8) pk) = sm R 8 from rfl, cnt_mk, ← (h.1 a ha).1]
    exact h.full ha
  · unfold ont
    rw [cnt_mk, cnt_mk]
    exact h.2.2.2.2.1 e j he hj hoj
  · unfold ont
    rw [cnt_mk, cnt_mk]
    exact h.2.2.2.1 e j he hj
  · have := h.2.2.2.2.2 e he
    show pk e < 1000
    omega
end SI4
