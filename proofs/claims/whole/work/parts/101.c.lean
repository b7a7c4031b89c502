def C_countActors (σ : ST) : Option (Int32) :=
  (lp (fun s1 : Int32 × Int32 =>
  if 8 ≤ s1.2 then
  (some (.inr ((s1.1, s1.2)))) else
  (if inb s1.2 8 then 
  (if (gi σ 1 (ix s1.2) 0) = 0 then
  (some (.inl ((s1.1, s1.2 + 1)))) else
  (some (.inl ((s1.1 + 1, s1.2 + 1))))) else none)) 1000 ((0, 0))).bind (fun r1 : Int32 × Int32 =>
  some r1.1)
abbrev rm_C_countActors : Room := { frames := 0, cells := 0, slots := 0, locals := 0 }
set_option maxRecDepth 100000 in
set_option maxHeartbeats 4000000 in
theorem ac_C_countActors {l : Launch} {D : va_G} {cc : Nat → ClassId} {al : Nat → Nat → Nat} {σ : ST} {h0 h : AH}  {res : Int32}  (hG : SW dmC (cfC cc) al σ h0 h) (E : C_countActors σ = some res) : AC l D vwCl (tysOf cc) NN y_G_countActors (Cond.code y_G_countActors b_G_countActors 3 (some .int) :: TT) rm_C_countActors [.ref (al 0 0)] h (fun rv h' => rv = some (.int res) ∧ SW dmC (cfC cc) al σ h0 h') := by
  refine AC.of (by decide) rfl (Nat.le_of_ble_eq_true rfl) (fun X M hR hI => ?_)
  unfold C_countActors at E
  refine ax_lv (lv' := [(0, .ref (al 0 0))]) [0] rfl ?_
  refine ax_iconst (v := 0) M d_G_countActors_0 (by decide) ?_
  refine ax_istore_n (lv' := [(0, .ref (al 0 0)), (1, .int 0)]) M d_G_countActors_1 (by decide) [1, 0] rfl ?_
  refine ax_iconst (v := 0) M d_G_countActors_2 (by decide) ?_
  refine ax_istore_n (lv' := [(0, .ref (al 0 0)), (1, .int 0), (2, .int 0)]) M d_G_countActors_3 (by decide) [1, 2, 0] rfl ?_
  refine ax_lv (lv' := [(0, .ref (al 0 0)), (1, .int 0), (2, .int 0)]) [0, 1, 2] rfl ?_
  obtain ⟨r1, l1, E⟩ := ob_b E
  refine lp_walk (fun (s1 : Int32 × Int32) => ∀ h : AH, SW dmC (cfC cc) al σ h0 h → AW l D vwCl rm_C_countActors 3 X 0 0 h 4 [(0, .ref (al 0 0)), (1, .int s1.1), (2, .int s1.2)] []) (fun (r1 : Int32 × Int32) => ∀ h : AH, SW dmC (cfC cc) al σ h0 h → AW l D vwCl rm_C_countActors 3 X 0 0 h 31 [(0, .ref (al 0 0)), (1, .int r1.1), (2, .int r1.2)] []) ?_ _ _ _ l1 ?_ h hG
  · intro s1 y1 E K1 K2 h hG
    refine ax_iload_n M d_G_countActors_4 2 rfl ?_
    refine ax_bipush (v := 8) M d_G_countActors_5 (by decide) ?_
    refine ax_icmp_ge (tgt := 31) M d_G_countActors_7 (by decide) (fun c1 => ?_) (fun c1 => ?_)
    · have E := ob_t E c1
      obtain rfl := Option.some.inj E
      refine ax_lv (lv' := [(0, .ref (al 0 0)), (1, .int s1.1), (2, .int s1.2)]) [0, 1, 2] rfl ?_
      exact (K2 _ rfl) h hG
    · have E := ob_f E c1
      refine ax_aload_n M d_G_countActors_10 0 rfl ?_
      refine sw_get M hG 0 0 (by decide) in_G rfl rfl 0 (by decide) wd_152 rfl d_G_countActors_11 ?_
      refine ax_iload_n M d_G_countActors_14 2 rfl ?_
      obtain ⟨k1, E⟩ := ob_c E
      refine sw_aldq (g := fun e => e) M hG 4 0 (by decide) rfl 1 rfl rfl k1 d_G_countActors_15 ?_
      refine sw_getN M hG 1 (ix s1.2) (in_lt k1) in_A rfl rfl 0 (by decide) wd_75 rfl d_G_countActors_16 ?_
      refine ax_if_eq (tgt := 25) M d_G_countActors_19 (by decide) (fun c2 => ?_) (fun c2 => ?_)
      · have E := ob_t E c2
        refine ax_iinc (v := s1.2 + 1) (lv' := [(0, .ref (al 0 0)), (1, .int s1.1), (2, .int (s1.2 + 1))]) M d_G_countActors_25 2 rfl rfl (by decide) [1, 2, 0] rfl ?_
        refine ax_goto (tgt := 4) M d_G_countActors_28 (by decide) ?_
        obtain rfl := Option.some.inj E
        refine ax_lv (lv' := [(0, .ref (al 0 0)), (1, .int s1.1), (2, .int (s1.2 + 1))]) [0, 1, 2] rfl ?_
        exact K1 _ rfl h hG
      · have E := ob_f E c2
        refine ax_iinc (v := s1.1 + 1) (lv' := [(0, .ref (al 0 0)), (1, .int (s1.1 + 1)), (2, .int s1.2)]) M d_G_countActors_22 1 rfl rfl (by decide) [1, 0, 2] rfl ?_
        refine ax_iinc (v := s1.2 + 1) (lv' := [(0, .ref (al 0 0)), (1, .int (s1.1 + 1)), (2, .int (s1.2 + 1))]) M d_G_countActors_25 2 rfl rfl (by decide) [1, 2, 0] rfl ?_
        refine ax_goto (tgt := 4) M d_G_countActors_28 (by decide) ?_
        obtain rfl := Option.some.inj E
        refine ax_lv (lv' := [(0, .ref (al 0 0)), (1, .int (s1.1 + 1)), (2, .int (s1.2 + 1))]) [0, 1, 2] rfl ?_
        exact K1 _ rfl h hG
  · intro h hG
    refine ax_iload_n M d_G_countActors_31 1 rfl ?_
    obtain rfl := Option.some.inj E
    exact ax_iret M hR (by decide) (by decide) d_G_countActors_32 ⟨rfl, hG⟩
def C_makePartsOfOne (σ : ST) : Option (ST) :=
  (lp (fun s1 : ST × Int32 =>
  if 8 ≤ s1.2 then
  (some (.inr ((s1.1, s1.2)))) else
  (if inb s1.2 8 then 
  (some (.inl ((su (su s1.1 1 (ix s1.2) 3 s1.2) 1 (ix s1.2) 4 1, s1.2 + 1)))) else none)) 1000 ((σ, 0))).bind (fun r1 : ST × Int32 =>
  some r1.1)
abbrev rm_C_makePartsOfOne : Room := { frames := 0, cells := 0, slots := 0, locals := 0 }
set_option maxRecDepth 100000 in
set_option maxHeartbeats 4000000 in
theorem ac_C_makePartsOfOne {l : Launch} {D : va_G} {cc : Nat → ClassId} {al : Nat → Nat → Nat} {σ : ST} {h0 h : AH}  {res : ST}  (hG : SW dmC (cfC cc) al σ h0 h) (E : C_makePartsOfOne σ = some res) : AC l D vwCl (tysOf cc) NN y_G_makePartsOfOne (Cond.code y_G_makePartsOfOne b_G_makePartsOfOne 2 none :: TT) rm_C_makePartsOfOne [.ref (al 0 0)] h (fun rv h' => rv = none ∧ SW dmC (cfC cc) al res h0 h') := by
  refine AC.of (by decide) rfl (Nat.le_of_ble_eq_true rfl) (fun X M hR hI => ?_)
  unfold C_makePartsOfOne at E
  refine ax_lv (lv' := [(0, .ref (al 0 0))]) [0] rfl ?_
  refine ax_iconst (v := 0) M d_G_makePartsOfOne_0 (by decide) ?_
  refine ax_istore_n (lv' := [(0, .ref (al 0 0)), (1, .int 0)]) M d_G_makePartsOfOne_1 (by decide) [1, 0] rfl ?_
  refine ax_lv (lv' := [(0, .ref (al 0 0)), (1, .int 0)]) [0, 1] rfl ?_
  obtain ⟨r1, l1, E⟩ := ob_b E
  refine lp_walk (fun (s1 : ST × Int32) => ∀ h : AH, SW dmC (cfC cc) al s1.1 h0 h → AW l D vwCl rm_C_makePartsOfOne 2 X 0 0 h 2 [(0, .ref (al 0 0)), (1, .int s1.2)] []) (fun (r1 : ST × Int32) => ∀ h : AH, SW dmC (cfC cc) al r1.1 h0 h → AW l D vwCl rm_C_makePartsOfOne 2 X 0 0 h 34 [(0, .ref (al 0 0)), (1, .int r1.2)] []) ?_ _ _ _ l1 ?_ h hG
  · intro s1 y1 E K1 K2 h hG
    refine ax_iload_n M d_G_makePartsOfOne_2 1 rfl ?_
    refine ax_bipush (v := 8) M d_G_makePartsOfOne_3 (by decide) ?_
    refine ax_icmp_ge (tgt := 34) M d_G_makePartsOfOne_5 (by decide) (fun c1 => ?_) (fun c1 => ?_)
    · have E := ob_t E c1
      obtain rfl := Option.some.inj E
      refine ax_lv (lv' := [(0, .ref (al 0 0)), (1, .int s1.2)]) [0, 1] rfl ?_
      exact (K2 _ rfl) h hG
    · have E := ob_f E c1
      refine ax_aload_n M d_G_makePartsOfOne_8 0 rfl ?_
      refine sw_get M hG 0 0 (by decide) in_G rfl rfl 0 (by decide) wd_152 rfl d_G_makePartsOfOne_9 ?_
      refine ax_iload_n M d_G_makePartsOfOne_12 1 rfl ?_
      obtain ⟨k1, E⟩ := ob_c E
      refine sw_aldq (g := fun e => e) M hG 4 0 (by decide) rfl 1 rfl rfl k1 d_G_makePartsOfOne_13 ?_
      refine ax_iload_n M d_G_makePartsOfOne_14 1 rfl ?_
      refine sw_putN M hG 1 (ix s1.2) (in_lt k1) in_A t_A tok_A nok_A rfl rfl 3 (by decide) wd_81 rfl rfl rfl (Nat.le_of_ble_eq_true rfl) rfl d_G_makePartsOfOne_15 (fun h hG => ?_)
      refine ax_aload_n M d_G_makePartsOfOne_18 0 rfl ?_
      refine sw_get M hG 0 0 (by decide) in_G rfl rfl 0 (by decide) wd_152 rfl d_G_makePartsOfOne_19 ?_
      refine ax_iload_n M d_G_makePartsOfOne_22 1 rfl ?_
      refine sw_aldq (g := fun e => e) M hG 4 0 (by decide) rfl 1 rfl rfl k1 d_G_makePartsOfOne_23 ?_
      refine ax_iconst (v := 1) M d_G_makePartsOfOne_24 (by decide) ?_
      refine sw_putN M hG 1 (ix s1.2) (in_lt k1) in_A t_A tok_A nok_A rfl rfl 4 (by decide) wd_82 rfl rfl rfl (Nat.le_of_ble_eq_true rfl) rfl d_G_makePartsOfOne_25 (fun h hG => ?_)
      refine ax_iinc (v := s1.2 + 1) (lv' := [(0, .ref (al 0 0)), (1, .int (s1.2 + 1))]) M d_G_makePartsOfOne_28 1 rfl rfl (by decide) [1, 0] rfl ?_
      refine ax_goto (tgt := 2) M d_G_makePartsOfOne_31 (by decide) ?_
      obtain rfl := Option.some.inj E
      refine ax_lv (lv' := [(0, .ref (al 0 0)), (1, .int (s1.2 + 1))]) [0, 1] rfl ?_
      exact K1 _ rfl h hG
  · intro h hG
    obtain rfl := Option.some.inj E
    exact ax_vret M hR (by decide) (by decide) d_G_makePartsOfOne_34 ⟨rfl, hG⟩
def C_greatestDivisor (x0 : Int32) (x1 : Int32) : Option (Int32) :=
  (lp (fun s1 : Int32 × Int32 × Int32 =>
  if 64 ≤ s1.2.2 then
  (some (.inr ((s1.1, s1.2.1, s1.2.2)))) else
  (if s1.2.1 = 0 then
  (some (.inr ((s1.1, s1.2.1, s1.2.2)))) else
  (some (.inl ((s1.2.1, s1.1 - s1.1 / s1.2.1 * s1.2.1, s1.2.2 + 1)))))) 1000 ((x0, x1, 0))).bind (fun r1 : Int32 × Int32 × Int32 =>
  some (if r1.1 < 1 then 1 else r1.1))
abbrev rm_C_greatestDivisor : Room := { frames := 1, cells := 0, slots := 0, locals := 21 }
set_option maxRecDepth 100000 in
set_option maxHeartbeats 4000000 in
theorem ac_C_greatestDivisor {l : Launch} {D : va_G} {cc : Nat → ClassId} {al : Nat → Nat → Nat} {σ : ST} {h0 h : AH} {x0 : Int32} {x1 : Int32} {res : Int32}  (hG : SW dmC (cfC cc) al σ h0 h) (E : C_greatestDivisor x0 x1 = some res) : AC l D vwCl (tysOf cc) NN y_G_greatestDivisor (Cond.code y_G_greatestDivisor b_G_greatestDivisor 6 (some .int) :: TT) rm_C_greatestDivisor [.int x0, .int x1] h (fun rv h' => rv = some (.int res) ∧ SW dmC (cfC cc) al σ h0 h') := by
  refine AC.of (by decide) rfl (Nat.le_of_ble_eq_true rfl) (fun X M hR hI => ?_)
  unfold C_greatestDivisor at E
  refine ax_lv (lv' := [(0, .int x0), (1, .int x1)]) [0, 1] rfl ?_
  refine ax_iload_n M d_G_greatestDivisor_0 0 rfl ?_
  refine ax_istore_n (lv' := [(1, .int x1), (2, .int x0)]) M d_G_greatestDivisor_1 (by decide) [2, 0] rfl ?_
  refine ax_iload_n M d_G_greatestDivisor_2 0 rfl ?_
  refine ax_istore_n (lv' := [(2, .int x0), (3, .int x1)]) M d_G_greatestDivisor_3 (by decide) [2, 0] rfl ?_
  refine ax_iconst (v := 0) M d_G_greatestDivisor_4 (by decide) ?_
  refine ax_istore (lv' := [(2, .int x0), (3, .int x1), (4, .int 0)]) M d_G_greatestDivisor_5 (by decide) [1, 2, 0] rfl ?_
  refine ax_lv (lv' := [(2, .int x0), (3, .int x1), (4, .int 0)]) [0, 1, 2] rfl ?_
  obtain ⟨r1, l1, E⟩ := ob_b E
  refine lp_walk (fun (s1 : Int32 × Int32 × Int32) => ∀ h : AH, SW dmC (cfC cc) al σ h0 h → AW l D vwCl rm_C_greatestDivisor 6 X 0 0 h 7 [(2, .int s1.1), (3, .int s1.2.1), (4, .int s1.2.2)] []) (fun (r1 : Int32 × Int32 × Int32) => ∀ h : AH, SW dmC (cfC cc) al σ h0 h → AW l D vwCl rm_C_greatestDivisor 6 X 0 0 h 34 [(2, .int r1.1), (3, .int r1.2.1), (4, .int r1.2.2)] []) ?_ _ _ _ l1 ?_ h hG
  · intro s1 y1 E K1 K2 h hG
    refine ax_iload M d_G_greatestDivisor_7 2 rfl ?_
    refine ax_bipush (v := 64) M d_G_greatestDivisor_9 (by decide) ?_
    refine ax_icmp_ge (tgt := 34) M d_G_greatestDivisor_11 (by decide) (fun c1 => ?_) (fun c1 => ?_)
    · have E := ob_t E c1
      obtain rfl := Option.some.inj E
      refine ax_lv (lv' := [(2, .int s1.1), (3, .int s1.2.1), (4, .int s1.2.2)]) [0, 1, 2] rfl ?_
      exact (K2 _ rfl) h hG
    · have E := ob_f E c1
      refine ax_iload_n M d_G_greatestDivisor_14 1 rfl ?_
      refine ax_if_eq (tgt := 34) M d_G_greatestDivisor_15 (by decide) (fun c2 => ?_) (fun c2 => ?_)
      · have E := ob_t E c2
        obtain rfl := Option.some.inj E
        refine ax_lv (lv' := [(2, .int s1.1), (3, .int s1.2.1), (4, .int s1.2.2)]) [0, 1, 2] rfl ?_
        exact (K2 _ rfl) h hG
      · have E := ob_f E c2
        refine ax_iload_n M d_G_greatestDivisor_18 0 rfl ?_
        refine ax_iload_n M d_G_greatestDivisor_19 1 rfl ?_
        refine ax_irem M d_G_greatestDivisor_20 c2 ?_
        refine ax_istore (lv' := [(3, .int s1.2.1), (4, .int s1.2.2), (5, .int (s1.1 - s1.1 / s1.2.1 * s1.2.1))]) M d_G_greatestDivisor_21 (by decide) [2, 3, 0] rfl ?_
        refine ax_iload_n M d_G_greatestDivisor_23 0 rfl ?_
        refine ax_istore_n (lv' := [(2, .int s1.2.1), (4, .int s1.2.2), (5, .int (s1.1 - s1.1 / s1.2.1 * s1.2.1))]) M d_G_greatestDivisor_24 (by decide) [0, 2, 3] rfl ?_
        refine ax_iload M d_G_greatestDivisor_25 2 rfl ?_
        refine ax_istore_n (lv' := [(2, .int s1.2.1), (3, .int (s1.1 - s1.1 / s1.2.1 * s1.2.1)), (4, .int s1.2.2)]) M d_G_greatestDivisor_27 (by decide) [1, 0, 2] rfl ?_
        refine ax_iinc (v := s1.2.2 + 1) (lv' := [(2, .int s1.2.1), (3, .int (s1.1 - s1.1 / s1.2.1 * s1.2.1)), (4, .int (s1.2.2 + 1))]) M d_G_greatestDivisor_28 2 rfl rfl (by decide) [1, 2, 0] rfl ?_
        refine ax_goto (tgt := 7) M d_G_greatestDivisor_31 (by decide) ?_
        obtain rfl := Option.some.inj E
        refine ax_lv (lv' := [(2, .int s1.2.1), (3, .int (s1.1 - s1.1 / s1.2.1 * s1.2.1)), (4, .int (s1.2.2 + 1))]) [0, 1, 2] rfl ?_
        exact K1 _ rfl h hG
  · intro h hG
    refine ax_iload_n M d_G_greatestDivisor_34 0 rfl ?_
    refine ax_iconst (v := 1) M d_G_greatestDivisor_35 (by decide) ?_
    refine ax_mmax M lm_G_141 (by decide) (Nat.le_of_ble_eq_true rfl) (by decide) (by decide) d_G_greatestDivisor_36 ?_
    obtain rfl := Option.some.inj E
    exact ax_iret M hR (by decide) (by decide) d_G_greatestDivisor_39 ⟨rfl, hG⟩
def C_scalePart (σ : ST) (x1 : Int32) (x2 : Int32) : Option (ST) :=
  (lp (fun s1 : ST × Int32 =>
  if 8 ≤ s1.2 then
  (some (.inr ((s1.1, s1.2)))) else
  (if inb s1.2 8 then 
  (if (gi s1.1 1 (ix s1.2) 3) = x1 then
  (some (.inl ((su s1.1 1 (ix s1.2) 4 ((gi s1.1 1 (ix s1.2) 4) * x2), s1.2 + 1)))) else
  (some (.inl ((s1.1, s1.2 + 1))))) else none)) 1000 ((σ, 0))).bind (fun r1 : ST × Int32 =>
  some r1.1)
abbrev rm_C_scalePart : Room := { frames := 0, cells := 0, slots := 0, locals := 0 }
set_option maxRecDepth 100000 in
set_option maxHeartbeats 4000000 in
theorem ac_C_scalePart {l : Launch} {D : va_G} {cc : Nat → ClassId} {al : Nat → Nat → Nat} {σ : ST} {h0 h : AH} {x1 : Int32} {x2 : Int32} {res : ST}  (hG : SW dmC (cfC cc) al σ h0 h) (E : C_scalePart σ x1 x2 = some res) : AC l D vwCl (tysOf cc) NN y_G_scalePart (Cond.code y_G_scalePart b_G_scalePart 4 none :: TT) rm_C_scalePart [.ref (al 0 0), .int x1, .int x2] h (fun rv h' => rv = none ∧ SW dmC (cfC cc) al res h0 h') := by
  refine AC.of (by decide) rfl (Nat.le_of_ble_eq_true rfl) (fun X M hR hI => ?_)
  unfold C_scalePart at E
  refine ax_lv (lv' := [(0, .ref (al 0 0)), (1, .int x1), (2, .int x2)]) [0, 1, 2] rfl ?_
  refine ax_iconst (v := 0) M d_G_scalePart_0 (by decide) ?_
  refine ax_istore_n (lv' := [(0, .ref (al 0 0)), (1, .int x1), (2, .int x2), (3, .int 0)]) M d_G_scalePart_1 (by decide) [1, 2, 3, 0] rfl ?_
  refine ax_lv (lv' := [(0, .ref (al 0 0)), (1, .int x1), (2, .int x2), (3, .int 0)]) [0, 1, 2, 3] rfl ?_
  obtain ⟨r1, l1, E⟩ := ob_b E
  refine lp_walk (fun (s1 : ST × Int32) => ∀ h : AH, SW dmC (cfC cc) al s1.1 h0 h → AW l D vwCl rm_C_scalePart 4 X 0 0 h 2 [(0, .ref (al 0 0)), (1, .int x1), (2, .int x2), (3, .int s1.2)] []) (fun (r1 : ST × Int32) => ∀ h : AH, SW dmC (cfC cc) al r1.1 h0 h → AW l D vwCl rm_C_scalePart 4 X 0 0 h 42 [(0, .ref (al 0 0)), (1, .int x1), (2, .int x2), (3, .int r1.2)] []) ?_ _ _ _ l1 ?_ h hG
  · intro s1 y1 E K1 K2 h hG
    refine ax_iload_n M d_G_scalePart_2 3 rfl ?_
    refine ax_bipush (v := 8) M d_G_scalePart_3 (by decide) ?_
    refine ax_icmp_ge (tgt := 42) M d_G_scalePart_5 (by decide) (fun c1 => ?_) (fun c1 => ?_)
    · have E := ob_t E c1
      obtain rfl := Option.some.inj E
      refine ax_lv (lv' := [(0, .ref (al 0 0)), (1, .int x1), (2, .int x2), (3, .int s1.2)]) [0, 1, 2, 3] rfl ?_
      exact (K2 _ rfl) h hG
    · have E := ob_f E c1
      refine ax_aload_n M d_G_scalePart_8 0 rfl ?_
      refine sw_get M hG 0 0 (by decide) in_G rfl rfl 0 (by decide) wd_152 rfl d_G_scalePart_9 ?_
      refine ax_iload_n M d_G_scalePart_12 3 rfl ?_
      obtain ⟨k1, E⟩ := ob_c E
      refine sw_aldq (g := fun e => e) M hG 4 0 (by decide) rfl 1 rfl rfl k1 d_G_scalePart_13 ?_
      refine sw_getN M hG 1 (ix s1.2) (in_lt k1) in_A rfl rfl 3 (by decide) wd_81 rfl d_G_scalePart_14 ?_
      refine ax_iload_n M d_G_scalePart_17 1 rfl ?_
      refine ax_icmp_ne (tgt := 36) M d_G_scalePart_18 (by decide) (fun c2 => ?_) (fun c2 => ?_)
      · have E := ob_f E c2
        refine ax_iinc (v := s1.2 + 1) (lv' := [(0, .ref (al 0 0)), (1, .int x1), (2, .int x2), (3, .int (s1.2 + 1))]) M d_G_scalePart_36 3 rfl rfl (by decide) [1, 2, 3, 0] rfl ?_
        refine ax_goto (tgt := 2) M d_G_scalePart_39 (by decide) ?_
        obtain rfl := Option.some.inj E
        refine ax_lv (lv' := [(0, .ref (al 0 0)), (1, .int x1), (2, .int x2), (3, .int (s1.2 + 1))]) [0, 1, 2, 3] rfl ?_
        exact K1 _ rfl h hG
      · have E := ob_t E c2
        refine ax_aload_n M d_G_scalePart_21 0 rfl ?_
        refine sw_get M hG 0 0 (by decide) in_G rfl rfl 0 (by decide) wd_152 rfl d_G_scalePart_22 ?_
        refine ax_iload_n M d_G_scalePart_25 3 rfl ?_
        refine sw_aldq (g := fun e => e) M hG 4 0 (by decide) rfl 1 rfl rfl k1 d_G_scalePart_26 ?_
        refine ax_dup M d_G_scalePart_27 rfl ?_
        refine sw_getN M hG 1 (ix s1.2) (in_lt k1) in_A rfl rfl 4 (by decide) wd_82 rfl d_G_scalePart_28 ?_
        refine ax_iload_n M d_G_scalePart_31 2 rfl ?_
        refine ax_imul M d_G_scalePart_32 ?_
        refine sw_putN M hG 1 (ix s1.2) (in_lt k1) in_A t_A tok_A nok_A rfl rfl 4 (by decide) wd_82 rfl rfl rfl (Nat.le_of_ble_eq_true rfl) rfl d_G_scalePart_33 (fun h hG => ?_)
        refine ax_iinc (v := s1.2 + 1) (lv' := [(0, .ref (al 0 0)), (1, .int x1), (2, .int x2), (3, .int (s1.2 + 1))]) M d_G_scalePart_36 3 rfl rfl (by decide) [1, 2, 3, 0] rfl ?_
        refine ax_goto (tgt := 2) M d_G_scalePart_39 (by decide) ?_
        obtain rfl := Option.some.inj E
        refine ax_lv (lv' := [(0, .ref (al 0 0)), (1, .int x1), (2, .int x2), (3, .int (s1.2 + 1))]) [0, 1, 2, 3] rfl ?_
        exact K1 _ rfl h hG
  · intro h hG
    obtain rfl := Option.some.inj E
    exact ax_vret M hR (by decide) (by decide) d_G_scalePart_42 ⟨rfl, hG⟩
def C_joinParts (σ : ST) (x1 : Int32) (x2 : Int32) : Option (ST) :=
  (lp (fun s1 : ST × Int32 =>
  if 8 ≤ s1.2 then
  (some (.inr ((s1.1, s1.2)))) else
  (if inb s1.2 8 then 
  (if (gi s1.1 1 (ix s1.2) 3) = x2 then
  (some (.inl ((su s1.1 1 (ix s1.2) 3 x1, s1.2 + 1)))) else
  (some (.inl ((s1.1, s1.2 + 1))))) else none)) 1000 ((σ, 0))).bind (fun r1 : ST × Int32 =>
  some r1.1)
abbrev rm_C_joinParts : Room := { frames := 0, cells := 0, slots := 0, locals := 0 }
set_option maxRecDepth 100000 in
set_option maxHeartbeats 4000000 in
theorem ac_C_joinParts {l : Launch} {D : va_G} {cc : Nat → ClassId} {al : Nat → Nat → Nat} {σ : ST} {h0 h : AH} {x1 : Int32} {x2 : Int32} {res : ST}  (hG : SW dmC (cfC cc) al σ h0 h) (E : C_joinParts σ x1 x2 = some res) : AC l D vwCl (tysOf cc) NN y_G_joinParts (Cond.code y_G_joinParts b_G_joinParts 4 none :: TT) rm_C_joinParts [.ref (al 0 0), .int x1, .int x2] h (fun rv h' => rv = none ∧ SW dmC (cfC cc) al res h0 h') := by
  refine AC.of (by decide) rfl (Nat.le_of_ble_eq_true rfl) (fun X M hR hI => ?_)
  unfold C_joinParts at E
  refine ax_lv (lv' := [(0, .ref (al 0 0)), (1, .int x1), (2, .int x2)]) [0, 1, 2] rfl ?_
  refine ax_iconst (v := 0) M d_G_joinParts_0 (by decide) ?_
  refine ax_istore_n (lv' := [(0, .ref (al 0 0)), (1, .int x1), (2, .int x2), (3, .int 0)]) M d_G_joinParts_1 (by decide) [1, 2, 3, 0] rfl ?_
  refine ax_lv (lv' := [(0, .ref (al 0 0)), (1, .int x1), (2, .int x2), (3, .int 0)]) [0, 1, 2, 3] rfl ?_
  obtain ⟨r1, l1, E⟩ := ob_b E
  refine lp_walk (fun (s1 : ST × Int32) => ∀ h : AH, SW dmC (cfC cc) al s1.1 h0 h → AW l D vwCl rm_C_joinParts 4 X 0 0 h 2 [(0, .ref (al 0 0)), (1, .int x1), (2, .int x2), (3, .int s1.2)] []) (fun (r1 : ST × Int32) => ∀ h : AH, SW dmC (cfC cc) al r1.1 h0 h → AW l D vwCl rm_C_joinParts 4 X 0 0 h 37 [(0, .ref (al 0 0)), (1, .int x1), (2, .int x2), (3, .int r1.2)] []) ?_ _ _ _ l1 ?_ h hG
  · intro s1 y1 E K1 K2 h hG
    refine ax_iload_n M d_G_joinParts_2 3 rfl ?_
    refine ax_bipush (v := 8) M d_G_joinParts_3 (by decide) ?_
    refine ax_icmp_ge (tgt := 37) M d_G_joinParts_5 (by decide) (fun c1 => ?_) (fun c1 => ?_)
    · have E := ob_t E c1
      obtain rfl := Option.some.inj E
      refine ax_lv (lv' := [(0, .ref (al 0 0)), (1, .int x1), (2, .int x2), (3, .int s1.2)]) [0, 1, 2, 3] rfl ?_
      exact (K2 _ rfl) h hG
    · have E := ob_f E c1
      refine ax_aload_n M d_G_joinParts_8 0 rfl ?_
      refine sw_get M hG 0 0 (by decide) in_G rfl rfl 0 (by decide) wd_152 rfl d_G_joinParts_9 ?_
      refine ax_iload_n M d_G_joinParts_12 3 rfl ?_
      obtain ⟨k1, E⟩ := ob_c E
      refine sw_aldq (g := fun e => e) M hG 4 0 (by decide) rfl 1 rfl rfl k1 d_G_joinParts_13 ?_
      refine sw_getN M hG 1 (ix s1.2) (in_lt k1) in_A rfl rfl 3 (by decide) wd_81 rfl d_G_joinParts_14 ?_
      refine ax_iload_n M d_G_joinParts_17 2 rfl ?_
      refine ax_icmp_ne (tgt := 31) M d_G_joinParts_18 (by decide) (fun c2 => ?_) (fun c2 => ?_)
      · have E := ob_f E c2
        refine ax_iinc (v := s1.2 + 1) (lv' := [(0, .ref (al 0 0)), (1, .int x1), (2, .int x2), (3, .int (s1.2 + 1))]) M d_G_joinParts_31 3 rfl rfl (by decide) [1, 2, 3, 0] rfl ?_
        refine ax_goto (tgt := 2) M d_G_joinParts_34 (by decide) ?_
        obtain rfl := Option.some.inj E
        refine ax_lv (lv' := [(0, .ref (al 0 0)), (1, .int x1), (2, .int x2), (3, .int (s1.2 + 1))]) [0, 1, 2, 3] rfl ?_
        exact K1 _ rfl h hG
      · have E := ob_t E c2
        refine ax_aload_n M d_G_joinParts_21 0 rfl ?_
        refine sw_get M hG 0 0 (by decide) in_G rfl rfl 0 (by decide) wd_152 rfl d_G_joinParts_22 ?_
        refine ax_iload_n M d_G_joinParts_25 3 rfl ?_
        refine sw_aldq (g := fun e => e) M hG 4 0 (by decide) rfl 1 rfl rfl k1 d_G_joinParts_26 ?_
        refine ax_iload_n M d_G_joinParts_27 1 rfl ?_
        refine sw_putN M hG 1 (ix s1.2) (in_lt k1) in_A t_A tok_A nok_A rfl rfl 3 (by decide) wd_81 rfl rfl rfl (Nat.le_of_ble_eq_true rfl) rfl d_G_joinParts_28 (fun h hG => ?_)
        refine ax_iinc (v := s1.2 + 1) (lv' := [(0, .ref (al 0 0)), (1, .int x1), (2, .int x2), (3, .int (s1.2 + 1))]) M d_G_joinParts_31 3 rfl rfl (by decide) [1, 2, 3, 0] rfl ?_
        refine ax_goto (tgt := 2) M d_G_joinParts_34 (by decide) ?_
        obtain rfl := Option.some.inj E
        refine ax_lv (lv' := [(0, .ref (al 0 0)), (1, .int x1), (2, .int x2), (3, .int (s1.2 + 1))]) [0, 1, 2, 3] rfl ?_
        exact K1 _ rfl h hG
  · intro h hG
    obtain rfl := Option.some.inj E
    exact ax_vret M hR (by decide) (by decide) d_G_joinParts_37 ⟨rfl, hG⟩
def C_balance (σ : ST) (x1 : Nat) : Option (Int32 × ST) :=
  if inb (gi σ 2 x1 1) 8 then 
  (if inb (gi σ 2 x1 2) 8 then 
  (if (gi σ 1 (ix (gi σ 2 x1 1)) 3) = (gi σ 1 (ix (gi σ 2 x1 2)) 3) then
  (if ((gi σ 2 x1 3) * (gi σ 1 (ix (gi σ 2 x1 1)) 4)) = ((gi σ 2 x1 4) * (gi σ 1 (ix (gi σ 2 x1 2)) 4)) then
  (some ((1, σ))) else
  (some ((0, σ)))) else
  ((C_greatestDivisor ((gi σ 2 x1 3) * (gi σ 1 (ix (gi σ 2 x1 1)) 4)) ((gi σ 2 x1 4) * (gi σ 1 (ix (gi σ 2 x1 2)) 4))).bind (fun b1 => 
  (if ¬ b1 = 0 then 
  ((C_scalePart σ (gi σ 1 (ix (gi σ 2 x1 1)) 3) (((gi σ 2 x1 4) * (gi σ 1 (ix (gi σ 2 x1 2)) 4)) / b1)).bind (fun b2 => 
  ((C_scalePart b2 (gi b2 1 (ix (gi σ 2 x1 2)) 3) (((gi σ 2 x1 3) * (gi σ 1 (ix (gi σ 2 x1 1)) 4)) / b1)).bind (fun b3 => 
  ((C_joinParts b3 (gi b3 1 (ix (gi σ 2 x1 1)) 3) (gi b3 1 (ix (gi σ 2 x1 2)) 3)).bind (fun b4 => 
  (some ((1, b4))))))))) else none)))) else none) else none
abbrev rm_C_balance : Room := { frames := 2, cells := 0, slots := 0, locals := 46 }
set_option maxRecDepth 100000 in
set_option maxHeartbeats 4000000 in
theorem ac_C_balance {l : Launch} {D : va_G} {cc : Nat → ClassId} {al : Nat → Nat → Nat} {σ : ST} {h0 h : AH} {x1 : Nat} {res : Int32 × ST} (hx1 : x1 < 12) (hG : SW dmC (cfC cc) al σ h0 h) (E : C_balance σ x1 = some res) : AC l D vwCl (tysOf cc) NN y_G_balance (Cond.code y_G_balance b_G_balance 7 (some .boolean) :: TT) rm_C_balance [.ref (al 0 0), .ref (al 2 x1)] h (fun rv h' => rv = some (.int res.1) ∧ SW dmC (cfC cc) al res.2 h0 h') := by
  refine AC.of (by decide) rfl (Nat.le_of_ble_eq_true rfl) (fun X M hR hI => ?_)
  unfold C_balance at E
  refine ax_lv (lv' := [(0, .ref (al 0 0)), (1, .ref (al 2 x1))]) [0, 1] rfl ?_
  refine ax_aload_n M d_G_balance_0 0 rfl ?_
  refine sw_get M hG 0 0 (by decide) in_G rfl rfl 0 (by decide) wd_152 rfl d_G_balance_1 ?_
  refine ax_aload_n M d_G_balance_4 1 rfl ?_
  refine sw_getN M hG 2 x1 hx1 in_E rfl rfl 1 (by decide) wd_120 rfl d_G_balance_5 ?_
  obtain ⟨k1, E⟩ := ob_c E
  refine sw_aldq (g := fun e => e) M hG 4 0 (by decide) rfl 1 rfl rfl k1 d_G_balance_8 ?_
  refine ax_astore_n (lv' := [(0, .ref (al 0 0)), (1, .ref (al 2 x1)), (2, .ref (al 1 (ix (gi σ 2 x1 1))))]) M d_G_balance_9 (by decide) [1, 2, 0] rfl ?_
  refine ax_aload_n M d_G_balance_10 0 rfl ?_
  refine sw_get M hG 0 0 (by decide) in_G rfl rfl 0 (by decide) wd_152 rfl d_G_balance_11 ?_
  refine ax_aload_n M d_G_balance_14 1 rfl ?_
  refine sw_getN M hG 2 x1 hx1 in_E rfl rfl 2 (by decide) wd_122 rfl d_G_balance_15 ?_
  obtain ⟨k2, E⟩ := ob_c E
  refine sw_aldq (g := fun e => e) M hG 4 0 (by decide) rfl 1 rfl rfl k2 d_G_balance_18 ?_
  refine ax_astore_n (lv' := [(0, .ref (al 0 0)), (1, .ref (al 2 x1)), (2, .ref (al 1 (ix (gi σ 2 x1 1)))), (3, .ref (al 1 (ix (gi σ 2 x1 2))))]) M d_G_balance_19 (by decide) [1, 2, 3, 0] rfl ?_
  refine ax_aload_n M d_G_balance_20 1 rfl ?_
  refine sw_getN M hG 2 x1 hx1 in_E rfl rfl 3 (by decide) wd_123 rfl d_G_balance_21 ?_
  refine ax_aload_n M d_G_balance_24 2 rfl ?_
  refine sw_getN M hG 1 (ix (gi σ 2 x1 1)) (in_lt k1) in_A rfl rfl 4 (by decide) wd_82 rfl d_G_balance_25 ?_
  refine ax_imul M d_G_balance_28 ?_
  refine ax_istore (lv' := [(0, .ref (al 0 0)), (1, .ref (al 2 x1)), (2, .ref (al 1 (ix (gi σ 2 x1 1)))), (3, .ref (al 1 (ix (gi σ 2 x1 2)))), (4, .int ((gi σ 2 x1 3) * (gi σ 1 (ix (gi σ 2 x1 1)) 4)))]) M d_G_balance_29 (by decide) [1, 2, 3, 4, 0] rfl ?_
  refine ax_aload_n M d_G_balance_31 1 rfl ?_
  refine sw_getN M hG 2 x1 hx1 in_E rfl rfl 4 (by decide) wd_125 rfl d_G_balance_32 ?_
  refine ax_aload_n M d_G_balance_35 3 rfl ?_
  refine sw_getN M hG 1 (ix (gi σ 2 x1 2)) (in_lt k2) in_A rfl rfl 4 (by decide) wd_82 rfl d_G_balance_36 ?_
  refine ax_imul M d_G_balance_39 ?_
  refine ax_istore (lv' := [(0, .ref (al 0 0)), (2, .ref (al 1 (ix (gi σ 2 x1 1)))), (3, .ref (al 1 (ix (gi σ 2 x1 2)))), (4, .int ((gi σ 2 x1 3) * (gi σ 1 (ix (gi σ 2 x1 1)) 4))), (5, .int ((gi σ 2 x1 4) * (gi σ 1 (ix (gi σ 2 x1 2)) 4)))]) M d_G_balance_40 (by decide) [1, 3, 4, 5, 0] rfl ?_
  refine ax_aload_n M d_G_balance_42 1 rfl ?_
  refine sw_getN M hG 1 (ix (gi σ 2 x1 1)) (in_lt k1) in_A rfl rfl 3 (by decide) wd_81 rfl d_G_balance_43 ?_
  refine ax_aload_n M d_G_balance_46 2 rfl ?_
  refine sw_getN M hG 1 (ix (gi σ 2 x1 2)) (in_lt k2) in_A rfl rfl 3 (by decide) wd_81 rfl d_G_balance_47 ?_
  refine ax_icmp_ne (tgt := 66) M d_G_balance_50 (by decide) (fun c1 => ?_) (fun c1 => ?_)
  · have E := ob_f E c1
    refine ax_iload M d_G_balance_66 3 rfl ?_
    refine ax_iload M d_G_balance_68 4 rfl ?_
    obtain ⟨b1, e1, E⟩ := ob_b E
    refine ax_callS (n := 2) M TT_good (ac_C_greatestDivisor hG e1) lm_G_164 (by decide) (by decide) rfl rfl (Nat.le_of_ble_eq_true rfl) d_G_balance_70 (by decide) (c1 := 0) (s1 := 0) (by decide) (ax_ret_i (fun h hG => ?_))
    refine ax_istore (lv' := [(0, .ref (al 0 0)), (2, .ref (al 1 (ix (gi σ 2 x1 1)))), (3, .ref (al 1 (ix (gi σ 2 x1 2)))), (4, .int ((gi σ 2 x1 3) * (gi σ 1 (ix (gi σ 2 x1 1)) 4))), (5, .int ((gi σ 2 x1 4) * (gi σ 1 (ix (gi σ 2 x1 2)) 4))), (6, .int b1)]) M d_G_balance_73 (by decide) [1, 2, 3, 4, 5, 0] rfl ?_
    refine ax_aload_n M d_G_balance_75 0 rfl ?_
    refine ax_aload_n M d_G_balance_76 1 rfl ?_
    refine sw_getN M hG 1 (ix (gi σ 2 x1 1)) (in_lt k1) in_A rfl rfl 3 (by decide) wd_81 rfl d_G_balance_77 ?_
    refine ax_iload M d_G_balance_80 4 rfl ?_
    refine ax_iload M d_G_balance_82 5 rfl ?_
    obtain ⟨k3, E⟩ := ob_c E
    refine ax_idiv M d_G_balance_84 k3 ?_
    obtain ⟨b2, e2, E⟩ := ob_b E
    refine ax_callV (n := 2) (C := R_G) (q := (R_G, F_G, 9)) M TT_good rfl rfl (SW.at hG 0 0 (by decide)) (ac_C_scalePart hG e2) lm_G_167 (by decide) (by decide) rfl rfl (Nat.le_of_ble_eq_true rfl) d_G_balance_85 (by decide) (c1 := 0) (s1 := 0) (by decide) (ax_ret_v (fun h hG => ?_))
    refine ax_aload_n M d_G_balance_88 0 rfl ?_
    refine ax_aload_n M d_G_balance_89 2 rfl ?_
    refine sw_getN M hG 1 (ix (gi σ 2 x1 2)) (in_lt k2) in_A rfl rfl 3 (by decide) wd_81 rfl d_G_balance_90 ?_
    refine ax_iload M d_G_balance_93 3 rfl ?_
    refine ax_iload M d_G_balance_95 5 rfl ?_
    refine ax_idiv M d_G_balance_97 k3 ?_
    obtain ⟨b3, e3, E⟩ := ob_b E
    refine ax_callV (n := 2) (C := R_G) (q := (R_G, F_G, 9)) M TT_good rfl rfl (SW.at hG 0 0 (by decide)) (ac_C_scalePart hG e3) lm_G_167 (by decide) (by decide) rfl rfl (Nat.le_of_ble_eq_true rfl) d_G_balance_98 (by decide) (c1 := 0) (s1 := 0) (by decide) (ax_ret_v (fun h hG => ?_))
    refine ax_aload_n M d_G_balance_101 0 rfl ?_
    refine ax_aload_n M d_G_balance_102 1 rfl ?_
    refine sw_getN M hG 1 (ix (gi σ 2 x1 1)) (in_lt k1) in_A rfl rfl 3 (by decide) wd_81 rfl d_G_balance_103 ?_
    refine ax_aload_n M d_G_balance_106 2 rfl ?_
    refine sw_getN M hG 1 (ix (gi σ 2 x1 2)) (in_lt k2) in_A rfl rfl 3 (by decide) wd_81 rfl d_G_balance_107 ?_
    obtain ⟨b4, e4, E⟩ := ob_b E
    refine ax_callV (n := 2) (C := R_G) (q := (R_G, F_G, 9)) M TT_good rfl rfl (SW.at hG 0 0 (by decide)) (ac_C_joinParts hG e4) lm_G_153 (by decide) (by decide) rfl rfl (Nat.le_of_ble_eq_true rfl) d_G_balance_110 (by decide) (c1 := 0) (s1 := 0) (by decide) (ax_ret_v (fun h hG => ?_))
    refine ax_iconst (v := 1) M d_G_balance_113 (by decide) ?_
    obtain rfl := Option.some.inj E
    exact ax_zret M hR rfl (by decide) (by decide) d_G_balance_114 ⟨rfl, hG⟩
  · have E := ob_t E c1
    refine ax_iload M d_G_balance_53 3 rfl ?_
    refine ax_iload M d_G_balance_55 4 rfl ?_
    refine ax_icmp_ne (tgt := 64) M d_G_balance_57 (by decide) (fun c2 => ?_) (fun c2 => ?_)
    · have E := ob_f E c2
      refine ax_iconst (v := 0) M d_G_balance_64 (by decide) ?_
      obtain rfl := Option.some.inj E
      exact ax_zret M hR rfl (by decide) (by decide) d_G_balance_65 ⟨rfl, hG⟩
    · have E := ob_t E c2
      refine ax_iconst (v := 1) M d_G_balance_60 (by decide) ?_
      refine ax_goto (tgt := 65) M d_G_balance_61 (by decide) ?_
      obtain rfl := Option.some.inj E
      exact ax_zret M hR rfl (by decide) (by decide) d_G_balance_65 ⟨rfl, hG⟩
