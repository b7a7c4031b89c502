def C_findCulprit (σ : ST) : Option (Int32 × ST) :=
  (C_makePartsOfOne σ).bind (fun b1 => 
  ((lp (fun s1 : ST × Int32 =>
  if (gi s1.1 0 0 5) ≤ s1.2 then
  (some (.inr (.inl ((s1.1, s1.2))))) else
  (if inb s1.2 12 then 
  (if ix (gi s1.1 5 0 (ix s1.2)) < 12 then 
  ((C_balance s1.1 (ix (gi s1.1 5 0 (ix s1.2)))).bind (fun b2 => 
  (if b2.1 = 0 then
  (some (.inr (.inr ((s1.2, b2.2))))) else
  (some (.inl ((b2.2, s1.2 + 1))))))) else none) else none)) 1000 ((b1, 0))).bind (fun r1 : (ST × Int32) ⊕ (Int32 × ST) => Sum.elim (fun o1 : ST × Int32 =>
  (some ((-1, o1.1)))) (fun v1 : Int32 × ST => some v1) r1)))
abbrev rm_C_findCulprit : Room := { frames := 3, cells := 0, slots := 0, locals := 72 }
set_option maxRecDepth 100000 in
set_option maxHeartbeats 4000000 in
theorem ac_C_findCulprit {l : Launch} {D : va_G} {cc : Nat → ClassId} {al : Nat → Nat → Nat} {σ : ST} {h0 h : AH}  {res : Int32 × ST}  (hG : SW dmC (cfC cc) al σ h0 h) (E : C_findCulprit σ = some res) : AC l D vwCl (tysOf cc) NN y_G_findCulprit (Cond.code y_G_findCulprit b_G_findCulprit 2 (some .int) :: TT) rm_C_findCulprit [.ref (al 0 0)] h (fun rv h' => rv = some (.int res.1) ∧ SW dmC (cfC cc) al res.2 h0 h') := by
  refine AC.of (by decide) rfl (Nat.le_of_ble_eq_true rfl) (fun X M hR hI => ?_)
  unfold C_findCulprit at E
  refine ax_lv (lv' := [(0, .ref (al 0 0))]) [0] rfl ?_
  refine ax_aload_n M d_G_findCulprit_0 0 rfl ?_
  obtain ⟨b1, e1, E⟩ := ob_b E
  refine ax_callV (n := 0) (C := R_G) (q := (R_G, F_G, 9)) M TT_good rfl rfl (SW.at hG 0 0 (by decide)) (ac_C_makePartsOfOne hG e1) lm_G_147 (by decide) (by decide) rfl rfl (Nat.le_of_ble_eq_true rfl) d_G_findCulprit_1 (by decide) (c1 := 0) (s1 := 0) (by decide) (ax_ret_v (fun h hG => ?_))
  refine ax_iconst (v := 0) M d_G_findCulprit_4 (by decide) ?_
  refine ax_istore_n (lv' := [(0, .ref (al 0 0)), (1, .int 0)]) M d_G_findCulprit_5 (by decide) [1, 0] rfl ?_
  refine ax_lv (lv' := [(0, .ref (al 0 0)), (1, .int 0)]) [0, 1] rfl ?_
  obtain ⟨r1, l1, E⟩ := ob_b E
  refine lp_walk (fun (s1 : ST × Int32) => ∀ h : AH, SW dmC (cfC cc) al s1.1 h0 h → AW l D vwCl rm_C_findCulprit 2 X 0 0 h 6 [(0, .ref (al 0 0)), (1, .int s1.2)] []) (fun (r1 : (ST × Int32) ⊕ (Int32 × ST)) => Sum.elim (fun o1 : ST × Int32 => ∀ h : AH, SW dmC (cfC cc) al o1.1 h0 h → AW l D vwCl rm_C_findCulprit 2 X 0 0 h 35 [(0, .ref (al 0 0)), (1, .int o1.2)] []) (fun v1 : Int32 × ST => ∀ h : AH, SW dmC (cfC cc) al v1.2 h0 h → some (Value.int v1.1) = some (.int res.1) ∧ SW dmC (cfC cc) al res.2 h0 h) r1) ?_ _ _ _ l1 ?_ h hG
  · intro s1 y1 E K1 K2 h hG
    refine ax_iload_n M d_G_findCulprit_6 1 rfl ?_
    refine ax_aload_n M d_G_findCulprit_7 0 rfl ?_
    refine sw_get M hG 0 0 (by decide) in_G rfl rfl 5 (by decide) wd_157 rfl d_G_findCulprit_8 ?_
    refine ax_icmp_ge (tgt := 35) M d_G_findCulprit_11 (by decide) (fun c1 => ?_) (fun c1 => ?_)
    · have E := ob_t E c1
      obtain rfl := Option.some.inj E
      refine ax_lv (lv' := [(0, .ref (al 0 0)), (1, .int s1.2)]) [0, 1] rfl ?_
      exact (qe_l (K2 _ rfl)) h hG
    · have E := ob_f E c1
      refine ax_aload_n M d_G_findCulprit_14 0 rfl ?_
      refine ax_aload_n M d_G_findCulprit_15 0 rfl ?_
      refine sw_get M hG 0 0 (by decide) in_G rfl rfl 1 (by decide) wd_153 rfl d_G_findCulprit_16 ?_
      refine ax_iload_n M d_G_findCulprit_19 1 rfl ?_
      obtain ⟨k1, E⟩ := ob_c E
      refine sw_aldq (g := fun e => ix (gi s1.1 5 0 e)) M hG 5 0 (by decide) rfl 2 rfl rfl k1 d_G_findCulprit_20 ?_
      obtain ⟨k2, E⟩ := ob_c E
      obtain ⟨b2, e2, E⟩ := ob_b E
      refine ax_callV (n := 1) (C := R_G) (q := (R_G, F_G, 9)) M TT_good rfl rfl (SW.at hG 0 0 (by decide)) (ac_C_balance k2 hG e2) lm_G_160 (by decide) (by decide) rfl rfl (Nat.le_of_ble_eq_true rfl) d_G_findCulprit_21 (by decide) (c1 := 0) (s1 := 0) (by decide) (ax_ret_i (fun h hG => ?_))
      refine ax_if_ne (tgt := 29) M d_G_findCulprit_24 (by decide) (fun c2 => ?_) (fun c2 => ?_)
      · have E := ob_f E c2
        refine ax_iinc (v := s1.2 + 1) (lv' := [(0, .ref (al 0 0)), (1, .int (s1.2 + 1))]) M d_G_findCulprit_29 1 rfl rfl (by decide) [1, 0] rfl ?_
        refine ax_goto (tgt := 6) M d_G_findCulprit_32 (by decide) ?_
        obtain rfl := Option.some.inj E
        refine ax_lv (lv' := [(0, .ref (al 0 0)), (1, .int (s1.2 + 1))]) [0, 1] rfl ?_
        exact K1 _ rfl h hG
      · have E := ob_t E c2
        refine ax_iload_n M d_G_findCulprit_27 1 rfl ?_
        obtain rfl := Option.some.inj E
        exact ax_iret M hR (by decide) (by decide) d_G_findCulprit_28 ((qe_r (K2 _ rfl)) h hG)
  · rcases r1 with o1 | v1
    · have E := se_l E
      refine qi_l ?_
      intro h hG
      refine ax_iconst (v := (-1)) M d_G_findCulprit_35 (by decide) ?_
      obtain rfl := Option.some.inj E
      exact ax_iret M hR (by decide) (by decide) d_G_findCulprit_36 ⟨rfl, hG⟩
    · have E := se_r E
      refine qi_r ?_
      obtain rfl := Option.some.inj E
      exact fun h hG => ⟨rfl, hG⟩
def C_keepRepetitions (σ : ST) : Option (Int32 × ST) :=
  (lp (fun s1 : ST × Int32 × Int32 =>
  if 8 ≤ s1.2.2 then
  (some (.inr ((s1.1, s1.2.1, s1.2.2)))) else
  (if inb s1.2.2 8 then 
  (if (gi s1.1 1 (ix s1.2.2) 0) = 0 then
  (some (.inl ((su s1.1 1 (ix s1.2.2) 5 0, s1.2.1 + 0, s1.2.2 + 1)))) else
  (some (.inl ((su s1.1 1 (ix s1.2.2) 5 (gi s1.1 1 (ix s1.2.2) 4), s1.2.1 + (gi s1.1 1 (ix s1.2.2) 4), s1.2.2 + 1))))) else none)) 1000 ((σ, 0, 0))).bind (fun r1 : ST × Int32 × Int32 =>
  some ((r1.2.1, r1.1)))
abbrev rm_C_keepRepetitions : Room := { frames := 0, cells := 0, slots := 0, locals := 0 }
set_option maxRecDepth 100000 in
set_option maxHeartbeats 4000000 in
theorem ac_C_keepRepetitions {l : Launch} {D : va_G} {cc : Nat → ClassId} {al : Nat → Nat → Nat} {σ : ST} {h0 h : AH}  {res : Int32 × ST}  (hG : SW dmC (cfC cc) al σ h0 h) (E : C_keepRepetitions σ = some res) : AC l D vwCl (tysOf cc) NN y_G_keepRepetitions (Cond.code y_G_keepRepetitions b_G_keepRepetitions 4 (some .int) :: TT) rm_C_keepRepetitions [.ref (al 0 0)] h (fun rv h' => rv = some (.int res.1) ∧ SW dmC (cfC cc) al res.2 h0 h') := by
  refine AC.of (by decide) rfl (Nat.le_of_ble_eq_true rfl) (fun X M hR hI => ?_)
  unfold C_keepRepetitions at E
  refine ax_lv (lv' := [(0, .ref (al 0 0))]) [0] rfl ?_
  refine ax_iconst (v := 0) M d_G_keepRepetitions_0 (by decide) ?_
  refine ax_istore_n (lv' := [(0, .ref (al 0 0)), (1, .int 0)]) M d_G_keepRepetitions_1 (by decide) [1, 0] rfl ?_
  refine ax_iconst (v := 0) M d_G_keepRepetitions_2 (by decide) ?_
  refine ax_istore_n (lv' := [(0, .ref (al 0 0)), (1, .int 0), (2, .int 0)]) M d_G_keepRepetitions_3 (by decide) [1, 2, 0] rfl ?_
  refine ax_lv (lv' := [(0, .ref (al 0 0)), (1, .int 0), (2, .int 0)]) [0, 1, 2] rfl ?_
  obtain ⟨r1, l1, E⟩ := ob_b E
  refine lp_walk (fun (s1 : ST × Int32 × Int32) => ∀ h : AH, SW dmC (cfC cc) al s1.1 h0 h → AW l D vwCl rm_C_keepRepetitions 4 X 0 0 h 4 [(0, .ref (al 0 0)), (1, .int s1.2.1), (2, .int s1.2.2)] []) (fun (r1 : ST × Int32 × Int32) => ∀ h : AH, SW dmC (cfC cc) al r1.1 h0 h → AW l D vwCl rm_C_keepRepetitions 4 X 0 0 h 49 [(0, .ref (al 0 0)), (1, .int r1.2.1), (2, .int r1.2.2)] []) ?_ _ _ _ l1 ?_ h hG
  · intro s1 y1 E K1 K2 h hG
    refine ax_iload_n M d_G_keepRepetitions_4 2 rfl ?_
    refine ax_bipush (v := 8) M d_G_keepRepetitions_5 (by decide) ?_
    refine ax_icmp_ge (tgt := 49) M d_G_keepRepetitions_7 (by decide) (fun c1 => ?_) (fun c1 => ?_)
    · have E := ob_t E c1
      obtain rfl := Option.some.inj E
      refine ax_lv (lv' := [(0, .ref (al 0 0)), (1, .int s1.2.1), (2, .int s1.2.2)]) [0, 1, 2] rfl ?_
      exact (K2 _ rfl) h hG
    · have E := ob_f E c1
      refine ax_aload_n M d_G_keepRepetitions_10 0 rfl ?_
      refine sw_get M hG 0 0 (by decide) in_G rfl rfl 0 (by decide) wd_152 rfl d_G_keepRepetitions_11 ?_
      refine ax_iload_n M d_G_keepRepetitions_14 2 rfl ?_
      obtain ⟨k1, E⟩ := ob_c E
      refine sw_aldq (g := fun e => e) M hG 4 0 (by decide) rfl 1 rfl rfl k1 d_G_keepRepetitions_15 ?_
      refine ax_astore_n (lv' := [(0, .ref (al 0 0)), (1, .int s1.2.1), (2, .int s1.2.2), (3, .ref (al 1 (ix s1.2.2)))]) M d_G_keepRepetitions_16 (by decide) [1, 2, 3, 0] rfl ?_
      refine ax_aload_n M d_G_keepRepetitions_17 3 rfl ?_
      refine ax_aload_n M d_G_keepRepetitions_18 3 rfl ?_
      refine sw_getN M hG 1 (ix s1.2.2) (in_lt k1) in_A rfl rfl 0 (by decide) wd_75 rfl d_G_keepRepetitions_19 ?_
      refine ax_if_eq (tgt := 32) M d_G_keepRepetitions_22 (by decide) (fun c2 => ?_) (fun c2 => ?_)
      · have E := ob_t E c2
        refine ax_iconst (v := 0) M d_G_keepRepetitions_32 (by decide) ?_
        refine sw_putN M hG 1 (ix s1.2.2) (in_lt k1) in_A t_A tok_A nok_A rfl rfl 5 (by decide) wd_84 rfl rfl rfl (Nat.le_of_ble_eq_true rfl) rfl d_G_keepRepetitions_33 (fun h hG => ?_)
        refine ax_iload_n M d_G_keepRepetitions_36 1 rfl ?_
        refine ax_aload_n M d_G_keepRepetitions_37 3 rfl ?_
        refine sw_getN M hG 1 (ix s1.2.2) (in_lt k1) in_A rfl rfl 5 (by decide) wd_84 rfl d_G_keepRepetitions_38 ?_
        refine ax_topi 0 gi_same ?_
        refine ax_iadd M d_G_keepRepetitions_41 ?_
        refine ax_istore_n (lv' := [(0, .ref (al 0 0)), (1, .int (s1.2.1 + 0)), (2, .int s1.2.2)]) M d_G_keepRepetitions_42 (by decide) [1, 0, 2] rfl ?_
        refine ax_iinc (v := s1.2.2 + 1) (lv' := [(0, .ref (al 0 0)), (1, .int (s1.2.1 + 0)), (2, .int (s1.2.2 + 1))]) M d_G_keepRepetitions_43 2 rfl rfl (by decide) [1, 2, 0] rfl ?_
        refine ax_goto (tgt := 4) M d_G_keepRepetitions_46 (by decide) ?_
        obtain rfl := Option.some.inj E
        refine ax_lv (lv' := [(0, .ref (al 0 0)), (1, .int (s1.2.1 + 0)), (2, .int (s1.2.2 + 1))]) [0, 1, 2] rfl ?_
        exact K1 _ rfl h hG
      · have E := ob_f E c2
        refine ax_aload_n M d_G_keepRepetitions_25 3 rfl ?_
        refine sw_getN M hG 1 (ix s1.2.2) (in_lt k1) in_A rfl rfl 4 (by decide) wd_82 rfl d_G_keepRepetitions_26 ?_
        refine ax_goto (tgt := 33) M d_G_keepRepetitions_29 (by decide) ?_
        refine sw_putN M hG 1 (ix s1.2.2) (in_lt k1) in_A t_A tok_A nok_A rfl rfl 5 (by decide) wd_84 rfl rfl rfl (Nat.le_of_ble_eq_true rfl) rfl d_G_keepRepetitions_33 (fun h hG => ?_)
        refine ax_iload_n M d_G_keepRepetitions_36 1 rfl ?_
        refine ax_aload_n M d_G_keepRepetitions_37 3 rfl ?_
        refine sw_getN M hG 1 (ix s1.2.2) (in_lt k1) in_A rfl rfl 5 (by decide) wd_84 rfl d_G_keepRepetitions_38 ?_
        refine ax_topi (gi s1.1 1 (ix s1.2.2) 4) gi_same ?_
        refine ax_iadd M d_G_keepRepetitions_41 ?_
        refine ax_istore_n (lv' := [(0, .ref (al 0 0)), (1, .int (s1.2.1 + (gi s1.1 1 (ix s1.2.2) 4))), (2, .int s1.2.2)]) M d_G_keepRepetitions_42 (by decide) [1, 0, 2] rfl ?_
        refine ax_iinc (v := s1.2.2 + 1) (lv' := [(0, .ref (al 0 0)), (1, .int (s1.2.1 + (gi s1.1 1 (ix s1.2.2) 4))), (2, .int (s1.2.2 + 1))]) M d_G_keepRepetitions_43 2 rfl rfl (by decide) [1, 2, 0] rfl ?_
        refine ax_goto (tgt := 4) M d_G_keepRepetitions_46 (by decide) ?_
        obtain rfl := Option.some.inj E
        refine ax_lv (lv' := [(0, .ref (al 0 0)), (1, .int (s1.2.1 + (gi s1.1 1 (ix s1.2.2) 4))), (2, .int (s1.2.2 + 1))]) [0, 1, 2] rfl ?_
        exact K1 _ rfl h hG
  · intro h hG
    refine ax_iload_n M d_G_keepRepetitions_49 1 rfl ?_
    obtain rfl := Option.some.inj E
    exact ax_iret M hR (by decide) (by decide) d_G_keepRepetitions_50 ⟨rfl, hG⟩
def C_Actor_isDue (σ : ST) (i0 : Nat) : Option (Int32) :=
  if (gi σ 1 i0 0) = 0 then
  (some 0) else
  (if (gi σ 1 i0 5) ≤ (gi σ 1 i0 6) then
  (some 0) else
  (some 1))
abbrev rm_C_Actor_isDue : Room := { frames := 0, cells := 0, slots := 0, locals := 0 }
set_option maxRecDepth 100000 in
set_option maxHeartbeats 4000000 in
theorem ac_C_Actor_isDue {l : Launch} {D : va_G} {cc : Nat → ClassId} {al : Nat → Nat → Nat} {σ : ST} {h0 h : AH} {i0 : Nat} {res : Int32} (hi0 : i0 < 8) (hG : SW dmC (cfC cc) al σ h0 h) (E : C_Actor_isDue σ i0 = some res) : AC l D vwCl (tysOf cc) NN y_A_isDue (Cond.code y_A_isDue b_A_isDue 1 (some .boolean) :: TT) rm_C_Actor_isDue [.ref (al 1 i0)] h (fun rv h' => rv = some (.int res) ∧ SW dmC (cfC cc) al σ h0 h') := by
  refine AC.of (by decide) rfl (Nat.le_of_ble_eq_true rfl) (fun X M hR hI => ?_)
  unfold C_Actor_isDue at E
  refine ax_lv (lv' := [(0, .ref (al 1 i0))]) [0] rfl ?_
  refine ax_aload_n M d_A_isDue_0 0 rfl ?_
  refine sw_get M hG 1 i0 hi0 in_A rfl rfl 0 (by decide) wd_76 rfl d_A_isDue_1 ?_
  refine ax_if_eq (tgt := 22) M d_A_isDue_4 (by decide) (fun c1 => ?_) (fun c1 => ?_)
  · have E := ob_t E c1
    refine ax_iconst (v := 0) M d_A_isDue_22 (by decide) ?_
    obtain rfl := Option.some.inj E
    exact ax_zret M hR rfl (by decide) (by decide) d_A_isDue_23 ⟨rfl, hG⟩
  · have E := ob_f E c1
    refine ax_aload_n M d_A_isDue_7 0 rfl ?_
    refine sw_get M hG 1 i0 hi0 in_A rfl rfl 6 (by decide) wd_85 rfl d_A_isDue_8 ?_
    refine ax_aload_n M d_A_isDue_11 0 rfl ?_
    refine sw_get M hG 1 i0 hi0 in_A rfl rfl 5 (by decide) wd_83 rfl d_A_isDue_12 ?_
    refine ax_icmp_ge (tgt := 22) M d_A_isDue_15 (by decide) (fun c2 => ?_) (fun c2 => ?_)
    · have E := ob_t E c2
      refine ax_iconst (v := 0) M d_A_isDue_22 (by decide) ?_
      obtain rfl := Option.some.inj E
      exact ax_zret M hR rfl (by decide) (by decide) d_A_isDue_23 ⟨rfl, hG⟩
    · have E := ob_f E c2
      refine ax_iconst (v := 1) M d_A_isDue_18 (by decide) ?_
      refine ax_goto (tgt := 23) M d_A_isDue_19 (by decide) ?_
      obtain rfl := Option.some.inj E
      exact ax_zret M hR rfl (by decide) (by decide) d_A_isDue_23 ⟨rfl, hG⟩
def C_isReady (σ : ST) (x1 : Int32) : Option (Int32) :=
  (lp (fun s1 : Int32 =>
  if (gi σ 0 0 5) ≤ s1 then
  (some (.inr (.inl s1))) else
  (if inb s1 12 then 
  (if ix (gi σ 5 0 (ix s1)) < 12 then 
  (if (gi σ 2 (ix (gi σ 5 0 (ix s1))) 2) = x1 then
  (if (gi σ 2 (ix (gi σ 5 0 (ix s1))) 4) ≤ (gi σ 2 (ix (gi σ 5 0 (ix s1))) 7) then
  (some (.inl (s1 + 1))) else
  (some (.inr (.inr 0)))) else
  (some (.inl (s1 + 1)))) else none) else none)) 1000 0).bind (fun r1 : (Int32) ⊕ (Int32) => Sum.elim (fun o1 : Int32 =>
  (some 1)) (fun v1 : Int32 => some v1) r1)
abbrev rm_C_isReady : Room := { frames := 0, cells := 0, slots := 0, locals := 0 }
set_option maxRecDepth 100000 in
set_option maxHeartbeats 4000000 in
theorem ac_C_isReady {l : Launch} {D : va_G} {cc : Nat → ClassId} {al : Nat → Nat → Nat} {σ : ST} {h0 h : AH} {x1 : Int32} {res : Int32}  (hG : SW dmC (cfC cc) al σ h0 h) (E : C_isReady σ x1 = some res) : AC l D vwCl (tysOf cc) NN y_G_isReady (Cond.code y_G_isReady b_G_isReady 4 (some .boolean) :: TT) rm_C_isReady [.ref (al 0 0), .int x1] h (fun rv h' => rv = some (.int res) ∧ SW dmC (cfC cc) al σ h0 h') := by
  refine AC.of (by decide) rfl (Nat.le_of_ble_eq_true rfl) (fun X M hR hI => ?_)
  unfold C_isReady at E
  refine ax_lv (lv' := [(0, .ref (al 0 0)), (1, .int x1)]) [0, 1] rfl ?_
  refine ax_iconst (v := 0) M d_G_isReady_0 (by decide) ?_
  refine ax_istore_n (lv' := [(0, .ref (al 0 0)), (1, .int x1), (2, .int 0)]) M d_G_isReady_1 (by decide) [1, 2, 0] rfl ?_
  refine ax_lv (lv' := [(0, .ref (al 0 0)), (1, .int x1), (2, .int 0)]) [0, 1, 2] rfl ?_
  obtain ⟨r1, l1, E⟩ := ob_b E
  refine lp_walk (fun (s1 : Int32) => ∀ h : AH, SW dmC (cfC cc) al σ h0 h → AW l D vwCl rm_C_isReady 4 X 0 0 h 2 [(0, .ref (al 0 0)), (1, .int x1), (2, .int s1)] []) (fun (r1 : (Int32) ⊕ (Int32)) => Sum.elim (fun o1 : Int32 => ∀ h : AH, SW dmC (cfC cc) al σ h0 h → AW l D vwCl rm_C_isReady 4 X 0 0 h 44 [(0, .ref (al 0 0)), (1, .int x1), (2, .int o1)] []) (fun v1 : Int32 => ∀ h : AH, SW dmC (cfC cc) al σ h0 h → some (Value.int v1) = some (.int res) ∧ SW dmC (cfC cc) al σ h0 h) r1) ?_ _ _ _ l1 ?_ h hG
  · intro s1 y1 E K1 K2 h hG
    refine ax_iload_n M d_G_isReady_2 2 rfl ?_
    refine ax_aload_n M d_G_isReady_3 0 rfl ?_
    refine sw_get M hG 0 0 (by decide) in_G rfl rfl 5 (by decide) wd_157 rfl d_G_isReady_4 ?_
    refine ax_icmp_ge (tgt := 44) M d_G_isReady_7 (by decide) (fun c1 => ?_) (fun c1 => ?_)
    · have E := ob_t E c1
      obtain rfl := Option.some.inj E
      refine ax_lv (lv' := [(0, .ref (al 0 0)), (1, .int x1), (2, .int s1)]) [0, 1, 2] rfl ?_
      exact (qe_l (K2 _ rfl)) h hG
    · have E := ob_f E c1
      refine ax_aload_n M d_G_isReady_10 0 rfl ?_
      refine sw_get M hG 0 0 (by decide) in_G rfl rfl 1 (by decide) wd_153 rfl d_G_isReady_11 ?_
      refine ax_iload_n M d_G_isReady_14 2 rfl ?_
      obtain ⟨k1, E⟩ := ob_c E
      refine sw_aldq (g := fun e => ix (gi σ 5 0 e)) M hG 5 0 (by decide) rfl 2 rfl rfl k1 d_G_isReady_15 ?_
      obtain ⟨k2, E⟩ := ob_c E
      refine ax_astore_n (lv' := [(0, .ref (al 0 0)), (1, .int x1), (2, .int s1), (3, .ref (al 2 (ix (gi σ 5 0 (ix s1)))))]) M d_G_isReady_16 (by decide) [1, 2, 3, 0] rfl ?_
      refine ax_aload_n M d_G_isReady_17 3 rfl ?_
      refine sw_getN M hG 2 (ix (gi σ 5 0 (ix s1))) k2 in_E rfl rfl 2 (by decide) wd_122 rfl d_G_isReady_18 ?_
      refine ax_iload_n M d_G_isReady_21 1 rfl ?_
      refine ax_icmp_ne (tgt := 38) M d_G_isReady_22 (by decide) (fun c2 => ?_) (fun c2 => ?_)
      · have E := ob_f E c2
        refine ax_iinc (v := s1 + 1) (lv' := [(0, .ref (al 0 0)), (1, .int x1), (2, .int (s1 + 1)), (3, .ref (al 2 (ix (gi σ 5 0 (ix s1)))))]) M d_G_isReady_38 2 rfl rfl (by decide) [1, 2, 0, 3] rfl ?_
        refine ax_goto (tgt := 2) M d_G_isReady_41 (by decide) ?_
        obtain rfl := Option.some.inj E
        refine ax_lv (lv' := [(0, .ref (al 0 0)), (1, .int x1), (2, .int (s1 + 1))]) [0, 1, 2] rfl ?_
        exact K1 _ rfl h hG
      · have E := ob_t E c2
        refine ax_aload_n M d_G_isReady_25 3 rfl ?_
        refine sw_getN M hG 2 (ix (gi σ 5 0 (ix s1))) k2 in_E rfl rfl 7 (by decide) wd_131 rfl d_G_isReady_26 ?_
        refine ax_aload_n M d_G_isReady_29 3 rfl ?_
        refine sw_getN M hG 2 (ix (gi σ 5 0 (ix s1))) k2 in_E rfl rfl 4 (by decide) wd_125 rfl d_G_isReady_30 ?_
        refine ax_icmp_ge (tgt := 38) M d_G_isReady_33 (by decide) (fun c3 => ?_) (fun c3 => ?_)
        · have E := ob_t E c3
          refine ax_iinc (v := s1 + 1) (lv' := [(0, .ref (al 0 0)), (1, .int x1), (2, .int (s1 + 1)), (3, .ref (al 2 (ix (gi σ 5 0 (ix s1)))))]) M d_G_isReady_38 2 rfl rfl (by decide) [1, 2, 0, 3] rfl ?_
          refine ax_goto (tgt := 2) M d_G_isReady_41 (by decide) ?_
          obtain rfl := Option.some.inj E
          refine ax_lv (lv' := [(0, .ref (al 0 0)), (1, .int x1), (2, .int (s1 + 1))]) [0, 1, 2] rfl ?_
          exact K1 _ rfl h hG
        · have E := ob_f E c3
          refine ax_iconst (v := 0) M d_G_isReady_36 (by decide) ?_
          obtain rfl := Option.some.inj E
          exact ax_zret M hR rfl (by decide) (by decide) d_G_isReady_37 ((qe_r (K2 _ rfl)) h hG)
  · rcases r1 with o1 | v1
    · have E := se_l E
      refine qi_l ?_
      intro h hG
      refine ax_iconst (v := 1) M d_G_isReady_44 (by decide) ?_
      obtain rfl := Option.some.inj E
      exact ax_zret M hR rfl (by decide) (by decide) d_G_isReady_45 ⟨rfl, hG⟩
    · have E := se_r E
      refine qi_r ?_
      obtain rfl := Option.some.inj E
      exact fun h hG => ⟨rfl, hG⟩
def C_canFire (σ : ST) (x1 : Int32) : Option (Int32) :=
  if inb x1 8 then 
  ((C_Actor_isDue σ (ix x1)).bind (fun b1 => 
  (if b1 = 0 then
  (some 0) else
  ((C_isReady σ x1).bind (fun b2 => 
  (if b2 = 0 then
  (some 0) else
  (some 1))))))) else none
abbrev rm_C_canFire : Room := { frames := 1, cells := 0, slots := 0, locals := 23 }
set_option maxRecDepth 100000 in
set_option maxHeartbeats 4000000 in
theorem ac_C_canFire {l : Launch} {D : va_G} {cc : Nat → ClassId} {al : Nat → Nat → Nat} {σ : ST} {h0 h : AH} {x1 : Int32} {res : Int32}  (hG : SW dmC (cfC cc) al σ h0 h) (E : C_canFire σ x1 = some res) : AC l D vwCl (tysOf cc) NN y_G_canFire (Cond.code y_G_canFire b_G_canFire 2 (some .boolean) :: TT) rm_C_canFire [.ref (al 0 0), .int x1] h (fun rv h' => rv = some (.int res) ∧ SW dmC (cfC cc) al σ h0 h') := by
  refine AC.of (by decide) rfl (Nat.le_of_ble_eq_true rfl) (fun X M hR hI => ?_)
  unfold C_canFire at E
  refine ax_lv (lv' := [(0, .ref (al 0 0)), (1, .int x1)]) [0, 1] rfl ?_
  refine ax_aload_n M d_G_canFire_0 0 rfl ?_
  refine sw_get M hG 0 0 (by decide) in_G rfl rfl 0 (by decide) wd_152 rfl d_G_canFire_1 ?_
  refine ax_iload_n M d_G_canFire_4 1 rfl ?_
  obtain ⟨k1, E⟩ := ob_c E
  refine sw_aldq (g := fun e => e) M hG 4 0 (by decide) rfl 1 rfl rfl k1 d_G_canFire_5 ?_
  obtain ⟨b1, e1, E⟩ := ob_b E
  refine ax_callVN (n := 0) (q := (R_A, F_A, 10)) M TT_good rfl (SW.at hG 1 (ix x1) (in_lt k1)) (ac_C_Actor_isDue (in_lt k1) hG e1) wd_257 lm_G_194 (by decide) (by decide) rfl rfl (Nat.le_of_ble_eq_true rfl) d_G_canFire_6 (by decide) (c1 := 0) (s1 := 0) (by decide) (ax_ret_i (fun h hG => ?_))
  refine ax_if_eq (tgt := 24) M d_G_canFire_9 (by decide) (fun c1 => ?_) (fun c1 => ?_)
  · have E := ob_t E c1
    refine ax_iconst (v := 0) M d_G_canFire_24 (by decide) ?_
    obtain rfl := Option.some.inj E
    exact ax_zret M hR rfl (by decide) (by decide) d_G_canFire_25 ⟨rfl, hG⟩
  · have E := ob_f E c1
    refine ax_aload_n M d_G_canFire_12 0 rfl ?_
    refine ax_iload_n M d_G_canFire_13 1 rfl ?_
    obtain ⟨b2, e2, E⟩ := ob_b E
    refine ax_callV (n := 1) (C := R_G) (q := (R_G, F_G, 9)) M TT_good rfl rfl (SW.at hG 0 0 (by decide)) (ac_C_isReady hG e2) lm_G_197 (by decide) (by decide) rfl rfl (Nat.le_of_ble_eq_true rfl) d_G_canFire_14 (by decide) (c1 := 0) (s1 := 0) (by decide) (ax_ret_i (fun h hG => ?_))
    refine ax_if_eq (tgt := 24) M d_G_canFire_17 (by decide) (fun c2 => ?_) (fun c2 => ?_)
    · have E := ob_t E c2
      refine ax_iconst (v := 0) M d_G_canFire_24 (by decide) ?_
      obtain rfl := Option.some.inj E
      exact ax_zret M hR rfl (by decide) (by decide) d_G_canFire_25 ⟨rfl, hG⟩
    · have E := ob_f E c2
      refine ax_iconst (v := 1) M d_G_canFire_20 (by decide) ?_
      refine ax_goto (tgt := 25) M d_G_canFire_21 (by decide) ?_
      obtain rfl := Option.some.inj E
      exact ax_zret M hR rfl (by decide) (by decide) d_G_canFire_25 ⟨rfl, hG⟩
def C_tokensWonBy (σ : ST) (x1 : Int32) : Option (Int32) :=
  (lp (fun s1 : Int32 × Int32 =>
  if (gi σ 0 0 5) ≤ s1.2 then
  (some (.inr ((s1.1, s1.2)))) else
  (if inb s1.2 12 then 
  (if ix (gi σ 5 0 (ix s1.2)) < 12 then 
  (if (gi σ 2 (ix (gi σ 5 0 (ix s1.2))) 1) = x1 then
  (if (gi σ 2 (ix (gi σ 5 0 (ix s1.2))) 2) = x1 then
  (some (.inl (((s1.1 + (gi σ 2 (ix (gi σ 5 0 (ix s1.2))) 3)) - (gi σ 2 (ix (gi σ 5 0 (ix s1.2))) 4), s1.2 + 1)))) else
  (some (.inl ((s1.1 + (gi σ 2 (ix (gi σ 5 0 (ix s1.2))) 3), s1.2 + 1))))) else
  (if (gi σ 2 (ix (gi σ 5 0 (ix s1.2))) 2) = x1 then
  (some (.inl ((s1.1 - (gi σ 2 (ix (gi σ 5 0 (ix s1.2))) 4), s1.2 + 1)))) else
  (some (.inl ((s1.1, s1.2 + 1)))))) else none) else none)) 1000 ((0, 0))).bind (fun r1 : Int32 × Int32 =>
  some r1.1)
abbrev rm_C_tokensWonBy : Room := { frames := 0, cells := 0, slots := 0, locals := 0 }
set_option maxRecDepth 100000 in
set_option maxHeartbeats 4000000 in
theorem ac_C_tokensWonBy {l : Launch} {D : va_G} {cc : Nat → ClassId} {al : Nat → Nat → Nat} {σ : ST} {h0 h : AH} {x1 : Int32} {res : Int32}  (hG : SW dmC (cfC cc) al σ h0 h) (E : C_tokensWonBy σ x1 = some res) : AC l D vwCl (tysOf cc) NN y_G_tokensWonBy (Cond.code y_G_tokensWonBy b_G_tokensWonBy 5 (some .int) :: TT) rm_C_tokensWonBy [.ref (al 0 0), .int x1] h (fun rv h' => rv = some (.int res) ∧ SW dmC (cfC cc) al σ h0 h') := by
  refine AC.of (by decide) rfl (Nat.le_of_ble_eq_true rfl) (fun X M hR hI => ?_)
  unfold C_tokensWonBy at E
  refine ax_lv (lv' := [(0, .ref (al 0 0)), (1, .int x1)]) [0, 1] rfl ?_
  refine ax_iconst (v := 0) M d_G_tokensWonBy_0 (by decide) ?_
  refine ax_istore_n (lv' := [(0, .ref (al 0 0)), (1, .int x1), (2, .int 0)]) M d_G_tokensWonBy_1 (by decide) [1, 2, 0] rfl ?_
  refine ax_iconst (v := 0) M d_G_tokensWonBy_2 (by decide) ?_
  refine ax_istore_n (lv' := [(0, .ref (al 0 0)), (1, .int x1), (2, .int 0), (3, .int 0)]) M d_G_tokensWonBy_3 (by decide) [1, 2, 3, 0] rfl ?_
  refine ax_lv (lv' := [(0, .ref (al 0 0)), (1, .int x1), (2, .int 0), (3, .int 0)]) [0, 1, 2, 3] rfl ?_
  obtain ⟨r1, l1, E⟩ := ob_b E
  refine lp_walk (fun (s1 : Int32 × Int32) => ∀ h : AH, SW dmC (cfC cc) al σ h0 h → AW l D vwCl rm_C_tokensWonBy 5 X 0 0 h 4 [(0, .ref (al 0 0)), (1, .int x1), (2, .int s1.1), (3, .int s1.2)] []) (fun (r1 : Int32 × Int32) => ∀ h : AH, SW dmC (cfC cc) al σ h0 h → AW l D vwCl rm_C_tokensWonBy 5 X 0 0 h 60 [(0, .ref (al 0 0)), (1, .int x1), (2, .int r1.1), (3, .int r1.2)] []) ?_ _ _ _ l1 ?_ h hG
  · intro s1 y1 E K1 K2 h hG
    refine ax_iload_n M d_G_tokensWonBy_4 3 rfl ?_
    refine ax_aload_n M d_G_tokensWonBy_5 0 rfl ?_
    refine sw_get M hG 0 0 (by decide) in_G rfl rfl 5 (by decide) wd_157 rfl d_G_tokensWonBy_6 ?_
    refine ax_icmp_ge (tgt := 60) M d_G_tokensWonBy_9 (by decide) (fun c1 => ?_) (fun c1 => ?_)
    · have E := ob_t E c1
      obtain rfl := Option.some.inj E
      refine ax_lv (lv' := [(0, .ref (al 0 0)), (1, .int x1), (2, .int s1.1), (3, .int s1.2)]) [0, 1, 2, 3] rfl ?_
      exact (K2 _ rfl) h hG
    · have E := ob_f E c1
      refine ax_aload_n M d_G_tokensWonBy_12 0 rfl ?_
      refine sw_get M hG 0 0 (by decide) in_G rfl rfl 1 (by decide) wd_153 rfl d_G_tokensWonBy_13 ?_
      refine ax_iload_n M d_G_tokensWonBy_16 3 rfl ?_
      obtain ⟨k1, E⟩ := ob_c E
      refine sw_aldq (g := fun e => ix (gi σ 5 0 e)) M hG 5 0 (by decide) rfl 2 rfl rfl k1 d_G_tokensWonBy_17 ?_
      obtain ⟨k2, E⟩ := ob_c E
      refine ax_astore (lv' := [(0, .ref (al 0 0)), (1, .int x1), (2, .int s1.1), (3, .int s1.2), (4, .ref (al 2 (ix (gi σ 5 0 (ix s1.2)))))]) M d_G_tokensWonBy_18 (by decide) [1, 2, 3, 4, 0] rfl ?_
      refine ax_aload M d_G_tokensWonBy_20 4 rfl ?_
      refine sw_getN M hG 2 (ix (gi σ 5 0 (ix s1.2))) k2 in_E rfl rfl 1 (by decide) wd_120 rfl d_G_tokensWonBy_22 ?_
      refine ax_iload_n M d_G_tokensWonBy_25 1 rfl ?_
      refine ax_icmp_ne (tgt := 37) M d_G_tokensWonBy_26 (by decide) (fun c2 => ?_) (fun c2 => ?_)
      · have E := ob_f E c2
        refine ax_aload M d_G_tokensWonBy_37 4 rfl ?_
        refine sw_getN M hG 2 (ix (gi σ 5 0 (ix s1.2))) k2 in_E rfl rfl 2 (by decide) wd_122 rfl d_G_tokensWonBy_39 ?_
        refine ax_iload_n M d_G_tokensWonBy_42 1 rfl ?_
        refine ax_icmp_ne (tgt := 54) M d_G_tokensWonBy_43 (by decide) (fun c3 => ?_) (fun c3 => ?_)
        · have E := ob_f E c3
          refine ax_iinc (v := s1.2 + 1) (lv' := [(0, .ref (al 0 0)), (1, .int x1), (2, .int s1.1), (3, .int (s1.2 + 1)), (4, .ref (al 2 (ix (gi σ 5 0 (ix s1.2)))))]) M d_G_tokensWonBy_54 3 rfl rfl (by decide) [1, 2, 3, 0, 4] rfl ?_
          refine ax_goto (tgt := 4) M d_G_tokensWonBy_57 (by decide) ?_
          obtain rfl := Option.some.inj E
          refine ax_lv (lv' := [(0, .ref (al 0 0)), (1, .int x1), (2, .int s1.1), (3, .int (s1.2 + 1))]) [0, 1, 2, 3] rfl ?_
          exact K1 _ rfl h hG
        · have E := ob_t E c3
          refine ax_iload_n M d_G_tokensWonBy_46 2 rfl ?_
          refine ax_aload M d_G_tokensWonBy_47 4 rfl ?_
          refine sw_getN M hG 2 (ix (gi σ 5 0 (ix s1.2))) k2 in_E rfl rfl 4 (by decide) wd_125 rfl d_G_tokensWonBy_49 ?_
          refine ax_isub M d_G_tokensWonBy_52 ?_
          refine ax_istore_n (lv' := [(0, .ref (al 0 0)), (1, .int x1), (2, .int (s1.1 - (gi σ 2 (ix (gi σ 5 0 (ix s1.2))) 4))), (3, .int s1.2)]) M d_G_tokensWonBy_53 (by decide) [1, 2, 0, 3] rfl ?_
          refine ax_iinc (v := s1.2 + 1) (lv' := [(0, .ref (al 0 0)), (1, .int x1), (2, .int (s1.1 - (gi σ 2 (ix (gi σ 5 0 (ix s1.2))) 4))), (3, .int (s1.2 + 1))]) M d_G_tokensWonBy_54 3 rfl rfl (by decide) [1, 2, 3, 0] rfl ?_
          refine ax_goto (tgt := 4) M d_G_tokensWonBy_57 (by decide) ?_
          obtain rfl := Option.some.inj E
          refine ax_lv (lv' := [(0, .ref (al 0 0)), (1, .int x1), (2, .int (s1.1 - (gi σ 2 (ix (gi σ 5 0 (ix s1.2))) 4))), (3, .int (s1.2 + 1))]) [0, 1, 2, 3] rfl ?_
          exact K1 _ rfl h hG
      · have E := ob_t E c2
        refine ax_iload_n M d_G_tokensWonBy_29 2 rfl ?_
        refine ax_aload M d_G_tokensWonBy_30 4 rfl ?_
        refine sw_getN M hG 2 (ix (gi σ 5 0 (ix s1.2))) k2 in_E rfl rfl 3 (by decide) wd_123 rfl d_G_tokensWonBy_32 ?_
        refine ax_iadd M d_G_tokensWonBy_35 ?_
        refine ax_istore_n (lv' := [(0, .ref (al 0 0)), (1, .int x1), (2, .int (s1.1 + (gi σ 2 (ix (gi σ 5 0 (ix s1.2))) 3))), (3, .int s1.2), (4, .ref (al 2 (ix (gi σ 5 0 (ix s1.2)))))]) M d_G_tokensWonBy_36 (by decide) [1, 2, 0, 3, 4] rfl ?_
        refine ax_aload M d_G_tokensWonBy_37 4 rfl ?_
        refine sw_getN M hG 2 (ix (gi σ 5 0 (ix s1.2))) k2 in_E rfl rfl 2 (by decide) wd_122 rfl d_G_tokensWonBy_39 ?_
        refine ax_iload_n M d_G_tokensWonBy_42 1 rfl ?_
        refine ax_icmp_ne (tgt := 54) M d_G_tokensWonBy_43 (by decide) (fun c4 => ?_) (fun c4 => ?_)
        · have E := ob_f E c4
          refine ax_iinc (v := s1.2 + 1) (lv' := [(0, .ref (al 0 0)), (1, .int x1), (2, .int (s1.1 + (gi σ 2 (ix (gi σ 5 0 (ix s1.2))) 3))), (3, .int (s1.2 + 1)), (4, .ref (al 2 (ix (gi σ 5 0 (ix s1.2)))))]) M d_G_tokensWonBy_54 3 rfl rfl (by decide) [1, 2, 3, 0, 4] rfl ?_
          refine ax_goto (tgt := 4) M d_G_tokensWonBy_57 (by decide) ?_
          obtain rfl := Option.some.inj E
          refine ax_lv (lv' := [(0, .ref (al 0 0)), (1, .int x1), (2, .int (s1.1 + (gi σ 2 (ix (gi σ 5 0 (ix s1.2))) 3))), (3, .int (s1.2 + 1))]) [0, 1, 2, 3] rfl ?_
          exact K1 _ rfl h hG
        · have E := ob_t E c4
          refine ax_iload_n M d_G_tokensWonBy_46 2 rfl ?_
          refine ax_aload M d_G_tokensWonBy_47 4 rfl ?_
          refine sw_getN M hG 2 (ix (gi σ 5 0 (ix s1.2))) k2 in_E rfl rfl 4 (by decide) wd_125 rfl d_G_tokensWonBy_49 ?_
          refine ax_isub M d_G_tokensWonBy_52 ?_
          refine ax_istore_n (lv' := [(0, .ref (al 0 0)), (1, .int x1), (2, .int ((s1.1 + (gi σ 2 (ix (gi σ 5 0 (ix s1.2))) 3)) - (gi σ 2 (ix (gi σ 5 0 (ix s1.2))) 4))), (3, .int s1.2)]) M d_G_tokensWonBy_53 (by decide) [1, 2, 0, 3] rfl ?_
          refine ax_iinc (v := s1.2 + 1) (lv' := [(0, .ref (al 0 0)), (1, .int x1), (2, .int ((s1.1 + (gi σ 2 (ix (gi σ 5 0 (ix s1.2))) 3)) - (gi σ 2 (ix (gi σ 5 0 (ix s1.2))) 4))), (3, .int (s1.2 + 1))]) M d_G_tokensWonBy_54 3 rfl rfl (by decide) [1, 2, 3, 0] rfl ?_
          refine ax_goto (tgt := 4) M d_G_tokensWonBy_57 (by decide) ?_
          obtain rfl := Option.some.inj E
          refine ax_lv (lv' := [(0, .ref (al 0 0)), (1, .int x1), (2, .int ((s1.1 + (gi σ 2 (ix (gi σ 5 0 (ix s1.2))) 3)) - (gi σ 2 (ix (gi σ 5 0 (ix s1.2))) 4))), (3, .int (s1.2 + 1))]) [0, 1, 2, 3] rfl ?_
          exact K1 _ rfl h hG
  · intro h hG
    refine ax_iload_n M d_G_tokensWonBy_60 2 rfl ?_
    obtain rfl := Option.some.inj E
    exact ax_iret M hR (by decide) (by decide) d_G_tokensWonBy_61 ⟨rfl, hG⟩
