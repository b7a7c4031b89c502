def C_peak (σ : ST) (x1 : Int32) : Option (Int32) :=
  (C_isEdge σ x1).bind (fun b1 => 
  (if b1 = 0 then
  (some (-1)) else
  (if (gi σ 0 0 8) = 0 then
  (some (-4)) else
  (if inb x1 12 then 
  (if ix (gi σ 5 0 (ix x1)) < 12 then 
  (some (gi σ 2 (ix (gi σ 5 0 (ix x1))) 8)) else none) else none))))
abbrev rm_C_peak : Room := { frames := 2, cells := 0, slots := 0, locals := 43 }
set_option maxRecDepth 100000 in
set_option maxHeartbeats 4000000 in
theorem ac_C_peak {l : Launch} {D : va_G} {cc : Nat → ClassId} {al : Nat → Nat → Nat} {σ : ST} {h0 h : AH} {x1 : Int32} {res : Int32}  (hG : SW dmC (cfC cc) al σ h0 h) (E : C_peak σ x1 = some res) : AC l D vwCl (tysOf cc) NN y_G_peak (Cond.code y_G_peak b_G_peak 2 (some .int) :: TT) rm_C_peak [.ref (al 0 0), .int x1] h (fun rv h' => rv = some (.int res) ∧ SW dmC (cfC cc) al σ h0 h') := by
  refine AC.of (by decide) rfl (Nat.le_of_ble_eq_true rfl) (fun X M hR hI => ?_)
  unfold C_peak at E
  refine ax_lv (lv' := [(0, .ref (al 0 0)), (1, .int x1)]) [0, 1] rfl ?_
  refine ax_aload_n M d_G_peak_0 0 rfl ?_
  refine ax_iload_n M d_G_peak_1 1 rfl ?_
  obtain ⟨b1, e1, E⟩ := ob_b E
  refine ax_callV (n := 1) (C := R_G) (q := (R_G, F_G, 9)) M TT_good rfl rfl (SW.at hG 0 0 (by decide)) (ac_C_isEdge hG e1) lm_G_75 (by decide) (by decide) rfl rfl (Nat.le_of_ble_eq_true rfl) d_G_peak_2 (by decide) (c1 := 0) (s1 := 0) (by decide) (ax_ret_i (fun h hG => ?_))
  refine ax_if_ne (tgt := 10) M d_G_peak_5 (by decide) (fun c1 => ?_) (fun c1 => ?_)
  · have E := ob_f E c1
    refine ax_aload_n M d_G_peak_10 0 rfl ?_
    refine sw_get M hG 0 0 (by decide) in_G rfl rfl 8 (by decide) wd_160 rfl d_G_peak_11 ?_
    refine ax_if_eq (tgt := 29) M d_G_peak_14 (by decide) (fun c2 => ?_) (fun c2 => ?_)
    · have E := ob_t E c2
      refine ax_bipush (v := -4) M d_G_peak_29 (by decide) ?_
      obtain rfl := Option.some.inj E
      exact ax_iret M hR (by decide) (by decide) d_G_peak_31 ⟨rfl, hG⟩
    · have E := ob_f E c2
      refine ax_aload_n M d_G_peak_17 0 rfl ?_
      refine sw_get M hG 0 0 (by decide) in_G rfl rfl 1 (by decide) wd_153 rfl d_G_peak_18 ?_
      refine ax_iload_n M d_G_peak_21 1 rfl ?_
      obtain ⟨k1, E⟩ := ob_c E
      refine sw_aldq (g := fun e => ix (gi σ 5 0 e)) M hG 5 0 (by decide) rfl 2 rfl rfl k1 d_G_peak_22 ?_
      obtain ⟨k2, E⟩ := ob_c E
      refine sw_getN M hG 2 (ix (gi σ 5 0 (ix x1))) k2 in_E rfl rfl 8 (by decide) wd_132 rfl d_G_peak_23 ?_
      refine ax_goto (tgt := 31) M d_G_peak_26 (by decide) ?_
      obtain rfl := Option.some.inj E
      exact ax_iret M hR (by decide) (by decide) d_G_peak_31 ⟨rfl, hG⟩
  · have E := ob_t E c1
    refine ax_iconst (v := (-1)) M d_G_peak_8 (by decide) ?_
    obtain rfl := Option.some.inj E
    exact ax_iret M hR (by decide) (by decide) d_G_peak_9 ⟨rfl, hG⟩
def C_Edge_isLoop (σ : ST) (i0 : Nat) : Option (Int32) :=
  if (gi σ 2 i0 1) = (gi σ 2 i0 2) then
  (some 1) else
  (some 0)
abbrev rm_C_Edge_isLoop : Room := { frames := 0, cells := 0, slots := 0, locals := 0 }
set_option maxRecDepth 100000 in
set_option maxHeartbeats 4000000 in
theorem ac_C_Edge_isLoop {l : Launch} {D : va_G} {cc : Nat → ClassId} {al : Nat → Nat → Nat} {σ : ST} {h0 h : AH} {i0 : Nat} {res : Int32} (hi0 : i0 < 12) (hG : SW dmC (cfC cc) al σ h0 h) (E : C_Edge_isLoop σ i0 = some res) : AC l D vwCl (tysOf cc) NN y_E_isLoop (Cond.code y_E_isLoop b_E_isLoop 1 (some .boolean) :: TT) rm_C_Edge_isLoop [.ref (al 2 i0)] h (fun rv h' => rv = some (.int res) ∧ SW dmC (cfC cc) al σ h0 h') := by
  refine AC.of (by decide) rfl (Nat.le_of_ble_eq_true rfl) (fun X M hR hI => ?_)
  unfold C_Edge_isLoop at E
  refine ax_lv (lv' := [(0, .ref (al 2 i0))]) [0] rfl ?_
  refine ax_aload_n M d_E_isLoop_0 0 rfl ?_
  refine sw_get M hG 2 i0 hi0 in_E rfl rfl 1 (by decide) wd_119 rfl d_E_isLoop_1 ?_
  refine ax_aload_n M d_E_isLoop_4 0 rfl ?_
  refine sw_get M hG 2 i0 hi0 in_E rfl rfl 2 (by decide) wd_121 rfl d_E_isLoop_5 ?_
  refine ax_icmp_ne (tgt := 15) M d_E_isLoop_8 (by decide) (fun c1 => ?_) (fun c1 => ?_)
  · have E := ob_f E c1
    refine ax_iconst (v := 0) M d_E_isLoop_15 (by decide) ?_
    obtain rfl := Option.some.inj E
    exact ax_zret M hR rfl (by decide) (by decide) d_E_isLoop_16 ⟨rfl, hG⟩
  · have E := ob_t E c1
    refine ax_iconst (v := 1) M d_E_isLoop_11 (by decide) ?_
    refine ax_goto (tgt := 16) M d_E_isLoop_12 (by decide) ?_
    obtain rfl := Option.some.inj E
    exact ax_zret M hR rfl (by decide) (by decide) d_E_isLoop_16 ⟨rfl, hG⟩
def C_canNest (σ : ST) : Option (Int32) :=
  (lp (fun s1 : Int32 =>
  if (gi σ 0 0 5) ≤ s1 then
  (some (.inr (.inl s1))) else
  (if inb s1 12 then 
  (if ix (gi σ 5 0 (ix s1)) < 12 then 
  (if (gi σ 2 (ix (gi σ 5 0 (ix s1))) 2) ≤ (gi σ 2 (ix (gi σ 5 0 (ix s1))) 1) then
  (if (0 : Int32) = 0 then
  ((C_Edge_isLoop σ (ix (gi σ 5 0 (ix s1)))).bind (fun b1 => 
  (if b1 = 0 then
  (some (.inr (.inr 0))) else
  (some (.inl (s1 + 1)))))) else
  (some (.inl (s1 + 1)))) else
  (if (gi σ 2 (ix (gi σ 5 0 (ix s1))) 5) = 0 then
  (if (1 : Int32) = 0 then
  ((C_Edge_isLoop σ (ix (gi σ 5 0 (ix s1)))).bind (fun b3 => 
  (if b3 = 0 then
  (some (.inr (.inr 0))) else
  (some (.inl (s1 + 1)))))) else
  (some (.inl (s1 + 1)))) else
  (if (0 : Int32) = 0 then
  ((C_Edge_isLoop σ (ix (gi σ 5 0 (ix s1)))).bind (fun b2 => 
  (if b2 = 0 then
  (some (.inr (.inr 0))) else
  (some (.inl (s1 + 1)))))) else
  (some (.inl (s1 + 1)))))) else none) else none)) 1000 0).bind (fun r1 : (Int32) ⊕ (Int32) => Sum.elim (fun o1 : Int32 =>
  (some 1)) (fun v1 : Int32 => some v1) r1)
abbrev rm_C_canNest : Room := { frames := 1, cells := 0, slots := 0, locals := 20 }
set_option maxRecDepth 100000 in
set_option maxHeartbeats 4000000 in
theorem ac_C_canNest {l : Launch} {D : va_G} {cc : Nat → ClassId} {al : Nat → Nat → Nat} {σ : ST} {h0 h : AH}  {res : Int32}  (hG : SW dmC (cfC cc) al σ h0 h) (E : C_canNest σ = some res) : AC l D vwCl (tysOf cc) NN y_G_canNest (Cond.code y_G_canNest b_G_canNest 4 (some .boolean) :: TT) rm_C_canNest [.ref (al 0 0)] h (fun rv h' => rv = some (.int res) ∧ SW dmC (cfC cc) al σ h0 h') := by
  refine AC.of (by decide) rfl (Nat.le_of_ble_eq_true rfl) (fun X M hR hI => ?_)
  unfold C_canNest at E
  refine ax_lv (lv' := [(0, .ref (al 0 0))]) [0] rfl ?_
  refine ax_iconst (v := 0) M d_G_canNest_0 (by decide) ?_
  refine ax_istore_n (lv' := [(0, .ref (al 0 0)), (1, .int 0)]) M d_G_canNest_1 (by decide) [1, 0] rfl ?_
  refine ax_lv (lv' := [(0, .ref (al 0 0)), (1, .int 0)]) [0, 1] rfl ?_
  obtain ⟨r1, l1, E⟩ := ob_b E
  refine lp_walk (fun (s1 : Int32) => ∀ h : AH, SW dmC (cfC cc) al σ h0 h → AW l D vwCl rm_C_canNest 4 X 0 0 h 2 [(0, .ref (al 0 0)), (1, .int s1)] []) (fun (r1 : (Int32) ⊕ (Int32)) => Sum.elim (fun o1 : Int32 => ∀ h : AH, SW dmC (cfC cc) al σ h0 h → AW l D vwCl rm_C_canNest 4 X 0 0 h 60 [(0, .ref (al 0 0)), (1, .int o1)] []) (fun v1 : Int32 => ∀ h : AH, SW dmC (cfC cc) al σ h0 h → some (Value.int v1) = some (.int res) ∧ SW dmC (cfC cc) al σ h0 h) r1) ?_ _ _ _ l1 ?_ h hG
  · intro s1 y1 E K1 K2 h hG
    refine ax_iload_n M d_G_canNest_2 1 rfl ?_
    refine ax_aload_n M d_G_canNest_3 0 rfl ?_
    refine sw_get M hG 0 0 (by decide) in_G rfl rfl 5 (by decide) wd_157 rfl d_G_canNest_4 ?_
    refine ax_icmp_ge (tgt := 60) M d_G_canNest_7 (by decide) (fun c1 => ?_) (fun c1 => ?_)
    · have E := ob_t E c1
      obtain rfl := Option.some.inj E
      refine ax_lv (lv' := [(0, .ref (al 0 0)), (1, .int s1)]) [0, 1] rfl ?_
      exact (qe_l (K2 _ rfl)) h hG
    · have E := ob_f E c1
      refine ax_aload_n M d_G_canNest_10 0 rfl ?_
      refine sw_get M hG 0 0 (by decide) in_G rfl rfl 1 (by decide) wd_153 rfl d_G_canNest_11 ?_
      refine ax_iload_n M d_G_canNest_14 1 rfl ?_
      obtain ⟨k1, E⟩ := ob_c E
      refine sw_aldq (g := fun e => ix (gi σ 5 0 e)) M hG 5 0 (by decide) rfl 2 rfl rfl k1 d_G_canNest_15 ?_
      obtain ⟨k2, E⟩ := ob_c E
      refine ax_astore_n (lv' := [(0, .ref (al 0 0)), (1, .int s1), (2, .ref (al 2 (ix (gi σ 5 0 (ix s1)))))]) M d_G_canNest_16 (by decide) [1, 2, 0] rfl ?_
      refine ax_aload_n M d_G_canNest_17 2 rfl ?_
      refine sw_getN M hG 2 (ix (gi σ 5 0 (ix s1))) k2 in_E rfl rfl 1 (by decide) wd_120 rfl d_G_canNest_18 ?_
      refine ax_aload_n M d_G_canNest_21 2 rfl ?_
      refine sw_getN M hG 2 (ix (gi σ 5 0 (ix s1))) k2 in_E rfl rfl 2 (by decide) wd_122 rfl d_G_canNest_22 ?_
      refine ax_icmp_ge (tgt := 39) M d_G_canNest_25 (by decide) (fun c2 => ?_) (fun c2 => ?_)
      · have E := ob_t E c2
        refine ax_iconst (v := 0) M d_G_canNest_39 (by decide) ?_
        refine ax_istore_n (lv' := [(0, .ref (al 0 0)), (1, .int s1), (2, .ref (al 2 (ix (gi σ 5 0 (ix s1))))), (3, .int 0)]) M d_G_canNest_40 (by decide) [1, 2, 3, 0] rfl ?_
        refine ax_iload_n M d_G_canNest_41 3 rfl ?_
        refine ax_if_ne (tgt := 54) M d_G_canNest_42 (by decide) (fun c3 => ?_) (fun c3 => ?_)
        · have E := ob_f E c3
          refine ax_iinc (v := s1 + 1) (lv' := [(0, .ref (al 0 0)), (1, .int (s1 + 1)), (2, .ref (al 2 (ix (gi σ 5 0 (ix s1))))), (3, .int 0)]) M d_G_canNest_54 1 rfl rfl (by decide) [1, 0, 2, 3] rfl ?_
          refine ax_goto (tgt := 2) M d_G_canNest_57 (by decide) ?_
          obtain rfl := Option.some.inj E
          refine ax_lv (lv' := [(0, .ref (al 0 0)), (1, .int (s1 + 1))]) [0, 1] rfl ?_
          exact K1 _ rfl h hG
        · have E := ob_t E c3
          refine ax_aload_n M d_G_canNest_45 2 rfl ?_
          obtain ⟨b1, e1, E⟩ := ob_b E
          refine ax_callVN (n := 0) (q := (R_E, F_E, 9)) M TT_good rfl (SW.at hG 2 (ix (gi σ 5 0 (ix s1))) k2) (ac_C_Edge_isLoop k2 hG e1) wd_337 lm_G_215 (by decide) (by decide) rfl rfl (Nat.le_of_ble_eq_true rfl) d_G_canNest_46 (by decide) (c1 := 0) (s1 := 0) (by decide) (ax_ret_i (fun h hG => ?_))
          refine ax_if_ne (tgt := 54) M d_G_canNest_49 (by decide) (fun c4 => ?_) (fun c4 => ?_)
          · have E := ob_f E c4
            refine ax_iinc (v := s1 + 1) (lv' := [(0, .ref (al 0 0)), (1, .int (s1 + 1)), (2, .ref (al 2 (ix (gi σ 5 0 (ix s1))))), (3, .int 0)]) M d_G_canNest_54 1 rfl rfl (by decide) [1, 0, 2, 3] rfl ?_
            refine ax_goto (tgt := 2) M d_G_canNest_57 (by decide) ?_
            obtain rfl := Option.some.inj E
            refine ax_lv (lv' := [(0, .ref (al 0 0)), (1, .int (s1 + 1))]) [0, 1] rfl ?_
            exact K1 _ rfl h hG
          · have E := ob_t E c4
            refine ax_iconst (v := 0) M d_G_canNest_52 (by decide) ?_
            obtain rfl := Option.some.inj E
            exact ax_zret M hR rfl (by decide) (by decide) d_G_canNest_53 ((qe_r (K2 _ rfl)) h hG)
      · have E := ob_f E c2
        refine ax_aload_n M d_G_canNest_28 2 rfl ?_
        refine sw_getN M hG 2 (ix (gi σ 5 0 (ix s1))) k2 in_E rfl rfl 5 (by decide) wd_128 rfl d_G_canNest_29 ?_
        refine ax_if_ne (tgt := 39) M d_G_canNest_32 (by decide) (fun c5 => ?_) (fun c5 => ?_)
        · have E := ob_f E c5
          refine ax_iconst (v := 0) M d_G_canNest_39 (by decide) ?_
          refine ax_istore_n (lv' := [(0, .ref (al 0 0)), (1, .int s1), (2, .ref (al 2 (ix (gi σ 5 0 (ix s1))))), (3, .int 0)]) M d_G_canNest_40 (by decide) [1, 2, 3, 0] rfl ?_
          refine ax_iload_n M d_G_canNest_41 3 rfl ?_
          refine ax_if_ne (tgt := 54) M d_G_canNest_42 (by decide) (fun c6 => ?_) (fun c6 => ?_)
          · have E := ob_f E c6
            refine ax_iinc (v := s1 + 1) (lv' := [(0, .ref (al 0 0)), (1, .int (s1 + 1)), (2, .ref (al 2 (ix (gi σ 5 0 (ix s1))))), (3, .int 0)]) M d_G_canNest_54 1 rfl rfl (by decide) [1, 0, 2, 3] rfl ?_
            refine ax_goto (tgt := 2) M d_G_canNest_57 (by decide) ?_
            obtain rfl := Option.some.inj E
            refine ax_lv (lv' := [(0, .ref (al 0 0)), (1, .int (s1 + 1))]) [0, 1] rfl ?_
            exact K1 _ rfl h hG
          · have E := ob_t E c6
            refine ax_aload_n M d_G_canNest_45 2 rfl ?_
            obtain ⟨b2, e2, E⟩ := ob_b E
            refine ax_callVN (n := 0) (q := (R_E, F_E, 9)) M TT_good rfl (SW.at hG 2 (ix (gi σ 5 0 (ix s1))) k2) (ac_C_Edge_isLoop k2 hG e2) wd_337 lm_G_215 (by decide) (by decide) rfl rfl (Nat.le_of_ble_eq_true rfl) d_G_canNest_46 (by decide) (c1 := 0) (s1 := 0) (by decide) (ax_ret_i (fun h hG => ?_))
            refine ax_if_ne (tgt := 54) M d_G_canNest_49 (by decide) (fun c7 => ?_) (fun c7 => ?_)
            · have E := ob_f E c7
              refine ax_iinc (v := s1 + 1) (lv' := [(0, .ref (al 0 0)), (1, .int (s1 + 1)), (2, .ref (al 2 (ix (gi σ 5 0 (ix s1))))), (3, .int 0)]) M d_G_canNest_54 1 rfl rfl (by decide) [1, 0, 2, 3] rfl ?_
              refine ax_goto (tgt := 2) M d_G_canNest_57 (by decide) ?_
              obtain rfl := Option.some.inj E
              refine ax_lv (lv' := [(0, .ref (al 0 0)), (1, .int (s1 + 1))]) [0, 1] rfl ?_
              exact K1 _ rfl h hG
            · have E := ob_t E c7
              refine ax_iconst (v := 0) M d_G_canNest_52 (by decide) ?_
              obtain rfl := Option.some.inj E
              exact ax_zret M hR rfl (by decide) (by decide) d_G_canNest_53 ((qe_r (K2 _ rfl)) h hG)
        · have E := ob_t E c5
          refine ax_iconst (v := 1) M d_G_canNest_35 (by decide) ?_
          refine ax_goto (tgt := 40) M d_G_canNest_36 (by decide) ?_
          refine ax_istore_n (lv' := [(0, .ref (al 0 0)), (1, .int s1), (2, .ref (al 2 (ix (gi σ 5 0 (ix s1))))), (3, .int 1)]) M d_G_canNest_40 (by decide) [1, 2, 3, 0] rfl ?_
          refine ax_iload_n M d_G_canNest_41 3 rfl ?_
          refine ax_if_ne (tgt := 54) M d_G_canNest_42 (by decide) (fun c8 => ?_) (fun c8 => ?_)
          · have E := ob_f E c8
            refine ax_iinc (v := s1 + 1) (lv' := [(0, .ref (al 0 0)), (1, .int (s1 + 1)), (2, .ref (al 2 (ix (gi σ 5 0 (ix s1))))), (3, .int 1)]) M d_G_canNest_54 1 rfl rfl (by decide) [1, 0, 2, 3] rfl ?_
            refine ax_goto (tgt := 2) M d_G_canNest_57 (by decide) ?_
            obtain rfl := Option.some.inj E
            refine ax_lv (lv' := [(0, .ref (al 0 0)), (1, .int (s1 + 1))]) [0, 1] rfl ?_
            exact K1 _ rfl h hG
          · have E := ob_t E c8
            refine ax_aload_n M d_G_canNest_45 2 rfl ?_
            obtain ⟨b3, e3, E⟩ := ob_b E
            refine ax_callVN (n := 0) (q := (R_E, F_E, 9)) M TT_good rfl (SW.at hG 2 (ix (gi σ 5 0 (ix s1))) k2) (ac_C_Edge_isLoop k2 hG e3) wd_337 lm_G_215 (by decide) (by decide) rfl rfl (Nat.le_of_ble_eq_true rfl) d_G_canNest_46 (by decide) (c1 := 0) (s1 := 0) (by decide) (ax_ret_i (fun h hG => ?_))
            refine ax_if_ne (tgt := 54) M d_G_canNest_49 (by decide) (fun c9 => ?_) (fun c9 => ?_)
            · have E := ob_f E c9
              refine ax_iinc (v := s1 + 1) (lv' := [(0, .ref (al 0 0)), (1, .int (s1 + 1)), (2, .ref (al 2 (ix (gi σ 5 0 (ix s1))))), (3, .int 1)]) M d_G_canNest_54 1 rfl rfl (by decide) [1, 0, 2, 3] rfl ?_
              refine ax_goto (tgt := 2) M d_G_canNest_57 (by decide) ?_
              obtain rfl := Option.some.inj E
              refine ax_lv (lv' := [(0, .ref (al 0 0)), (1, .int (s1 + 1))]) [0, 1] rfl ?_
              exact K1 _ rfl h hG
            · have E := ob_t E c9
              refine ax_iconst (v := 0) M d_G_canNest_52 (by decide) ?_
              obtain rfl := Option.some.inj E
              exact ax_zret M hR rfl (by decide) (by decide) d_G_canNest_53 ((qe_r (K2 _ rfl)) h hG)
  · rcases r1 with o1 | v1
    · have E := se_l E
      refine qi_l ?_
      intro h hG
      refine ax_iconst (v := 1) M d_G_canNest_60 (by decide) ?_
      obtain rfl := Option.some.inj E
      exact ax_zret M hR rfl (by decide) (by decide) d_G_canNest_61 ⟨rfl, hG⟩
    · have E := se_r E
      refine qi_r ?_
      obtain rfl := Option.some.inj E
      exact fun h hG => ⟨rfl, hG⟩
def C_listActors (σ : ST) : Option (Int32 × ST) :=
  (lp (fun s1 : ST × Int32 × Int32 =>
  if 8 ≤ s1.2.2 then
  (some (.inr ((s1.1, s1.2.1, s1.2.2)))) else
  (if inb s1.2.2 8 then 
  (if (gi s1.1 1 (ix s1.2.2) 0) = 0 then
  (some (.inl ((s1.1, s1.2.1, s1.2.2 + 1)))) else
  (if inb s1.2.1 8 then 
  (some (.inl ((su s1.1 6 0 (ix s1.2.1) s1.2.2, s1.2.1 + 1, s1.2.2 + 1)))) else none)) else none)) 1000 ((σ, 0, 0))).bind (fun r1 : ST × Int32 × Int32 =>
  some ((r1.2.1, r1.1)))
abbrev rm_C_listActors : Room := { frames := 0, cells := 0, slots := 0, locals := 0 }
set_option maxRecDepth 100000 in
set_option maxHeartbeats 4000000 in
theorem ac_C_listActors {l : Launch} {D : va_G} {cc : Nat → ClassId} {al : Nat → Nat → Nat} {σ : ST} {h0 h : AH}  {res : Int32 × ST}  (hG : SW dmC (cfC cc) al σ h0 h) (E : C_listActors σ = some res) : AC l D vwCl (tysOf cc) NN y_G_listActors (Cond.code y_G_listActors b_G_listActors 3 (some .int) :: TT) rm_C_listActors [.ref (al 0 0)] h (fun rv h' => rv = some (.int res.1) ∧ SW dmC (cfC cc) al res.2 h0 h') := by
  refine AC.of (by decide) rfl (Nat.le_of_ble_eq_true rfl) (fun X M hR hI => ?_)
  unfold C_listActors at E
  refine ax_lv (lv' := [(0, .ref (al 0 0))]) [0] rfl ?_
  refine ax_iconst (v := 0) M d_G_listActors_0 (by decide) ?_
  refine ax_istore_n (lv' := [(0, .ref (al 0 0)), (1, .int 0)]) M d_G_listActors_1 (by decide) [1, 0] rfl ?_
  refine ax_iconst (v := 0) M d_G_listActors_2 (by decide) ?_
  refine ax_istore_n (lv' := [(0, .ref (al 0 0)), (1, .int 0), (2, .int 0)]) M d_G_listActors_3 (by decide) [1, 2, 0] rfl ?_
  refine ax_lv (lv' := [(0, .ref (al 0 0)), (1, .int 0), (2, .int 0)]) [0, 1, 2] rfl ?_
  obtain ⟨r1, l1, E⟩ := ob_b E
  refine lp_walk (fun (s1 : ST × Int32 × Int32) => ∀ h : AH, SW dmC (cfC cc) al s1.1 h0 h → AW l D vwCl rm_C_listActors 3 X 0 0 h 4 [(0, .ref (al 0 0)), (1, .int s1.2.1), (2, .int s1.2.2)] []) (fun (r1 : ST × Int32 × Int32) => ∀ h : AH, SW dmC (cfC cc) al r1.1 h0 h → AW l D vwCl rm_C_listActors 3 X 0 0 h 38 [(0, .ref (al 0 0)), (1, .int r1.2.1), (2, .int r1.2.2)] []) ?_ _ _ _ l1 ?_ h hG
  · intro s1 y1 E K1 K2 h hG
    refine ax_iload_n M d_G_listActors_4 2 rfl ?_
    refine ax_bipush (v := 8) M d_G_listActors_5 (by decide) ?_
    refine ax_icmp_ge (tgt := 38) M d_G_listActors_7 (by decide) (fun c1 => ?_) (fun c1 => ?_)
    · have E := ob_t E c1
      obtain rfl := Option.some.inj E
      refine ax_lv (lv' := [(0, .ref (al 0 0)), (1, .int s1.2.1), (2, .int s1.2.2)]) [0, 1, 2] rfl ?_
      exact (K2 _ rfl) h hG
    · have E := ob_f E c1
      refine ax_aload_n M d_G_listActors_10 0 rfl ?_
      refine sw_get M hG 0 0 (by decide) in_G rfl rfl 0 (by decide) wd_152 rfl d_G_listActors_11 ?_
      refine ax_iload_n M d_G_listActors_14 2 rfl ?_
      obtain ⟨k1, E⟩ := ob_c E
      refine sw_aldq (g := fun e => e) M hG 4 0 (by decide) rfl 1 rfl rfl k1 d_G_listActors_15 ?_
      refine sw_getN M hG 1 (ix s1.2.2) (in_lt k1) in_A rfl rfl 0 (by decide) wd_75 rfl d_G_listActors_16 ?_
      refine ax_if_eq (tgt := 32) M d_G_listActors_19 (by decide) (fun c2 => ?_) (fun c2 => ?_)
      · have E := ob_t E c2
        refine ax_iinc (v := s1.2.2 + 1) (lv' := [(0, .ref (al 0 0)), (1, .int s1.2.1), (2, .int (s1.2.2 + 1))]) M d_G_listActors_32 2 rfl rfl (by decide) [1, 2, 0] rfl ?_
        refine ax_goto (tgt := 4) M d_G_listActors_35 (by decide) ?_
        obtain rfl := Option.some.inj E
        refine ax_lv (lv' := [(0, .ref (al 0 0)), (1, .int s1.2.1), (2, .int (s1.2.2 + 1))]) [0, 1, 2] rfl ?_
        exact K1 _ rfl h hG
      · have E := ob_f E c2
        refine ax_aload_n M d_G_listActors_22 0 rfl ?_
        refine sw_get M hG 0 0 (by decide) in_G rfl rfl 2 (by decide) wd_154 rfl d_G_listActors_23 ?_
        refine ax_iload_n M d_G_listActors_26 1 rfl ?_
        refine ax_iload_n M d_G_listActors_27 2 rfl ?_
        obtain ⟨k2, E⟩ := ob_c E
        refine sw_iast M hG 6 0 (by decide) rfl 0 rfl k2 rfl d_G_listActors_28 (fun h hG => ?_)
        refine ax_iinc (v := s1.2.1 + 1) (lv' := [(0, .ref (al 0 0)), (1, .int (s1.2.1 + 1)), (2, .int s1.2.2)]) M d_G_listActors_29 1 rfl rfl (by decide) [1, 0, 2] rfl ?_
        refine ax_iinc (v := s1.2.2 + 1) (lv' := [(0, .ref (al 0 0)), (1, .int (s1.2.1 + 1)), (2, .int (s1.2.2 + 1))]) M d_G_listActors_32 2 rfl rfl (by decide) [1, 2, 0] rfl ?_
        refine ax_goto (tgt := 4) M d_G_listActors_35 (by decide) ?_
        obtain rfl := Option.some.inj E
        refine ax_lv (lv' := [(0, .ref (al 0 0)), (1, .int (s1.2.1 + 1)), (2, .int (s1.2.2 + 1))]) [0, 1, 2] rfl ?_
        exact K1 _ rfl h hG
  · intro h hG
    refine ax_iload_n M d_G_listActors_38 1 rfl ?_
    obtain rfl := Option.some.inj E
    exact ax_iret M hR (by decide) (by decide) d_G_listActors_39 ⟨rfl, hG⟩
def C_divisorOfStretch (σ : ST) (x1 : Int32) (x2 : Int32) : Option (Int32) :=
  (lp (fun s1 : Int32 × Int32 =>
  if x2 < s1.2 then
  (some (.inr ((s1.1, s1.2)))) else
  (if inb s1.2 8 then 
  (if inb (gi σ 6 0 (ix s1.2)) 8 then 
  ((C_greatestDivisor s1.1 (gi σ 1 (ix (gi σ 6 0 (ix s1.2))) 5)).bind (fun b1 => 
  (some (.inl ((b1, s1.2 + 1)))))) else none) else none)) 1000 ((0, x1))).bind (fun r1 : Int32 × Int32 =>
  some (if r1.1 < 1 then 1 else r1.1))
abbrev rm_C_divisorOfStretch : Room := { frames := 2, cells := 0, slots := 0, locals := 46 }
set_option maxRecDepth 100000 in
set_option maxHeartbeats 4000000 in
theorem ac_C_divisorOfStretch {l : Launch} {D : va_G} {cc : Nat → ClassId} {al : Nat → Nat → Nat} {σ : ST} {h0 h : AH} {x1 : Int32} {x2 : Int32} {res : Int32}  (hG : SW dmC (cfC cc) al σ h0 h) (E : C_divisorOfStretch σ x1 x2 = some res) : AC l D vwCl (tysOf cc) NN y_G_divisorOfStretch (Cond.code y_G_divisorOfStretch b_G_divisorOfStretch 5 (some .int) :: TT) rm_C_divisorOfStretch [.ref (al 0 0), .int x1, .int x2] h (fun rv h' => rv = some (.int res) ∧ SW dmC (cfC cc) al σ h0 h') := by
  refine AC.of (by decide) rfl (Nat.le_of_ble_eq_true rfl) (fun X M hR hI => ?_)
  unfold C_divisorOfStretch at E
  refine ax_lv (lv' := [(0, .ref (al 0 0)), (1, .int x1), (2, .int x2)]) [0, 1, 2] rfl ?_
  refine ax_iconst (v := 0) M d_G_divisorOfStretch_0 (by decide) ?_
  refine ax_istore_n (lv' := [(0, .ref (al 0 0)), (1, .int x1), (2, .int x2), (3, .int 0)]) M d_G_divisorOfStretch_1 (by decide) [1, 2, 3, 0] rfl ?_
  refine ax_iload_n M d_G_divisorOfStretch_2 1 rfl ?_
  refine ax_istore (lv' := [(0, .ref (al 0 0)), (2, .int x2), (3, .int 0), (4, .int x1)]) M d_G_divisorOfStretch_3 (by decide) [1, 3, 4, 0] rfl ?_
  refine ax_lv (lv' := [(0, .ref (al 0 0)), (2, .int x2), (3, .int 0), (4, .int x1)]) [0, 1, 2, 3] rfl ?_
  obtain ⟨r1, l1, E⟩ := ob_b E
  refine lp_walk (fun (s1 : Int32 × Int32) => ∀ h : AH, SW dmC (cfC cc) al σ h0 h → AW l D vwCl rm_C_divisorOfStretch 5 X 0 0 h 5 [(0, .ref (al 0 0)), (2, .int x2), (3, .int s1.1), (4, .int s1.2)] []) (fun (r1 : Int32 × Int32) => ∀ h : AH, SW dmC (cfC cc) al σ h0 h → AW l D vwCl rm_C_divisorOfStretch 5 X 0 0 h 37 [(0, .ref (al 0 0)), (2, .int x2), (3, .int r1.1), (4, .int r1.2)] []) ?_ _ _ _ l1 ?_ h hG
  · intro s1 y1 E K1 K2 h hG
    refine ax_iload M d_G_divisorOfStretch_5 3 rfl ?_
    refine ax_iload_n M d_G_divisorOfStretch_7 1 rfl ?_
    refine ax_icmp_gt (tgt := 37) M d_G_divisorOfStretch_8 (by decide) (fun c1 => ?_) (fun c1 => ?_)
    · have E := ob_t E c1
      obtain rfl := Option.some.inj E
      refine ax_lv (lv' := [(0, .ref (al 0 0)), (2, .int x2), (3, .int s1.1), (4, .int s1.2)]) [0, 1, 2, 3] rfl ?_
      exact (K2 _ rfl) h hG
    · have E := ob_f E c1
      refine ax_iload_n M d_G_divisorOfStretch_11 2 rfl ?_
      refine ax_aload_n M d_G_divisorOfStretch_12 0 rfl ?_
      refine sw_get M hG 0 0 (by decide) in_G rfl rfl 0 (by decide) wd_152 rfl d_G_divisorOfStretch_13 ?_
      refine ax_aload_n M d_G_divisorOfStretch_16 0 rfl ?_
      refine sw_get M hG 0 0 (by decide) in_G rfl rfl 2 (by decide) wd_154 rfl d_G_divisorOfStretch_17 ?_
      refine ax_iload M d_G_divisorOfStretch_20 3 rfl ?_
      obtain ⟨k1, E⟩ := ob_c E
      refine sw_iald M hG 6 0 (by decide) rfl 0 rfl k1 d_G_divisorOfStretch_22 ?_
      obtain ⟨k2, E⟩ := ob_c E
      refine sw_aldq (g := fun e => e) M hG 4 0 (by decide) rfl 1 rfl rfl k2 d_G_divisorOfStretch_23 ?_
      refine sw_getN M hG 1 (ix (gi σ 6 0 (ix s1.2))) (in_lt k2) in_A rfl rfl 5 (by decide) wd_84 rfl d_G_divisorOfStretch_24 ?_
      obtain ⟨b1, e1, E⟩ := ob_b E
      refine ax_callS (n := 2) M TT_good (ac_C_greatestDivisor hG e1) lm_G_164 (by decide) (by decide) rfl rfl (Nat.le_of_ble_eq_true rfl) d_G_divisorOfStretch_27 (by decide) (c1 := 0) (s1 := 0) (by decide) (ax_ret_i (fun h hG => ?_))
      refine ax_istore_n (lv' := [(0, .ref (al 0 0)), (2, .int x2), (3, .int b1), (4, .int s1.2)]) M d_G_divisorOfStretch_30 (by decide) [1, 2, 0, 3] rfl ?_
      refine ax_iinc (v := s1.2 + 1) (lv' := [(0, .ref (al 0 0)), (2, .int x2), (3, .int b1), (4, .int (s1.2 + 1))]) M d_G_divisorOfStretch_31 3 rfl rfl (by decide) [1, 2, 3, 0] rfl ?_
      refine ax_goto (tgt := 5) M d_G_divisorOfStretch_34 (by decide) ?_
      obtain rfl := Option.some.inj E
      refine ax_lv (lv' := [(0, .ref (al 0 0)), (2, .int x2), (3, .int b1), (4, .int (s1.2 + 1))]) [0, 1, 2, 3] rfl ?_
      exact K1 _ rfl h hG
  · intro h hG
    refine ax_iload_n M d_G_divisorOfStretch_37 2 rfl ?_
    refine ax_iconst (v := 1) M d_G_divisorOfStretch_38 (by decide) ?_
    refine ax_mmax M lm_G_141 (by decide) (Nat.le_of_ble_eq_true rfl) (by decide) (by decide) d_G_divisorOfStretch_39 ?_
    obtain rfl := Option.some.inj E
    exact ax_iret M hR (by decide) (by decide) d_G_divisorOfStretch_42 ⟨rfl, hG⟩
def C_tokensAcross (σ : ST) (x1 : Int32) (x2 : Int32) (x3 : Int32) : Option (Int32) :=
  (lp (fun s1 : Int32 × Int32 =>
  if (gi σ 0 0 5) ≤ s1.2 then
  (some (.inr ((s1.1, s1.2)))) else
  (if inb s1.2 12 then 
  (if ix (gi σ 5 0 (ix s1.2)) < 12 then 
  ((C_isWithin (gi σ 2 (ix (gi σ 5 0 (ix s1.2))) 1) x1 x2).bind (fun b1 => 
  (if b1 = 0 then
  (some (.inl ((s1.1, s1.2 + 1)))) else
  ((C_isWithin (gi σ 2 (ix (gi σ 5 0 (ix s1.2))) 2) (x2 + 1) x3).bind (fun b2 => 
  (if b2 = 0 then
  (some (.inl ((s1.1, s1.2 + 1)))) else
  (if inb (gi σ 2 (ix (gi σ 5 0 (ix s1.2))) 1) 8 then 
  (some (.inl ((s1.1 + ((gi σ 2 (ix (gi σ 5 0 (ix s1.2))) 3) * (gi σ 1 (ix (gi σ 2 (ix (gi σ 5 0 (ix s1.2))) 1)) 5)), s1.2 + 1)))) else none))))))) else none) else none)) 1000 ((0, 0))).bind (fun r1 : Int32 × Int32 =>
  some r1.1)
abbrev rm_C_tokensAcross : Room := { frames := 1, cells := 0, slots := 0, locals := 22 }
set_option maxRecDepth 100000 in
set_option maxHeartbeats 4000000 in
theorem ac_C_tokensAcross {l : Launch} {D : va_G} {cc : Nat → ClassId} {al : Nat → Nat → Nat} {σ : ST} {h0 h : AH} {x1 : Int32} {x2 : Int32} {x3 : Int32} {res : Int32}  (hG : SW dmC (cfC cc) al σ h0 h) (E : C_tokensAcross σ x1 x2 x3 = some res) : AC l D vwCl (tysOf cc) NN y_G_tokensAcross (Cond.code y_G_tokensAcross b_G_tokensAcross 7 (some .int) :: TT) rm_C_tokensAcross [.ref (al 0 0), .int x1, .int x2, .int x3] h (fun rv h' => rv = some (.int res) ∧ SW dmC (cfC cc) al σ h0 h') := by
  refine AC.of (by decide) rfl (Nat.le_of_ble_eq_true rfl) (fun X M hR hI => ?_)
  unfold C_tokensAcross at E
  refine ax_lv (lv' := [(0, .ref (al 0 0)), (1, .int x1), (2, .int x2), (3, .int x3)]) [0, 1, 2, 3] rfl ?_
  refine ax_iconst (v := 0) M d_G_tokensAcross_0 (by decide) ?_
  refine ax_istore (lv' := [(0, .ref (al 0 0)), (1, .int x1), (2, .int x2), (3, .int x3), (4, .int 0)]) M d_G_tokensAcross_1 (by decide) [1, 2, 3, 4, 0] rfl ?_
  refine ax_iconst (v := 0) M d_G_tokensAcross_3 (by decide) ?_
  refine ax_istore (lv' := [(0, .ref (al 0 0)), (1, .int x1), (2, .int x2), (3, .int x3), (4, .int 0), (5, .int 0)]) M d_G_tokensAcross_4 (by decide) [1, 2, 3, 4, 5, 0] rfl ?_
  refine ax_lv (lv' := [(0, .ref (al 0 0)), (1, .int x1), (2, .int x2), (3, .int x3), (4, .int 0), (5, .int 0)]) [0, 1, 2, 3, 4, 5] rfl ?_
  obtain ⟨r1, l1, E⟩ := ob_b E
  refine lp_walk (fun (s1 : Int32 × Int32) => ∀ h : AH, SW dmC (cfC cc) al σ h0 h → AW l D vwCl rm_C_tokensAcross 7 X 0 0 h 6 [(0, .ref (al 0 0)), (1, .int x1), (2, .int x2), (3, .int x3), (4, .int s1.1), (5, .int s1.2)] []) (fun (r1 : Int32 × Int32) => ∀ h : AH, SW dmC (cfC cc) al σ h0 h → AW l D vwCl rm_C_tokensAcross 7 X 0 0 h 82 [(0, .ref (al 0 0)), (1, .int x1), (2, .int x2), (3, .int x3), (4, .int r1.1), (5, .int r1.2)] []) ?_ _ _ _ l1 ?_ h hG
  · intro s1 y1 E K1 K2 h hG
    refine ax_iload M d_G_tokensAcross_6 5 rfl ?_
    refine ax_aload_n M d_G_tokensAcross_8 0 rfl ?_
    refine sw_get M hG 0 0 (by decide) in_G rfl rfl 5 (by decide) wd_157 rfl d_G_tokensAcross_9 ?_
    refine ax_icmp_ge (tgt := 82) M d_G_tokensAcross_12 (by decide) (fun c1 => ?_) (fun c1 => ?_)
    · have E := ob_t E c1
      obtain rfl := Option.some.inj E
      refine ax_lv (lv' := [(0, .ref (al 0 0)), (1, .int x1), (2, .int x2), (3, .int x3), (4, .int s1.1), (5, .int s1.2)]) [0, 1, 2, 3, 4, 5] rfl ?_
      exact (K2 _ rfl) h hG
    · have E := ob_f E c1
      refine ax_aload_n M d_G_tokensAcross_15 0 rfl ?_
      refine sw_get M hG 0 0 (by decide) in_G rfl rfl 1 (by decide) wd_153 rfl d_G_tokensAcross_16 ?_
      refine ax_iload M d_G_tokensAcross_19 5 rfl ?_
      obtain ⟨k1, E⟩ := ob_c E
      refine sw_aldq (g := fun e => ix (gi σ 5 0 e)) M hG 5 0 (by decide) rfl 2 rfl rfl k1 d_G_tokensAcross_21 ?_
      obtain ⟨k2, E⟩ := ob_c E
      refine ax_astore (lv' := [(0, .ref (al 0 0)), (1, .int x1), (2, .int x2), (3, .int x3), (4, .int s1.1), (5, .int s1.2), (6, .ref (al 2 (ix (gi σ 5 0 (ix s1.2)))))]) M d_G_tokensAcross_22 (by decide) [1, 2, 3, 4, 5, 6, 0] rfl ?_
      refine ax_aload M d_G_tokensAcross_24 6 rfl ?_
      refine sw_getN M hG 2 (ix (gi σ 5 0 (ix s1.2))) k2 in_E rfl rfl 1 (by decide) wd_120 rfl d_G_tokensAcross_26 ?_
      refine ax_iload_n M d_G_tokensAcross_29 1 rfl ?_
      refine ax_iload_n M d_G_tokensAcross_30 2 rfl ?_
      obtain ⟨b1, e1, E⟩ := ob_b E
      refine ax_callS (n := 3) M TT_good (ac_C_isWithin hG e1) lm_G_35 (by decide) (by decide) rfl rfl (Nat.le_of_ble_eq_true rfl) d_G_tokensAcross_31 (by decide) (c1 := 0) (s1 := 0) (by decide) (ax_ret_i (fun h hG => ?_))
      refine ax_if_eq (tgt := 76) M d_G_tokensAcross_34 (by decide) (fun c2 => ?_) (fun c2 => ?_)
      · have E := ob_t E c2
        refine ax_iinc (v := s1.2 + 1) (lv' := [(0, .ref (al 0 0)), (1, .int x1), (2, .int x2), (3, .int x3), (4, .int s1.1), (5, .int (s1.2 + 1)), (6, .ref (al 2 (ix (gi σ 5 0 (ix s1.2)))))]) M d_G_tokensAcross_76 5 rfl rfl (by decide) [1, 2, 3, 4, 5, 0, 6] rfl ?_
        refine ax_goto (tgt := 6) M d_G_tokensAcross_79 (by decide) ?_
        obtain rfl := Option.some.inj E
        refine ax_lv (lv' := [(0, .ref (al 0 0)), (1, .int x1), (2, .int x2), (3, .int x3), (4, .int s1.1), (5, .int (s1.2 + 1))]) [0, 1, 2, 3, 4, 5] rfl ?_
        exact K1 _ rfl h hG
      · have E := ob_f E c2
        refine ax_aload M d_G_tokensAcross_37 6 rfl ?_
        refine sw_getN M hG 2 (ix (gi σ 5 0 (ix s1.2))) k2 in_E rfl rfl 2 (by decide) wd_122 rfl d_G_tokensAcross_39 ?_
        refine ax_iload_n M d_G_tokensAcross_42 2 rfl ?_
        refine ax_iconst (v := 1) M d_G_tokensAcross_43 (by decide) ?_
        refine ax_iadd M d_G_tokensAcross_44 ?_
        refine ax_iload_n M d_G_tokensAcross_45 3 rfl ?_
        obtain ⟨b2, e2, E⟩ := ob_b E
        refine ax_callS (n := 3) M TT_good (ac_C_isWithin hG e2) lm_G_35 (by decide) (by decide) rfl rfl (Nat.le_of_ble_eq_true rfl) d_G_tokensAcross_46 (by decide) (c1 := 0) (s1 := 0) (by decide) (ax_ret_i (fun h hG => ?_))
        refine ax_if_eq (tgt := 76) M d_G_tokensAcross_49 (by decide) (fun c3 => ?_) (fun c3 => ?_)
        · have E := ob_t E c3
          refine ax_iinc (v := s1.2 + 1) (lv' := [(0, .ref (al 0 0)), (1, .int x1), (2, .int x2), (3, .int x3), (4, .int s1.1), (5, .int (s1.2 + 1)), (6, .ref (al 2 (ix (gi σ 5 0 (ix s1.2)))))]) M d_G_tokensAcross_76 5 rfl rfl (by decide) [1, 2, 3, 4, 5, 0, 6] rfl ?_
          refine ax_goto (tgt := 6) M d_G_tokensAcross_79 (by decide) ?_
          obtain rfl := Option.some.inj E
          refine ax_lv (lv' := [(0, .ref (al 0 0)), (1, .int x1), (2, .int x2), (3, .int x3), (4, .int s1.1), (5, .int (s1.2 + 1))]) [0, 1, 2, 3, 4, 5] rfl ?_
          exact K1 _ rfl h hG
        · have E := ob_f E c3
          refine ax_iload M d_G_tokensAcross_52 4 rfl ?_
          refine ax_aload M d_G_tokensAcross_54 6 rfl ?_
          refine sw_getN M hG 2 (ix (gi σ 5 0 (ix s1.2))) k2 in_E rfl rfl 3 (by decide) wd_123 rfl d_G_tokensAcross_56 ?_
          refine ax_aload_n M d_G_tokensAcross_59 0 rfl ?_
          refine sw_get M hG 0 0 (by decide) in_G rfl rfl 0 (by decide) wd_152 rfl d_G_tokensAcross_60 ?_
          refine ax_aload M d_G_tokensAcross_63 6 rfl ?_
          refine sw_getN M hG 2 (ix (gi σ 5 0 (ix s1.2))) k2 in_E rfl rfl 1 (by decide) wd_120 rfl d_G_tokensAcross_65 ?_
          obtain ⟨k3, E⟩ := ob_c E
          refine sw_aldq (g := fun e => e) M hG 4 0 (by decide) rfl 1 rfl rfl k3 d_G_tokensAcross_68 ?_
          refine sw_getN M hG 1 (ix (gi σ 2 (ix (gi σ 5 0 (ix s1.2))) 1)) (in_lt k3) in_A rfl rfl 5 (by decide) wd_84 rfl d_G_tokensAcross_69 ?_
          refine ax_imul M d_G_tokensAcross_72 ?_
          refine ax_iadd M d_G_tokensAcross_73 ?_
          refine ax_istore (lv' := [(0, .ref (al 0 0)), (1, .int x1), (2, .int x2), (3, .int x3), (4, .int (s1.1 + ((gi σ 2 (ix (gi σ 5 0 (ix s1.2))) 3) * (gi σ 1 (ix (gi σ 2 (ix (gi σ 5 0 (ix s1.2))) 1)) 5)))), (5, .int s1.2)]) M d_G_tokensAcross_74 (by decide) [1, 2, 3, 4, 0, 5] rfl ?_
          refine ax_iinc (v := s1.2 + 1) (lv' := [(0, .ref (al 0 0)), (1, .int x1), (2, .int x2), (3, .int x3), (4, .int (s1.1 + ((gi σ 2 (ix (gi σ 5 0 (ix s1.2))) 3) * (gi σ 1 (ix (gi σ 2 (ix (gi σ 5 0 (ix s1.2))) 1)) 5)))), (5, .int (s1.2 + 1))]) M d_G_tokensAcross_76 5 rfl rfl (by decide) [1, 2, 3, 4, 5, 0] rfl ?_
          refine ax_goto (tgt := 6) M d_G_tokensAcross_79 (by decide) ?_
          obtain rfl := Option.some.inj E
          refine ax_lv (lv' := [(0, .ref (al 0 0)), (1, .int x1), (2, .int x2), (3, .int x3), (4, .int (s1.1 + ((gi σ 2 (ix (gi σ 5 0 (ix s1.2))) 3) * (gi σ 1 (ix (gi σ 2 (ix (gi σ 5 0 (ix s1.2))) 1)) 5)))), (5, .int (s1.2 + 1))]) [0, 1, 2, 3, 4, 5] rfl ?_
          exact K1 _ rfl h hG
  · intro h hG
    refine ax_iload M d_G_tokensAcross_82 4 rfl ?_
    obtain rfl := Option.some.inj E
    exact ax_iret M hR (by decide) (by decide) d_G_tokensAcross_84 ⟨rfl, hG⟩
