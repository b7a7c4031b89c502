def C_isWithin (x0 : Int32) (x1 : Int32) (x2 : Int32) : Option (Int32) :=
  if x0 < x1 then
  (some 0) else
  (if x2 < x0 then
  (some 0) else
  (some 1))
abbrev rm_C_isWithin : Room := { frames := 0, cells := 0, slots := 0, locals := 0 }
set_option maxRecDepth 100000 in
set_option maxHeartbeats 4000000 in
theorem ac_C_isWithin {l : Launch} {D : va_G} {cc : Nat → ClassId} {al : Nat → Nat → Nat} {σ : ST} {h0 h : AH} {x0 : Int32} {x1 : Int32} {x2 : Int32} {res : Int32}  (hG : SW dmC (cfC cc) al σ h0 h) (E : C_isWithin x0 x1 x2 = some res) : AC l D vwCl (tysOf cc) NN y_G_isWithin (Cond.code y_G_isWithin b_G_isWithin 3 (some .boolean) :: TT) rm_C_isWithin [.int x0, .int x1, .int x2] h (fun rv h' => rv = some (.int res) ∧ SW dmC (cfC cc) al σ h0 h') := by
  refine AC.of (by decide) rfl (Nat.le_of_ble_eq_true rfl) (fun X M hR hI => ?_)
  unfold C_isWithin at E
  refine ax_lv (lv' := [(0, .int x0), (1, .int x1), (2, .int x2)]) [0, 1, 2] rfl ?_
  refine ax_iload_n M d_G_isWithin_0 0 rfl ?_
  refine ax_iload_n M d_G_isWithin_1 1 rfl ?_
  refine ax_icmp_lt (tgt := 14) M d_G_isWithin_2 (by decide) (fun c1 => ?_) (fun c1 => ?_)
  · have E := ob_t E c1
    refine ax_iconst (v := 0) M d_G_isWithin_14 (by decide) ?_
    obtain rfl := Option.some.inj E
    exact ax_zret M hR rfl (by decide) (by decide) d_G_isWithin_15 ⟨rfl, hG⟩
  · have E := ob_f E c1
    refine ax_iload_n M d_G_isWithin_5 0 rfl ?_
    refine ax_iload_n M d_G_isWithin_6 2 rfl ?_
    refine ax_icmp_gt (tgt := 14) M d_G_isWithin_7 (by decide) (fun c2 => ?_) (fun c2 => ?_)
    · have E := ob_t E c2
      refine ax_iconst (v := 0) M d_G_isWithin_14 (by decide) ?_
      obtain rfl := Option.some.inj E
      exact ax_zret M hR rfl (by decide) (by decide) d_G_isWithin_15 ⟨rfl, hG⟩
    · have E := ob_f E c2
      refine ax_iconst (v := 1) M d_G_isWithin_10 (by decide) ?_
      refine ax_goto (tgt := 15) M d_G_isWithin_11 (by decide) ?_
      obtain rfl := Option.some.inj E
      exact ax_zret M hR rfl (by decide) (by decide) d_G_isWithin_15 ⟨rfl, hG⟩
def C_actor (σ : ST) (x1 : Int32) (x2 : Int32) (x3 : Int32) : Option (Int32 × ST) :=
  (C_isWithin x1 0 7).bind (fun b1 => 
  (if b1 = 0 then
  (some ((-1, σ))) else
  ((C_isWithin x2 0 3).bind (fun b2 => 
  (if b2 = 0 then
  (some ((-1, σ))) else
  (if inb x1 8 then 
  (some ((0, su (su (su (su σ 1 (ix x1) 0 1) 1 (ix x1) 1 x2) 1 (ix x1) 2 x3) 0 0 8 0))) else none))))))
abbrev rm_C_actor : Room := { frames := 1, cells := 0, slots := 0, locals := 22 }
set_option maxRecDepth 100000 in
set_option maxHeartbeats 4000000 in
theorem ac_C_actor {l : Launch} {D : va_G} {cc : Nat → ClassId} {al : Nat → Nat → Nat} {σ : ST} {h0 h : AH} {x1 : Int32} {x2 : Int32} {x3 : Int32} {res : Int32 × ST}  (hG : SW dmC (cfC cc) al σ h0 h) (E : C_actor σ x1 x2 x3 = some res) : AC l D vwCl (tysOf cc) NN y_G_actor (Cond.code y_G_actor b_G_actor 5 (some .int) :: TT) rm_C_actor [.ref (al 0 0), .int x1, .int x2, .int x3] h (fun rv h' => rv = some (.int res.1) ∧ SW dmC (cfC cc) al res.2 h0 h') := by
  refine AC.of (by decide) rfl (Nat.le_of_ble_eq_true rfl) (fun X M hR hI => ?_)
  unfold C_actor at E
  refine ax_lv (lv' := [(0, .ref (al 0 0)), (1, .int x1), (2, .int x2), (3, .int x3)]) [0, 1, 2, 3] rfl ?_
  refine ax_iload_n M d_G_actor_0 1 rfl ?_
  refine ax_iconst (v := 0) M d_G_actor_1 (by decide) ?_
  refine ax_bipush (v := 7) M d_G_actor_2 (by decide) ?_
  obtain ⟨b1, e1, E⟩ := ob_b E
  refine ax_callS (n := 3) M TT_good (ac_C_isWithin hG e1) lm_G_35 (by decide) (by decide) rfl rfl (Nat.le_of_ble_eq_true rfl) d_G_actor_4 (by decide) (c1 := 0) (s1 := 0) (by decide) (ax_ret_i (fun h hG => ?_))
  refine ax_if_eq (tgt := 19) M d_G_actor_7 (by decide) (fun c1 => ?_) (fun c1 => ?_)
  · have E := ob_t E c1
    refine ax_iconst (v := (-1)) M d_G_actor_19 (by decide) ?_
    obtain rfl := Option.some.inj E
    exact ax_iret M hR (by decide) (by decide) d_G_actor_20 ⟨rfl, hG⟩
  · have E := ob_f E c1
    refine ax_iload_n M d_G_actor_10 2 rfl ?_
    refine ax_iconst (v := 0) M d_G_actor_11 (by decide) ?_
    refine ax_iconst (v := 3) M d_G_actor_12 (by decide) ?_
    obtain ⟨b2, e2, E⟩ := ob_b E
    refine ax_callS (n := 3) M TT_good (ac_C_isWithin hG e2) lm_G_35 (by decide) (by decide) rfl rfl (Nat.le_of_ble_eq_true rfl) d_G_actor_13 (by decide) (c1 := 0) (s1 := 0) (by decide) (ax_ret_i (fun h hG => ?_))
    refine ax_if_ne (tgt := 21) M d_G_actor_16 (by decide) (fun c2 => ?_) (fun c2 => ?_)
    · have E := ob_f E c2
      refine ax_aload_n M d_G_actor_21 0 rfl ?_
      refine sw_get M hG 0 0 (by decide) in_G rfl rfl 0 (by decide) wd_152 rfl d_G_actor_22 ?_
      refine ax_iload_n M d_G_actor_25 1 rfl ?_
      obtain ⟨k1, E⟩ := ob_c E
      refine sw_aldq (g := fun e => e) M hG 4 0 (by decide) rfl 1 rfl rfl k1 d_G_actor_26 ?_
      refine ax_astore (lv' := [(0, .ref (al 0 0)), (2, .int x2), (3, .int x3), (4, .ref (al 1 (ix x1)))]) M d_G_actor_27 (by decide) [1, 3, 4, 0] rfl ?_
      refine ax_aload M d_G_actor_29 3 rfl ?_
      refine ax_iconst (v := 1) M d_G_actor_31 (by decide) ?_
      refine sw_putN M hG 1 (ix x1) (in_lt k1) in_A t_A tok_A nok_A rfl rfl 0 (by decide) wd_75 rfl rfl rfl (Nat.le_of_ble_eq_true rfl) rfl d_G_actor_32 (fun h hG => ?_)
      refine ax_aload M d_G_actor_35 3 rfl ?_
      refine ax_iload_n M d_G_actor_37 1 rfl ?_
      refine sw_putN M hG 1 (ix x1) (in_lt k1) in_A t_A tok_A nok_A rfl rfl 1 (by decide) wd_77 rfl rfl rfl (Nat.le_of_ble_eq_true rfl) rfl d_G_actor_38 (fun h hG => ?_)
      refine ax_aload M d_G_actor_41 3 rfl ?_
      refine ax_iload_n M d_G_actor_43 2 rfl ?_
      refine sw_putN M hG 1 (ix x1) (in_lt k1) in_A t_A tok_A nok_A rfl rfl 2 (by decide) wd_79 rfl rfl rfl (Nat.le_of_ble_eq_true rfl) rfl d_G_actor_44 (fun h hG => ?_)
      refine ax_aload_n M d_G_actor_47 0 rfl ?_
      refine ax_iconst (v := 0) M d_G_actor_48 (by decide) ?_
      refine sw_put M hG 0 0 (by decide) in_G t_G tok_G nok_G rfl rfl 8 (by decide) wd_160 rfl rfl rfl (Nat.le_of_ble_eq_true rfl) rfl d_G_actor_49 (fun h hG => ?_)
      refine ax_iconst (v := 0) M d_G_actor_52 (by decide) ?_
      obtain rfl := Option.some.inj E
      exact ax_iret M hR (by decide) (by decide) d_G_actor_53 ⟨rfl, hG⟩
    · have E := ob_t E c2
      refine ax_iconst (v := (-1)) M d_G_actor_19 (by decide) ?_
      obtain rfl := Option.some.inj E
      exact ax_iret M hR (by decide) (by decide) d_G_actor_20 ⟨rfl, hG⟩
def C_isActor (σ : ST) (x1 : Int32) : Option (Int32) :=
  (C_isWithin x1 0 7).bind (fun b1 => 
  (if b1 = 0 then
  (some 0) else
  (if inb x1 8 then 
  (if (gi σ 1 (ix x1) 0) = 0 then
  (some 0) else
  (some 1)) else none)))
abbrev rm_C_isActor : Room := { frames := 1, cells := 0, slots := 0, locals := 22 }
set_option maxRecDepth 100000 in
set_option maxHeartbeats 4000000 in
theorem ac_C_isActor {l : Launch} {D : va_G} {cc : Nat → ClassId} {al : Nat → Nat → Nat} {σ : ST} {h0 h : AH} {x1 : Int32} {res : Int32}  (hG : SW dmC (cfC cc) al σ h0 h) (E : C_isActor σ x1 = some res) : AC l D vwCl (tysOf cc) NN y_G_isActor (Cond.code y_G_isActor b_G_isActor 2 (some .boolean) :: TT) rm_C_isActor [.ref (al 0 0), .int x1] h (fun rv h' => rv = some (.int res) ∧ SW dmC (cfC cc) al σ h0 h') := by
  refine AC.of (by decide) rfl (Nat.le_of_ble_eq_true rfl) (fun X M hR hI => ?_)
  unfold C_isActor at E
  refine ax_lv (lv' := [(0, .ref (al 0 0)), (1, .int x1)]) [0, 1] rfl ?_
  refine ax_iload_n M d_G_isActor_0 1 rfl ?_
  refine ax_iconst (v := 0) M d_G_isActor_1 (by decide) ?_
  refine ax_bipush (v := 7) M d_G_isActor_2 (by decide) ?_
  obtain ⟨b1, e1, E⟩ := ob_b E
  refine ax_callS (n := 3) M TT_good (ac_C_isWithin hG e1) lm_G_35 (by decide) (by decide) rfl rfl (Nat.le_of_ble_eq_true rfl) d_G_isActor_4 (by decide) (c1 := 0) (s1 := 0) (by decide) (ax_ret_i (fun h hG => ?_))
  refine ax_if_eq (tgt := 26) M d_G_isActor_7 (by decide) (fun c1 => ?_) (fun c1 => ?_)
  · have E := ob_t E c1
    refine ax_iconst (v := 0) M d_G_isActor_26 (by decide) ?_
    obtain rfl := Option.some.inj E
    exact ax_zret M hR rfl (by decide) (by decide) d_G_isActor_27 ⟨rfl, hG⟩
  · have E := ob_f E c1
    refine ax_aload_n M d_G_isActor_10 0 rfl ?_
    refine sw_get M hG 0 0 (by decide) in_G rfl rfl 0 (by decide) wd_152 rfl d_G_isActor_11 ?_
    refine ax_iload_n M d_G_isActor_14 1 rfl ?_
    obtain ⟨k1, E⟩ := ob_c E
    refine sw_aldq (g := fun e => e) M hG 4 0 (by decide) rfl 1 rfl rfl k1 d_G_isActor_15 ?_
    refine sw_getN M hG 1 (ix x1) (in_lt k1) in_A rfl rfl 0 (by decide) wd_75 rfl d_G_isActor_16 ?_
    refine ax_if_eq (tgt := 26) M d_G_isActor_19 (by decide) (fun c2 => ?_) (fun c2 => ?_)
    · have E := ob_t E c2
      refine ax_iconst (v := 0) M d_G_isActor_26 (by decide) ?_
      obtain rfl := Option.some.inj E
      exact ax_zret M hR rfl (by decide) (by decide) d_G_isActor_27 ⟨rfl, hG⟩
    · have E := ob_f E c2
      refine ax_iconst (v := 1) M d_G_isActor_22 (by decide) ?_
      refine ax_goto (tgt := 27) M d_G_isActor_23 (by decide) ?_
      obtain rfl := Option.some.inj E
      exact ax_zret M hR rfl (by decide) (by decide) d_G_isActor_27 ⟨rfl, hG⟩
def C_edge (σ : ST) (x1 : Int32) (x2 : Int32) (x3 : Int32) (x4 : Int32) (x5 : Int32) : Option (Int32 × ST) :=
  (C_isActor σ x1).bind (fun b1 => 
  (if b1 = 0 then
  (some ((-1, σ))) else
  ((C_isActor σ x2).bind (fun b2 => 
  (if b2 = 0 then
  (some ((-1, σ))) else
  ((C_isWithin x3 1 6).bind (fun b3 => 
  (if b3 = 0 then
  (some ((-1, σ))) else
  ((C_isWithin x4 1 6).bind (fun b4 => 
  (if b4 = 0 then
  (some ((-1, σ))) else
  ((C_isWithin x5 0 12).bind (fun b5 => 
  (if b5 = 0 then
  (some ((-1, σ))) else
  (if (gi σ 0 0 5) < 12 then
  (if inb (gi σ 0 0 5) 12 then 
  (if ix (gi σ 5 0 (ix (gi σ 0 0 5))) < 12 then 
  (some ((((gi σ 0 0 5) + 1) - 1, su (su (su (su (su (su (su σ 2 (ix (gi σ 5 0 (ix (gi σ 0 0 5)))) 1 x1) 2 (ix (gi σ 5 0 (ix (gi σ 0 0 5)))) 2 x2) 2 (ix (gi σ 5 0 (ix (gi σ 0 0 5)))) 3 x3) 2 (ix (gi σ 5 0 (ix (gi σ 0 0 5)))) 4 x4) 2 (ix (gi σ 5 0 (ix (gi σ 0 0 5)))) 5 x5) 0 0 8 0) 0 0 5 ((gi σ 0 0 5) + 1)))) else none) else none) else
  (some ((-2, σ))))))))))))))))))
abbrev rm_C_edge : Room := { frames := 2, cells := 0, slots := 0, locals := 43 }
set_option maxRecDepth 100000 in
set_option maxHeartbeats 4000000 in
theorem ac_C_edge {l : Launch} {D : va_G} {cc : Nat → ClassId} {al : Nat → Nat → Nat} {σ : ST} {h0 h : AH} {x1 : Int32} {x2 : Int32} {x3 : Int32} {x4 : Int32} {x5 : Int32} {res : Int32 × ST}  (hG : SW dmC (cfC cc) al σ h0 h) (E : C_edge σ x1 x2 x3 x4 x5 = some res) : AC l D vwCl (tysOf cc) NN y_G_edge (Cond.code y_G_edge b_G_edge 7 (some .int) :: TT) rm_C_edge [.ref (al 0 0), .int x1, .int x2, .int x3, .int x4, .int x5] h (fun rv h' => rv = some (.int res.1) ∧ SW dmC (cfC cc) al res.2 h0 h') := by
  refine AC.of (by decide) rfl (Nat.le_of_ble_eq_true rfl) (fun X M hR hI => ?_)
  unfold C_edge at E
  refine ax_lv (lv' := [(0, .ref (al 0 0)), (1, .int x1), (2, .int x2), (3, .int x3), (4, .int x4), (5, .int x5)]) [0, 1, 2, 3, 4, 5] rfl ?_
  refine ax_aload_n M d_G_edge_0 0 rfl ?_
  refine ax_iload_n M d_G_edge_1 1 rfl ?_
  obtain ⟨b1, e1, E⟩ := ob_b E
  refine ax_callV (n := 1) (C := R_G) (q := (R_G, F_G, 9)) M TT_good rfl rfl (SW.at hG 0 0 (by decide)) (ac_C_isActor hG e1) lm_G_53 (by decide) (by decide) rfl rfl (Nat.le_of_ble_eq_true rfl) d_G_edge_2 (by decide) (c1 := 0) (s1 := 0) (by decide) (ax_ret_i (fun h hG => ?_))
  refine ax_if_eq (tgt := 16) M d_G_edge_5 (by decide) (fun c1 => ?_) (fun c1 => ?_)
  · have E := ob_t E c1
    refine ax_iconst (v := (-1)) M d_G_edge_16 (by decide) ?_
    obtain rfl := Option.some.inj E
    exact ax_iret M hR (by decide) (by decide) d_G_edge_17 ⟨rfl, hG⟩
  · have E := ob_f E c1
    refine ax_aload_n M d_G_edge_8 0 rfl ?_
    refine ax_iload_n M d_G_edge_9 2 rfl ?_
    obtain ⟨b2, e2, E⟩ := ob_b E
    refine ax_callV (n := 1) (C := R_G) (q := (R_G, F_G, 9)) M TT_good rfl rfl (SW.at hG 0 0 (by decide)) (ac_C_isActor hG e2) lm_G_53 (by decide) (by decide) rfl rfl (Nat.le_of_ble_eq_true rfl) d_G_edge_10 (by decide) (c1 := 0) (s1 := 0) (by decide) (ax_ret_i (fun h hG => ?_))
    refine ax_if_ne (tgt := 18) M d_G_edge_13 (by decide) (fun c2 => ?_) (fun c2 => ?_)
    · have E := ob_f E c2
      refine ax_iload_n M d_G_edge_18 3 rfl ?_
      refine ax_iconst (v := 1) M d_G_edge_19 (by decide) ?_
      refine ax_bipush (v := 6) M d_G_edge_20 (by decide) ?_
      obtain ⟨b3, e3, E⟩ := ob_b E
      refine ax_callS (n := 3) M TT_good (ac_C_isWithin hG e3) lm_G_35 (by decide) (by decide) rfl rfl (Nat.le_of_ble_eq_true rfl) d_G_edge_22 (by decide) (c1 := 0) (s1 := 0) (by decide) (ax_ret_i (fun h hG => ?_))
      refine ax_if_eq (tgt := 50) M d_G_edge_25 (by decide) (fun c3 => ?_) (fun c3 => ?_)
      · have E := ob_t E c3
        refine ax_iconst (v := (-1)) M d_G_edge_50 (by decide) ?_
        obtain rfl := Option.some.inj E
        exact ax_iret M hR (by decide) (by decide) d_G_edge_51 ⟨rfl, hG⟩
      · have E := ob_f E c3
        refine ax_iload M d_G_edge_28 4 rfl ?_
        refine ax_iconst (v := 1) M d_G_edge_30 (by decide) ?_
        refine ax_bipush (v := 6) M d_G_edge_31 (by decide) ?_
        obtain ⟨b4, e4, E⟩ := ob_b E
        refine ax_callS (n := 3) M TT_good (ac_C_isWithin hG e4) lm_G_35 (by decide) (by decide) rfl rfl (Nat.le_of_ble_eq_true rfl) d_G_edge_33 (by decide) (c1 := 0) (s1 := 0) (by decide) (ax_ret_i (fun h hG => ?_))
        refine ax_if_eq (tgt := 50) M d_G_edge_36 (by decide) (fun c4 => ?_) (fun c4 => ?_)
        · have E := ob_t E c4
          refine ax_iconst (v := (-1)) M d_G_edge_50 (by decide) ?_
          obtain rfl := Option.some.inj E
          exact ax_iret M hR (by decide) (by decide) d_G_edge_51 ⟨rfl, hG⟩
        · have E := ob_f E c4
          refine ax_iload M d_G_edge_39 5 rfl ?_
          refine ax_iconst (v := 0) M d_G_edge_41 (by decide) ?_
          refine ax_bipush (v := 12) M d_G_edge_42 (by decide) ?_
          obtain ⟨b5, e5, E⟩ := ob_b E
          refine ax_callS (n := 3) M TT_good (ac_C_isWithin hG e5) lm_G_35 (by decide) (by decide) rfl rfl (Nat.le_of_ble_eq_true rfl) d_G_edge_44 (by decide) (c1 := 0) (s1 := 0) (by decide) (ax_ret_i (fun h hG => ?_))
          refine ax_if_ne (tgt := 52) M d_G_edge_47 (by decide) (fun c5 => ?_) (fun c5 => ?_)
          · have E := ob_f E c5
            refine ax_aload_n M d_G_edge_52 0 rfl ?_
            refine sw_get M hG 0 0 (by decide) in_G rfl rfl 5 (by decide) wd_157 rfl d_G_edge_53 ?_
            refine ax_bipush (v := 12) M d_G_edge_56 (by decide) ?_
            refine ax_icmp_lt (tgt := 64) M d_G_edge_58 (by decide) (fun c6 => ?_) (fun c6 => ?_)
            · have E := ob_t E c6
              refine ax_aload_n M d_G_edge_64 0 rfl ?_
              refine sw_get M hG 0 0 (by decide) in_G rfl rfl 1 (by decide) wd_153 rfl d_G_edge_65 ?_
              refine ax_aload_n M d_G_edge_68 0 rfl ?_
              refine sw_get M hG 0 0 (by decide) in_G rfl rfl 5 (by decide) wd_157 rfl d_G_edge_69 ?_
              obtain ⟨k1, E⟩ := ob_c E
              refine sw_aldq (g := fun e => ix (gi σ 5 0 e)) M hG 5 0 (by decide) rfl 2 rfl rfl k1 d_G_edge_72 ?_
              obtain ⟨k2, E⟩ := ob_c E
              refine ax_astore (lv' := [(0, .ref (al 0 0)), (1, .int x1), (2, .int x2), (3, .int x3), (4, .int x4), (5, .int x5), (6, .ref (al 2 (ix (gi σ 5 0 (ix (gi σ 0 0 5))))))]) M d_G_edge_73 (by decide) [1, 2, 3, 4, 5, 6, 0] rfl ?_
              refine ax_aload M d_G_edge_75 6 rfl ?_
              refine ax_iload_n M d_G_edge_77 1 rfl ?_
              refine sw_putN M hG 2 (ix (gi σ 5 0 (ix (gi σ 0 0 5)))) k2 in_E t_E tok_E nok_E rfl rfl 1 (by decide) wd_120 rfl rfl rfl (Nat.le_of_ble_eq_true rfl) rfl d_G_edge_78 (fun h hG => ?_)
              refine ax_aload M d_G_edge_81 6 rfl ?_
              refine ax_iload_n M d_G_edge_83 2 rfl ?_
              refine sw_putN M hG 2 (ix (gi σ 5 0 (ix (gi σ 0 0 5)))) k2 in_E t_E tok_E nok_E rfl rfl 2 (by decide) wd_122 rfl rfl rfl (Nat.le_of_ble_eq_true rfl) rfl d_G_edge_84 (fun h hG => ?_)
              refine ax_aload M d_G_edge_87 6 rfl ?_
              refine ax_iload_n M d_G_edge_89 3 rfl ?_
              refine sw_putN M hG 2 (ix (gi σ 5 0 (ix (gi σ 0 0 5)))) k2 in_E t_E tok_E nok_E rfl rfl 3 (by decide) wd_123 rfl rfl rfl (Nat.le_of_ble_eq_true rfl) rfl d_G_edge_90 (fun h hG => ?_)
              refine ax_aload M d_G_edge_93 6 rfl ?_
              refine ax_iload M d_G_edge_95 4 rfl ?_
              refine sw_putN M hG 2 (ix (gi σ 5 0 (ix (gi σ 0 0 5)))) k2 in_E t_E tok_E nok_E rfl rfl 4 (by decide) wd_125 rfl rfl rfl (Nat.le_of_ble_eq_true rfl) rfl d_G_edge_97 (fun h hG => ?_)
              refine ax_aload M d_G_edge_100 6 rfl ?_
              refine ax_iload M d_G_edge_102 5 rfl ?_
              refine sw_putN M hG 2 (ix (gi σ 5 0 (ix (gi σ 0 0 5)))) k2 in_E t_E tok_E nok_E rfl rfl 5 (by decide) wd_128 rfl rfl rfl (Nat.le_of_ble_eq_true rfl) rfl d_G_edge_104 (fun h hG => ?_)
              refine ax_aload_n M d_G_edge_107 0 rfl ?_
              refine ax_iconst (v := 0) M d_G_edge_108 (by decide) ?_
              refine sw_put M hG 0 0 (by decide) in_G t_G tok_G nok_G rfl rfl 8 (by decide) wd_160 rfl rfl rfl (Nat.le_of_ble_eq_true rfl) rfl d_G_edge_109 (fun h hG => ?_)
              refine ax_aload_n M d_G_edge_112 0 rfl ?_
              refine ax_dup M d_G_edge_113 rfl ?_
              refine sw_get M hG 0 0 (by decide) in_G rfl rfl 5 (by decide) wd_157 rfl d_G_edge_114 ?_
              refine ax_topi (gi σ 0 0 5) ((gi_k (by decide)).trans ((gi_K (by decide)).trans ((gi_K (by decide)).trans ((gi_K (by decide)).trans ((gi_K (by decide)).trans (gi_K (by decide))))))) ?_
              refine ax_iconst (v := 1) M d_G_edge_117 (by decide) ?_
              refine ax_iadd M d_G_edge_118 ?_
              refine sw_put M hG 0 0 (by decide) in_G t_G tok_G nok_G rfl rfl 5 (by decide) wd_157 rfl rfl rfl (Nat.le_of_ble_eq_true rfl) rfl d_G_edge_119 (fun h hG => ?_)
              refine ax_aload_n M d_G_edge_122 0 rfl ?_
              refine sw_get M hG 0 0 (by decide) in_G rfl rfl 5 (by decide) wd_157 rfl d_G_edge_123 ?_
              refine ax_topi ((gi σ 0 0 5) + 1) gi_same ?_
              refine ax_iconst (v := 1) M d_G_edge_126 (by decide) ?_
              refine ax_isub M d_G_edge_127 ?_
              obtain rfl := Option.some.inj E
              exact ax_iret M hR (by decide) (by decide) d_G_edge_128 ⟨rfl, hG⟩
            · have E := ob_f E c6
              refine ax_bipush (v := -2) M d_G_edge_61 (by decide) ?_
              obtain rfl := Option.some.inj E
              exact ax_iret M hR (by decide) (by decide) d_G_edge_63 ⟨rfl, hG⟩
          · have E := ob_t E c5
            refine ax_iconst (v := (-1)) M d_G_edge_50 (by decide) ?_
            obtain rfl := Option.some.inj E
            exact ax_iret M hR (by decide) (by decide) d_G_edge_51 ⟨rfl, hG⟩
    · have E := ob_t E c2
      refine ax_iconst (v := (-1)) M d_G_edge_16 (by decide) ?_
      obtain rfl := Option.some.inj E
      exact ax_iret M hR (by decide) (by decide) d_G_edge_17 ⟨rfl, hG⟩
def C_isEdge (σ : ST) (x1 : Int32) : Option (Int32) :=
  (C_isWithin x1 0 ((gi σ 0 0 5) - 1)).bind (fun b1 => 
  (if isb b1 then 
  (some b1) else none))
abbrev rm_C_isEdge : Room := { frames := 1, cells := 0, slots := 0, locals := 22 }
set_option maxRecDepth 100000 in
set_option maxHeartbeats 4000000 in
theorem ac_C_isEdge {l : Launch} {D : va_G} {cc : Nat → ClassId} {al : Nat → Nat → Nat} {σ : ST} {h0 h : AH} {x1 : Int32} {res : Int32}  (hG : SW dmC (cfC cc) al σ h0 h) (E : C_isEdge σ x1 = some res) : AC l D vwCl (tysOf cc) NN y_G_isEdge (Cond.code y_G_isEdge b_G_isEdge 2 (some .boolean) :: TT) rm_C_isEdge [.ref (al 0 0), .int x1] h (fun rv h' => rv = some (.int res) ∧ SW dmC (cfC cc) al σ h0 h') := by
  refine AC.of (by decide) rfl (Nat.le_of_ble_eq_true rfl) (fun X M hR hI => ?_)
  unfold C_isEdge at E
  refine ax_lv (lv' := [(0, .ref (al 0 0)), (1, .int x1)]) [0, 1] rfl ?_
  refine ax_iload_n M d_G_isEdge_0 1 rfl ?_
  refine ax_iconst (v := 0) M d_G_isEdge_1 (by decide) ?_
  refine ax_aload_n M d_G_isEdge_2 0 rfl ?_
  refine sw_get M hG 0 0 (by decide) in_G rfl rfl 5 (by decide) wd_157 rfl d_G_isEdge_3 ?_
  refine ax_iconst (v := 1) M d_G_isEdge_6 (by decide) ?_
  refine ax_isub M d_G_isEdge_7 ?_
  obtain ⟨b1, e1, E⟩ := ob_b E
  refine ax_callS (n := 3) M TT_good (ac_C_isWithin hG e1) lm_G_35 (by decide) (by decide) rfl rfl (Nat.le_of_ble_eq_true rfl) d_G_isEdge_8 (by decide) (c1 := 0) (s1 := 0) (by decide) (ax_ret_i (fun h hG => ?_))
  obtain ⟨k1, E⟩ := ob_c E
  obtain rfl := Option.some.inj E
  exact ax_zret M hR (isb_narrow k1) (by decide) (by decide) d_G_isEdge_11 ⟨rfl, hG⟩
def C_unedge (σ : ST) (x1 : Int32) : Option (Int32 × ST) :=
  (C_isEdge σ x1).bind (fun b1 => 
  (if b1 = 0 then
  (some ((-1, σ))) else
  (if inb x1 12 then 
  (if ix (gi σ 5 0 (ix x1)) < 12 then 
  ((lp (fun s1 : ST × Int32 =>
  if ((gi s1.1 0 0 5) - 1) ≤ s1.2 then
  (some (.inr ((s1.1, s1.2)))) else
  (if inb (s1.2 + 1) 12 then 
  (if ix (gi s1.1 5 0 (ix (s1.2 + 1))) < 12 then 
  (if inb s1.2 12 then 
  (some (.inl ((su s1.1 5 0 (ix s1.2) (nI (ix (gi s1.1 5 0 (ix (s1.2 + 1))))), s1.2 + 1)))) else none) else none) else none)) 1000 ((σ, x1))).bind (fun r1 : ST × Int32 =>
  if inb ((gi r1.1 0 0 5) - 1) 12 then 
  (some (((gi r1.1 0 0 5) - 1, su (su (su r1.1 5 0 (ix ((gi r1.1 0 0 5) - 1)) (nI (ix (gi σ 5 0 (ix x1))))) 0 0 5 ((gi r1.1 0 0 5) - 1)) 0 0 8 0))) else none)) else none) else none)))
abbrev rm_C_unedge : Room := { frames := 2, cells := 0, slots := 0, locals := 43 }
set_option maxRecDepth 100000 in
set_option maxHeartbeats 4000000 in
theorem ac_C_unedge {l : Launch} {D : va_G} {cc : Nat → ClassId} {al : Nat → Nat → Nat} {σ : ST} {h0 h : AH} {x1 : Int32} {res : Int32 × ST}  (hG : SW dmC (cfC cc) al σ h0 h) (E : C_unedge σ x1 = some res) : AC l D vwCl (tysOf cc) NN y_G_unedge (Cond.code y_G_unedge b_G_unedge 4 (some .int) :: TT) rm_C_unedge [.ref (al 0 0), .int x1] h (fun rv h' => rv = some (.int res.1) ∧ SW dmC (cfC cc) al res.2 h0 h') := by
  refine AC.of (by decide) rfl (Nat.le_of_ble_eq_true rfl) (fun X M hR hI => ?_)
  unfold C_unedge at E
  refine ax_lv (lv' := [(0, .ref (al 0 0)), (1, .int x1)]) [0, 1] rfl ?_
  refine ax_aload_n M d_G_unedge_0 0 rfl ?_
  refine ax_iload_n M d_G_unedge_1 1 rfl ?_
  obtain ⟨b1, e1, E⟩ := ob_b E
  refine ax_callV (n := 1) (C := R_G) (q := (R_G, F_G, 9)) M TT_good rfl rfl (SW.at hG 0 0 (by decide)) (ac_C_isEdge hG e1) lm_G_75 (by decide) (by decide) rfl rfl (Nat.le_of_ble_eq_true rfl) d_G_unedge_2 (by decide) (c1 := 0) (s1 := 0) (by decide) (ax_ret_i (fun h hG => ?_))
  refine ax_if_ne (tgt := 10) M d_G_unedge_5 (by decide) (fun c1 => ?_) (fun c1 => ?_)
  · have E := ob_f E c1
    refine ax_aload_n M d_G_unedge_10 0 rfl ?_
    refine sw_get M hG 0 0 (by decide) in_G rfl rfl 1 (by decide) wd_153 rfl d_G_unedge_11 ?_
    refine ax_iload_n M d_G_unedge_14 1 rfl ?_
    obtain ⟨k1, E⟩ := ob_c E
    refine sw_aldq (g := fun e => ix (gi σ 5 0 e)) M hG 5 0 (by decide) rfl 2 rfl rfl k1 d_G_unedge_15 ?_
    obtain ⟨k2, E⟩ := ob_c E
    refine ax_astore_n (lv' := [(0, .ref (al 0 0)), (1, .int x1), (2, .ref (al 2 (ix (gi σ 5 0 (ix x1)))))]) M d_G_unedge_16 (by decide) [1, 2, 0] rfl ?_
    refine ax_iload_n M d_G_unedge_17 1 rfl ?_
    refine ax_istore_n (lv' := [(0, .ref (al 0 0)), (2, .ref (al 2 (ix (gi σ 5 0 (ix x1))))), (3, .int x1)]) M d_G_unedge_18 (by decide) [1, 3, 0] rfl ?_
    refine ax_lv (lv' := [(0, .ref (al 0 0)), (2, .ref (al 2 (ix (gi σ 5 0 (ix x1))))), (3, .int x1)]) [0, 1, 2] rfl ?_
    obtain ⟨r1, l1, E⟩ := ob_b E
    refine lp_walk (fun (s1 : ST × Int32) => ∀ h : AH, SW dmC (cfC cc) al s1.1 h0 h → AW l D vwCl rm_C_unedge 4 X 0 0 h 19 [(0, .ref (al 0 0)), (2, .ref (al 2 (ix (gi σ 5 0 (ix x1))))), (3, .int s1.2)] []) (fun (r1 : ST × Int32) => ∀ h : AH, SW dmC (cfC cc) al r1.1 h0 h → AW l D vwCl rm_C_unedge 4 X 0 0 h 49 [(0, .ref (al 0 0)), (2, .ref (al 2 (ix (gi σ 5 0 (ix x1))))), (3, .int r1.2)] []) ?_ _ _ _ l1 ?_ h hG
    · intro s1 y1 E K1 K2 h hG
      refine ax_iload_n M d_G_unedge_19 2 rfl ?_
      refine ax_aload_n M d_G_unedge_20 0 rfl ?_
      refine sw_get M hG 0 0 (by decide) in_G rfl rfl 5 (by decide) wd_157 rfl d_G_unedge_21 ?_
      refine ax_iconst (v := 1) M d_G_unedge_24 (by decide) ?_
      refine ax_isub M d_G_unedge_25 ?_
      refine ax_icmp_ge (tgt := 49) M d_G_unedge_26 (by decide) (fun c2 => ?_) (fun c2 => ?_)
      · have E := ob_t E c2
        obtain rfl := Option.some.inj E
        refine ax_lv (lv' := [(0, .ref (al 0 0)), (2, .ref (al 2 (ix (gi σ 5 0 (ix x1))))), (3, .int s1.2)]) [0, 1, 2] rfl ?_
        exact (K2 _ rfl) h hG
      · have E := ob_f E c2
        refine ax_aload_n M d_G_unedge_29 0 rfl ?_
        refine sw_get M hG 0 0 (by decide) in_G rfl rfl 1 (by decide) wd_153 rfl d_G_unedge_30 ?_
        refine ax_iload_n M d_G_unedge_33 2 rfl ?_
        refine ax_aload_n M d_G_unedge_34 0 rfl ?_
        refine sw_get M hG 0 0 (by decide) in_G rfl rfl 1 (by decide) wd_153 rfl d_G_unedge_35 ?_
        refine ax_iload_n M d_G_unedge_38 2 rfl ?_
        refine ax_iconst (v := 1) M d_G_unedge_39 (by decide) ?_
        refine ax_iadd M d_G_unedge_40 ?_
        obtain ⟨k3, E⟩ := ob_c E
        refine sw_aldq (g := fun e => ix (gi s1.1 5 0 e)) M hG 5 0 (by decide) rfl 2 rfl rfl k3 d_G_unedge_41 ?_
        obtain ⟨k4, E⟩ := ob_c E
        obtain ⟨k5, E⟩ := ob_c E
        refine sw_astq M hG 5 0 (by decide) k4 (Nat.lt_trans k4 (by decide)) rfl 2 rfl rfl rfl k5 rfl d_G_unedge_42 (fun h hG => ?_)
        refine ax_iinc (v := s1.2 + 1) (lv' := [(0, .ref (al 0 0)), (2, .ref (al 2 (ix (gi σ 5 0 (ix x1))))), (3, .int (s1.2 + 1))]) M d_G_unedge_43 2 rfl rfl (by decide) [1, 2, 0] rfl ?_
        refine ax_goto (tgt := 19) M d_G_unedge_46 (by decide) ?_
        obtain rfl := Option.some.inj E
        refine ax_lv (lv' := [(0, .ref (al 0 0)), (2, .ref (al 2 (ix (gi σ 5 0 (ix x1))))), (3, .int (s1.2 + 1))]) [0, 1, 2] rfl ?_
        exact K1 _ rfl h hG
    · intro h hG
      refine ax_aload_n M d_G_unedge_49 0 rfl ?_
      refine sw_get M hG 0 0 (by decide) in_G rfl rfl 1 (by decide) wd_153 rfl d_G_unedge_50 ?_
      refine ax_aload_n M d_G_unedge_53 0 rfl ?_
      refine sw_get M hG 0 0 (by decide) in_G rfl rfl 5 (by decide) wd_157 rfl d_G_unedge_54 ?_
      refine ax_iconst (v := 1) M d_G_unedge_57 (by decide) ?_
      refine ax_isub M d_G_unedge_58 ?_
      refine ax_aload_n M d_G_unedge_59 1 rfl ?_
      obtain ⟨k6, E⟩ := ob_c E
      refine sw_astq M hG 5 0 (by decide) k2 (Nat.lt_trans k2 (by decide)) rfl 2 rfl rfl rfl k6 rfl d_G_unedge_60 (fun h hG => ?_)
      refine ax_aload_n M d_G_unedge_61 0 rfl ?_
      refine ax_dup M d_G_unedge_62 rfl ?_
      refine sw_get M hG 0 0 (by decide) in_G rfl rfl 5 (by decide) wd_157 rfl d_G_unedge_63 ?_
      refine ax_topi (gi r1.1 0 0 5) (gi_K (by decide)) ?_
      refine ax_iconst (v := 1) M d_G_unedge_66 (by decide) ?_
      refine ax_isub M d_G_unedge_67 ?_
      refine sw_put M hG 0 0 (by decide) in_G t_G tok_G nok_G rfl rfl 5 (by decide) wd_157 rfl rfl rfl (Nat.le_of_ble_eq_true rfl) rfl d_G_unedge_68 (fun h hG => ?_)
      refine ax_aload_n M d_G_unedge_71 0 rfl ?_
      refine ax_iconst (v := 0) M d_G_unedge_72 (by decide) ?_
      refine sw_put M hG 0 0 (by decide) in_G t_G tok_G nok_G rfl rfl 8 (by decide) wd_160 rfl rfl rfl (Nat.le_of_ble_eq_true rfl) rfl d_G_unedge_73 (fun h hG => ?_)
      refine ax_aload_n M d_G_unedge_76 0 rfl ?_
      refine sw_get M hG 0 0 (by decide) in_G rfl rfl 5 (by decide) wd_157 rfl d_G_unedge_77 ?_
      refine ax_topi ((gi r1.1 0 0 5) - 1) ((gi_k (by decide)).trans gi_same) ?_
      obtain rfl := Option.some.inj E
      exact ax_iret M hR (by decide) (by decide) d_G_unedge_80 ⟨rfl, hG⟩
  · have E := ob_t E c1
    refine ax_iconst (v := (-1)) M d_G_unedge_8 (by decide) ?_
    obtain rfl := Option.some.inj E
    exact ax_iret M hR (by decide) (by decide) d_G_unedge_9 ⟨rfl, hG⟩
