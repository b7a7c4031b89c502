def M_isActor (σ : ST) (x1 : Int32) : Option (Int32) :=
  if x1 < 0 then
  (some 0) else
  (if 8 ≤ x1 then
  (some 0) else
  (if inb x1 8 then 
  (if (gi σ 1 0 (ix x1)) = 0 then
  (some 0) else
  (some 1)) else none))
abbrev rm_M_isActor : Room := { frames := 0, cells := 0, slots := 0, locals := 0 }
set_option maxRecDepth 100000 in
set_option maxHeartbeats 4000000 in
theorem ac_M_isActor {l : Launch} {D : va_G} {cc : Nat → ClassId} {al : Nat → Nat → Nat} {σ : ST} {h0 h : AH} {x1 : Int32} {res : Int32}  (hG : SW dmM (cfM cc) al σ h0 h) (E : M_isActor σ x1 = some res) : AC l D vwCl (tysOf cc) NN y_M_isActor (Cond.code y_M_isActor b_M_isActor 2 (some .boolean) :: TT) rm_M_isActor [.ref (al 0 0), .int x1] h (fun rv h' => rv = some (.int res) ∧ SW dmM (cfM cc) al σ h0 h') := by
  refine AC.of (by decide) rfl (Nat.le_of_ble_eq_true rfl) (fun X M hR hI => ?_)
  unfold M_isActor at E
  refine ax_lv (lv' := [(0, .ref (al 0 0)), (1, .int x1)]) [0, 1] rfl ?_
  refine ax_iload_n M d_M_isActor_0 1 rfl ?_
  refine ax_if_lt (tgt := 23) M d_M_isActor_1 (by decide) (fun c1 => ?_) (fun c1 => ?_)
  · have E := ob_t E c1
    refine ax_iconst (v := 0) M d_M_isActor_23 (by decide) ?_
    obtain rfl := Option.some.inj E
    exact ax_zret M hR rfl (by decide) (by decide) d_M_isActor_24 ⟨rfl, hG⟩
  · have E := ob_f E c1
    refine ax_iload_n M d_M_isActor_4 1 rfl ?_
    refine ax_bipush (v := 8) M d_M_isActor_5 (by decide) ?_
    refine ax_icmp_ge (tgt := 23) M d_M_isActor_7 (by decide) (fun c2 => ?_) (fun c2 => ?_)
    · have E := ob_t E c2
      refine ax_iconst (v := 0) M d_M_isActor_23 (by decide) ?_
      obtain rfl := Option.some.inj E
      exact ax_zret M hR rfl (by decide) (by decide) d_M_isActor_24 ⟨rfl, hG⟩
    · have E := ob_f E c2
      refine ax_aload_n M d_M_isActor_10 0 rfl ?_
      refine sw_get M hG 0 0 (by decide) in_M rfl rfl 0 (by decide) wd_404 rfl d_M_isActor_11 ?_
      refine ax_iload_n M d_M_isActor_14 1 rfl ?_
      obtain ⟨k1, E⟩ := ob_c E
      refine sw_zald M hG 1 0 (by decide) rfl 4 rfl k1 d_M_isActor_15 ?_
      refine ax_if_eq (tgt := 23) M d_M_isActor_16 (by decide) (fun c3 => ?_) (fun c3 => ?_)
      · have E := ob_t E c3
        refine ax_iconst (v := 0) M d_M_isActor_23 (by decide) ?_
        obtain rfl := Option.some.inj E
        exact ax_zret M hR rfl (by decide) (by decide) d_M_isActor_24 ⟨rfl, hG⟩
      · have E := ob_f E c3
        refine ax_iconst (v := 1) M d_M_isActor_19 (by decide) ?_
        refine ax_goto (tgt := 24) M d_M_isActor_20 (by decide) ?_
        obtain rfl := Option.some.inj E
        exact ax_zret M hR rfl (by decide) (by decide) d_M_isActor_24 ⟨rfl, hG⟩
def M_actor (σ : ST) (x1 : Int32) (x2 : Int32) (x3 : Int32) : Option (Int32 × ST) :=
  if x1 < 0 then
  (some ((-1, σ))) else
  (if 7 < x1 then
  (some ((-1, σ))) else
  (if x2 < 0 then
  (some ((-1, σ))) else
  (if x2 ≤ 3 then
  (if inb x1 8 then 
  (some ((0, su (su (su (su σ 1 0 (ix x1) 1) 2 0 (ix x1) x2) 3 0 (ix x1) x3) 0 0 9 0))) else none) else
  (some ((-1, σ))))))
abbrev rm_M_actor : Room := { frames := 0, cells := 0, slots := 0, locals := 0 }
set_option maxRecDepth 100000 in
set_option maxHeartbeats 4000000 in
theorem ac_M_actor {l : Launch} {D : va_G} {cc : Nat → ClassId} {al : Nat → Nat → Nat} {σ : ST} {h0 h : AH} {x1 : Int32} {x2 : Int32} {x3 : Int32} {res : Int32 × ST}  (hG : SW dmM (cfM cc) al σ h0 h) (E : M_actor σ x1 x2 x3 = some res) : AC l D vwCl (tysOf cc) NN y_M_actor (Cond.code y_M_actor b_M_actor 4 (some .int) :: TT) rm_M_actor [.ref (al 0 0), .int x1, .int x2, .int x3] h (fun rv h' => rv = some (.int res.1) ∧ SW dmM (cfM cc) al res.2 h0 h') := by
  refine AC.of (by decide) rfl (Nat.le_of_ble_eq_true rfl) (fun X M hR hI => ?_)
  unfold M_actor at E
  refine ax_lv (lv' := [(0, .ref (al 0 0)), (1, .int x1), (2, .int x2), (3, .int x3)]) [0, 1, 2, 3] rfl ?_
  refine ax_iload_n M d_M_actor_0 1 rfl ?_
  refine ax_if_lt (tgt := 19) M d_M_actor_1 (by decide) (fun c1 => ?_) (fun c1 => ?_)
  · have E := ob_t E c1
    refine ax_iconst (v := (-1)) M d_M_actor_19 (by decide) ?_
    obtain rfl := Option.some.inj E
    exact ax_iret M hR (by decide) (by decide) d_M_actor_20 ⟨rfl, hG⟩
  · have E := ob_f E c1
    refine ax_iload_n M d_M_actor_4 1 rfl ?_
    refine ax_bipush (v := 7) M d_M_actor_5 (by decide) ?_
    refine ax_icmp_gt (tgt := 19) M d_M_actor_7 (by decide) (fun c2 => ?_) (fun c2 => ?_)
    · have E := ob_t E c2
      refine ax_iconst (v := (-1)) M d_M_actor_19 (by decide) ?_
      obtain rfl := Option.some.inj E
      exact ax_iret M hR (by decide) (by decide) d_M_actor_20 ⟨rfl, hG⟩
    · have E := ob_f E c2
      refine ax_iload_n M d_M_actor_10 2 rfl ?_
      refine ax_if_lt (tgt := 19) M d_M_actor_11 (by decide) (fun c3 => ?_) (fun c3 => ?_)
      · have E := ob_t E c3
        refine ax_iconst (v := (-1)) M d_M_actor_19 (by decide) ?_
        obtain rfl := Option.some.inj E
        exact ax_iret M hR (by decide) (by decide) d_M_actor_20 ⟨rfl, hG⟩
      · have E := ob_f E c3
        refine ax_iload_n M d_M_actor_14 2 rfl ?_
        refine ax_iconst (v := 3) M d_M_actor_15 (by decide) ?_
        refine ax_icmp_le (tgt := 21) M d_M_actor_16 (by decide) (fun c4 => ?_) (fun c4 => ?_)
        · have E := ob_t E c4
          refine ax_aload_n M d_M_actor_21 0 rfl ?_
          refine sw_get M hG 0 0 (by decide) in_M rfl rfl 0 (by decide) wd_404 rfl d_M_actor_22 ?_
          refine ax_iload_n M d_M_actor_25 1 rfl ?_
          refine ax_iconst (v := 1) M d_M_actor_26 (by decide) ?_
          obtain ⟨k1, E⟩ := ob_c E
          refine sw_zast M hG 1 0 (by decide) rfl 4 rfl k1 (by decide) rfl d_M_actor_27 (fun h hG => ?_)
          refine ax_aload_n M d_M_actor_28 0 rfl ?_
          refine sw_get M hG 0 0 (by decide) in_M rfl rfl 1 (by decide) wd_405 rfl d_M_actor_29 ?_
          refine ax_iload_n M d_M_actor_32 1 rfl ?_
          refine ax_iload_n M d_M_actor_33 2 rfl ?_
          refine sw_iast M hG 2 0 (by decide) rfl 0 rfl k1 rfl d_M_actor_34 (fun h hG => ?_)
          refine ax_aload_n M d_M_actor_35 0 rfl ?_
          refine sw_get M hG 0 0 (by decide) in_M rfl rfl 2 (by decide) wd_406 rfl d_M_actor_36 ?_
          refine ax_iload_n M d_M_actor_39 1 rfl ?_
          refine ax_iload_n M d_M_actor_40 3 rfl ?_
          refine sw_iast M hG 3 0 (by decide) rfl 0 rfl k1 rfl d_M_actor_41 (fun h hG => ?_)
          refine ax_aload_n M d_M_actor_42 0 rfl ?_
          refine ax_iconst (v := 0) M d_M_actor_43 (by decide) ?_
          refine sw_put M hG 0 0 (by decide) in_M t_M tok_M nok_M rfl rfl 9 (by decide) wd_413 rfl rfl rfl (Nat.le_of_ble_eq_true rfl) rfl d_M_actor_44 (fun h hG => ?_)
          refine ax_iconst (v := 0) M d_M_actor_47 (by decide) ?_
          obtain rfl := Option.some.inj E
          exact ax_iret M hR (by decide) (by decide) d_M_actor_48 ⟨rfl, hG⟩
        · have E := ob_f E c4
          refine ax_iconst (v := (-1)) M d_M_actor_19 (by decide) ?_
          obtain rfl := Option.some.inj E
          exact ax_iret M hR (by decide) (by decide) d_M_actor_20 ⟨rfl, hG⟩
def M_edge (σ : ST) (x1 : Int32) (x2 : Int32) (x3 : Int32) (x4 : Int32) (x5 : Int32) : Option (Int32 × ST) :=
  (M_isActor σ x1).bind (fun b1 => 
  (if b1 = 0 then
  (some ((-1, σ))) else
  ((M_isActor σ x2).bind (fun b2 => 
  (if b2 = 0 then
  (some ((-1, σ))) else
  (if x3 < 1 then
  (some ((-1, σ))) else
  (if 6 < x3 then
  (some ((-1, σ))) else
  (if x4 < 1 then
  (some ((-1, σ))) else
  (if 6 < x4 then
  (some ((-1, σ))) else
  (if x5 < 0 then
  (some ((-1, σ))) else
  (if x5 ≤ 12 then
  (if (gi σ 0 0 8) = 12 then
  (some ((-2, σ))) else
  (if inb (gi σ 0 0 8) 13 then 
  (some ((((gi σ 0 0 8) + 1) - 1, su (su (su (su (su (su (su σ 4 0 (ix (gi σ 0 0 8)) x1) 5 0 (ix (gi σ 0 0 8)) x2) 6 0 (ix (gi σ 0 0 8)) x3) 7 0 (ix (gi σ 0 0 8)) x4) 8 0 (ix (gi σ 0 0 8)) x5) 0 0 8 ((gi σ 0 0 8) + 1)) 0 0 9 0))) else none)) else
  (some ((-1, σ))))))))))))))
abbrev rm_M_edge : Room := { frames := 1, cells := 0, slots := 0, locals := 21 }
set_option maxRecDepth 100000 in
set_option maxHeartbeats 4000000 in
theorem ac_M_edge {l : Launch} {D : va_G} {cc : Nat → ClassId} {al : Nat → Nat → Nat} {σ : ST} {h0 h : AH} {x1 : Int32} {x2 : Int32} {x3 : Int32} {x4 : Int32} {x5 : Int32} {res : Int32 × ST}  (hG : SW dmM (cfM cc) al σ h0 h) (E : M_edge σ x1 x2 x3 x4 x5 = some res) : AC l D vwCl (tysOf cc) NN y_M_edge (Cond.code y_M_edge b_M_edge 6 (some .int) :: TT) rm_M_edge [.ref (al 0 0), .int x1, .int x2, .int x3, .int x4, .int x5] h (fun rv h' => rv = some (.int res.1) ∧ SW dmM (cfM cc) al res.2 h0 h') := by
  refine AC.of (by decide) rfl (Nat.le_of_ble_eq_true rfl) (fun X M hR hI => ?_)
  unfold M_edge at E
  refine ax_lv (lv' := [(0, .ref (al 0 0)), (1, .int x1), (2, .int x2), (3, .int x3), (4, .int x4), (5, .int x5)]) [0, 1, 2, 3, 4, 5] rfl ?_
  refine ax_aload_n M d_M_edge_0 0 rfl ?_
  refine ax_iload_n M d_M_edge_1 1 rfl ?_
  obtain ⟨b1, e1, E⟩ := ob_b E
  refine ax_callV (n := 1) (C := R_M) (q := (R_M, F_M, 25)) M TT_good rfl rfl (SW.at hG 0 0 (by decide)) (ac_M_isActor hG e1) lm_M_79 (by decide) (by decide) rfl rfl (Nat.le_of_ble_eq_true rfl) d_M_edge_2 (by decide) (c1 := 0) (s1 := 0) (by decide) (ax_ret_i (fun h hG => ?_))
  refine ax_if_eq (tgt := 52) M d_M_edge_5 (by decide) (fun c1 => ?_) (fun c1 => ?_)
  · have E := ob_t E c1
    refine ax_iconst (v := (-1)) M d_M_edge_52 (by decide) ?_
    obtain rfl := Option.some.inj E
    exact ax_iret M hR (by decide) (by decide) d_M_edge_53 ⟨rfl, hG⟩
  · have E := ob_f E c1
    refine ax_aload_n M d_M_edge_8 0 rfl ?_
    refine ax_iload_n M d_M_edge_9 2 rfl ?_
    obtain ⟨b2, e2, E⟩ := ob_b E
    refine ax_callV (n := 1) (C := R_M) (q := (R_M, F_M, 25)) M TT_good rfl rfl (SW.at hG 0 0 (by decide)) (ac_M_isActor hG e2) lm_M_79 (by decide) (by decide) rfl rfl (Nat.le_of_ble_eq_true rfl) d_M_edge_10 (by decide) (c1 := 0) (s1 := 0) (by decide) (ax_ret_i (fun h hG => ?_))
    refine ax_if_eq (tgt := 52) M d_M_edge_13 (by decide) (fun c2 => ?_) (fun c2 => ?_)
    · have E := ob_t E c2
      refine ax_iconst (v := (-1)) M d_M_edge_52 (by decide) ?_
      obtain rfl := Option.some.inj E
      exact ax_iret M hR (by decide) (by decide) d_M_edge_53 ⟨rfl, hG⟩
    · have E := ob_f E c2
      refine ax_iload_n M d_M_edge_16 3 rfl ?_
      refine ax_iconst (v := 1) M d_M_edge_17 (by decide) ?_
      refine ax_icmp_lt (tgt := 52) M d_M_edge_18 (by decide) (fun c3 => ?_) (fun c3 => ?_)
      · have E := ob_t E c3
        refine ax_iconst (v := (-1)) M d_M_edge_52 (by decide) ?_
        obtain rfl := Option.some.inj E
        exact ax_iret M hR (by decide) (by decide) d_M_edge_53 ⟨rfl, hG⟩
      · have E := ob_f E c3
        refine ax_iload_n M d_M_edge_21 3 rfl ?_
        refine ax_bipush (v := 6) M d_M_edge_22 (by decide) ?_
        refine ax_icmp_gt (tgt := 52) M d_M_edge_24 (by decide) (fun c4 => ?_) (fun c4 => ?_)
        · have E := ob_t E c4
          refine ax_iconst (v := (-1)) M d_M_edge_52 (by decide) ?_
          obtain rfl := Option.some.inj E
          exact ax_iret M hR (by decide) (by decide) d_M_edge_53 ⟨rfl, hG⟩
        · have E := ob_f E c4
          refine ax_iload M d_M_edge_27 4 rfl ?_
          refine ax_iconst (v := 1) M d_M_edge_29 (by decide) ?_
          refine ax_icmp_lt (tgt := 52) M d_M_edge_30 (by decide) (fun c5 => ?_) (fun c5 => ?_)
          · have E := ob_t E c5
            refine ax_iconst (v := (-1)) M d_M_edge_52 (by decide) ?_
            obtain rfl := Option.some.inj E
            exact ax_iret M hR (by decide) (by decide) d_M_edge_53 ⟨rfl, hG⟩
          · have E := ob_f E c5
            refine ax_iload M d_M_edge_33 4 rfl ?_
            refine ax_bipush (v := 6) M d_M_edge_35 (by decide) ?_
            refine ax_icmp_gt (tgt := 52) M d_M_edge_37 (by decide) (fun c6 => ?_) (fun c6 => ?_)
            · have E := ob_t E c6
              refine ax_iconst (v := (-1)) M d_M_edge_52 (by decide) ?_
              obtain rfl := Option.some.inj E
              exact ax_iret M hR (by decide) (by decide) d_M_edge_53 ⟨rfl, hG⟩
            · have E := ob_f E c6
              refine ax_iload M d_M_edge_40 5 rfl ?_
              refine ax_if_lt (tgt := 52) M d_M_edge_42 (by decide) (fun c7 => ?_) (fun c7 => ?_)
              · have E := ob_t E c7
                refine ax_iconst (v := (-1)) M d_M_edge_52 (by decide) ?_
                obtain rfl := Option.some.inj E
                exact ax_iret M hR (by decide) (by decide) d_M_edge_53 ⟨rfl, hG⟩
              · have E := ob_f E c7
                refine ax_iload M d_M_edge_45 5 rfl ?_
                refine ax_bipush (v := 12) M d_M_edge_47 (by decide) ?_
                refine ax_icmp_le (tgt := 54) M d_M_edge_49 (by decide) (fun c8 => ?_) (fun c8 => ?_)
                · have E := ob_t E c8
                  refine ax_aload_n M d_M_edge_54 0 rfl ?_
                  refine sw_get M hG 0 0 (by decide) in_M rfl rfl 8 (by decide) wd_412 rfl d_M_edge_55 ?_
                  refine ax_bipush (v := 12) M d_M_edge_58 (by decide) ?_
                  refine ax_icmp_ne (tgt := 66) M d_M_edge_60 (by decide) (fun c9 => ?_) (fun c9 => ?_)
                  · have E := ob_f E c9
                    refine ax_aload_n M d_M_edge_66 0 rfl ?_
                    refine sw_get M hG 0 0 (by decide) in_M rfl rfl 3 (by decide) wd_407 rfl d_M_edge_67 ?_
                    refine ax_aload_n M d_M_edge_70 0 rfl ?_
                    refine sw_get M hG 0 0 (by decide) in_M rfl rfl 8 (by decide) wd_412 rfl d_M_edge_71 ?_
                    refine ax_iload_n M d_M_edge_74 1 rfl ?_
                    obtain ⟨k1, E⟩ := ob_c E
                    refine sw_iast M hG 4 0 (by decide) rfl 0 rfl k1 rfl d_M_edge_75 (fun h hG => ?_)
                    refine ax_aload_n M d_M_edge_76 0 rfl ?_
                    refine sw_get M hG 0 0 (by decide) in_M rfl rfl 4 (by decide) wd_408 rfl d_M_edge_77 ?_
                    refine ax_aload_n M d_M_edge_80 0 rfl ?_
                    refine sw_get M hG 0 0 (by decide) in_M rfl rfl 8 (by decide) wd_412 rfl d_M_edge_81 ?_
                    refine ax_topi (gi σ 0 0 8) (gi_K (by decide)) ?_
                    refine ax_iload_n M d_M_edge_84 2 rfl ?_
                    refine sw_iast M hG 5 0 (by decide) rfl 0 rfl k1 rfl d_M_edge_85 (fun h hG => ?_)
                    refine ax_aload_n M d_M_edge_86 0 rfl ?_
                    refine sw_get M hG 0 0 (by decide) in_M rfl rfl 5 (by decide) wd_409 rfl d_M_edge_87 ?_
                    refine ax_aload_n M d_M_edge_90 0 rfl ?_
                    refine sw_get M hG 0 0 (by decide) in_M rfl rfl 8 (by decide) wd_412 rfl d_M_edge_91 ?_
                    refine ax_topi (gi σ 0 0 8) ((gi_K (by decide)).trans (gi_K (by decide))) ?_
                    refine ax_iload_n M d_M_edge_94 3 rfl ?_
                    refine sw_iast M hG 6 0 (by decide) rfl 0 rfl k1 rfl d_M_edge_95 (fun h hG => ?_)
                    refine ax_aload_n M d_M_edge_96 0 rfl ?_
                    refine sw_get M hG 0 0 (by decide) in_M rfl rfl 6 (by decide) wd_410 rfl d_M_edge_97 ?_
                    refine ax_aload_n M d_M_edge_100 0 rfl ?_
                    refine sw_get M hG 0 0 (by decide) in_M rfl rfl 8 (by decide) wd_412 rfl d_M_edge_101 ?_
                    refine ax_topi (gi σ 0 0 8) ((gi_K (by decide)).trans ((gi_K (by decide)).trans (gi_K (by decide)))) ?_
                    refine ax_iload M d_M_edge_104 4 rfl ?_
                    refine sw_iast M hG 7 0 (by decide) rfl 0 rfl k1 rfl d_M_edge_106 (fun h hG => ?_)
                    refine ax_aload_n M d_M_edge_107 0 rfl ?_
                    refine sw_get M hG 0 0 (by decide) in_M rfl rfl 7 (by decide) wd_411 rfl d_M_edge_108 ?_
                    refine ax_aload_n M d_M_edge_111 0 rfl ?_
                    refine sw_get M hG 0 0 (by decide) in_M rfl rfl 8 (by decide) wd_412 rfl d_M_edge_112 ?_
                    refine ax_topi (gi σ 0 0 8) ((gi_K (by decide)).trans ((gi_K (by decide)).trans ((gi_K (by decide)).trans (gi_K (by decide))))) ?_
                    refine ax_iload M d_M_edge_115 5 rfl ?_
                    refine sw_iast M hG 8 0 (by decide) rfl 0 rfl k1 rfl d_M_edge_117 (fun h hG => ?_)
                    refine ax_aload_n M d_M_edge_118 0 rfl ?_
                    refine ax_dup M d_M_edge_119 rfl ?_
                    refine sw_get M hG 0 0 (by decide) in_M rfl rfl 8 (by decide) wd_412 rfl d_M_edge_120 ?_
                    refine ax_topi (gi σ 0 0 8) ((gi_K (by decide)).trans ((gi_K (by decide)).trans ((gi_K (by decide)).trans ((gi_K (by decide)).trans (gi_K (by decide)))))) ?_
                    refine ax_iconst (v := 1) M d_M_edge_123 (by decide) ?_
                    refine ax_iadd M d_M_edge_124 ?_
                    refine sw_put M hG 0 0 (by decide) in_M t_M tok_M nok_M rfl rfl 8 (by decide) wd_412 rfl rfl rfl (Nat.le_of_ble_eq_true rfl) rfl d_M_edge_125 (fun h hG => ?_)
                    refine ax_aload_n M d_M_edge_128 0 rfl ?_
                    refine ax_iconst (v := 0) M d_M_edge_129 (by decide) ?_
                    refine sw_put M hG 0 0 (by decide) in_M t_M tok_M nok_M rfl rfl 9 (by decide) wd_413 rfl rfl rfl (Nat.le_of_ble_eq_true rfl) rfl d_M_edge_130 (fun h hG => ?_)
                    refine ax_aload_n M d_M_edge_133 0 rfl ?_
                    refine sw_get M hG 0 0 (by decide) in_M rfl rfl 8 (by decide) wd_412 rfl d_M_edge_134 ?_
                    refine ax_topi ((gi σ 0 0 8) + 1) ((gi_k (by decide)).trans gi_same) ?_
                    refine ax_iconst (v := 1) M d_M_edge_137 (by decide) ?_
                    refine ax_isub M d_M_edge_138 ?_
                    obtain rfl := Option.some.inj E
                    exact ax_iret M hR (by decide) (by decide) d_M_edge_139 ⟨rfl, hG⟩
                  · have E := ob_t E c9
                    refine ax_bipush (v := -2) M d_M_edge_63 (by decide) ?_
                    obtain rfl := Option.some.inj E
                    exact ax_iret M hR (by decide) (by decide) d_M_edge_65 ⟨rfl, hG⟩
                · have E := ob_f E c8
                  refine ax_iconst (v := (-1)) M d_M_edge_52 (by decide) ?_
                  obtain rfl := Option.some.inj E
                  exact ax_iret M hR (by decide) (by decide) d_M_edge_53 ⟨rfl, hG⟩
def M_unedge (σ : ST) (x1 : Int32) : Option (Int32 × ST) :=
  if x1 < 0 then
  (some ((-1, σ))) else
  (if x1 < (gi σ 0 0 8) then
  ((lp (fun s1 : ST × Int32 =>
  if (gi s1.1 0 0 8) ≤ s1.2 then
  (some (.inr ((s1.1, s1.2)))) else
  (if inb (s1.2 + 1) 13 then 
  (if inb s1.2 13 then 
  (some (.inl ((su (su (su (su (su s1.1 4 0 (ix s1.2) (gi s1.1 4 0 (ix (s1.2 + 1)))) 5 0 (ix s1.2) (gi s1.1 5 0 (ix (s1.2 + 1)))) 6 0 (ix s1.2) (gi s1.1 6 0 (ix (s1.2 + 1)))) 7 0 (ix s1.2) (gi s1.1 7 0 (ix (s1.2 + 1)))) 8 0 (ix s1.2) (gi s1.1 8 0 (ix (s1.2 + 1))), s1.2 + 1)))) else none) else none)) 1000 ((su σ 0 0 8 ((gi σ 0 0 8) - 1), x1))).bind (fun r1 : ST × Int32 =>
  some ((gi r1.1 0 0 8, su r1.1 0 0 9 0)))) else
  (some ((-1, σ))))
abbrev rm_M_unedge : Room := { frames := 0, cells := 0, slots := 0, locals := 0 }
set_option maxRecDepth 100000 in
set_option maxHeartbeats 4000000 in
theorem ac_M_unedge {l : Launch} {D : va_G} {cc : Nat → ClassId} {al : Nat → Nat → Nat} {σ : ST} {h0 h : AH} {x1 : Int32} {res : Int32 × ST}  (hG : SW dmM (cfM cc) al σ h0 h) (E : M_unedge σ x1 = some res) : AC l D vwCl (tysOf cc) NN y_M_unedge (Cond.code y_M_unedge b_M_unedge 3 (some .int) :: TT) rm_M_unedge [.ref (al 0 0), .int x1] h (fun rv h' => rv = some (.int res.1) ∧ SW dmM (cfM cc) al res.2 h0 h') := by
  refine AC.of (by decide) rfl (Nat.le_of_ble_eq_true rfl) (fun X M hR hI => ?_)
  unfold M_unedge at E
  refine ax_lv (lv' := [(0, .ref (al 0 0)), (1, .int x1)]) [0, 1] rfl ?_
  refine ax_iload_n M d_M_unedge_0 1 rfl ?_
  refine ax_if_lt (tgt := 12) M d_M_unedge_1 (by decide) (fun c1 => ?_) (fun c1 => ?_)
  · have E := ob_t E c1
    refine ax_iconst (v := (-1)) M d_M_unedge_12 (by decide) ?_
    obtain rfl := Option.some.inj E
    exact ax_iret M hR (by decide) (by decide) d_M_unedge_13 ⟨rfl, hG⟩
  · have E := ob_f E c1
    refine ax_iload_n M d_M_unedge_4 1 rfl ?_
    refine ax_aload_n M d_M_unedge_5 0 rfl ?_
    refine sw_get M hG 0 0 (by decide) in_M rfl rfl 8 (by decide) wd_412 rfl d_M_unedge_6 ?_
    refine ax_icmp_lt (tgt := 14) M d_M_unedge_9 (by decide) (fun c2 => ?_) (fun c2 => ?_)
    · have E := ob_t E c2
      refine ax_aload_n M d_M_unedge_14 0 rfl ?_
      refine ax_dup M d_M_unedge_15 rfl ?_
      refine sw_get M hG 0 0 (by decide) in_M rfl rfl 8 (by decide) wd_412 rfl d_M_unedge_16 ?_
      refine ax_iconst (v := 1) M d_M_unedge_19 (by decide) ?_
      refine ax_isub M d_M_unedge_20 ?_
      refine sw_put M hG 0 0 (by decide) in_M t_M tok_M nok_M rfl rfl 8 (by decide) wd_412 rfl rfl rfl (Nat.le_of_ble_eq_true rfl) rfl d_M_unedge_21 (fun h hG => ?_)
      refine ax_iload_n M d_M_unedge_24 1 rfl ?_
      refine ax_istore_n (lv' := [(0, .ref (al 0 0)), (2, .int x1)]) M d_M_unedge_25 (by decide) [1, 0] rfl ?_
      refine ax_lv (lv' := [(0, .ref (al 0 0)), (2, .int x1)]) [0, 1] rfl ?_
      obtain ⟨r1, l1, E⟩ := ob_b E
      refine lp_walk (fun (s1 : ST × Int32) => ∀ h : AH, SW dmM (cfM cc) al s1.1 h0 h → AW l D vwCl rm_M_unedge 3 X 0 0 h 26 [(0, .ref (al 0 0)), (2, .int s1.2)] []) (fun (r1 : ST × Int32) => ∀ h : AH, SW dmM (cfM cc) al r1.1 h0 h → AW l D vwCl rm_M_unedge 3 X 0 0 h 110 [(0, .ref (al 0 0)), (2, .int r1.2)] []) ?_ _ _ _ l1 ?_ h hG
      · intro s1 y1 E K1 K2 h hG
        refine ax_iload_n M d_M_unedge_26 1 rfl ?_
        refine ax_aload_n M d_M_unedge_27 0 rfl ?_
        refine sw_get M hG 0 0 (by decide) in_M rfl rfl 8 (by decide) wd_412 rfl d_M_unedge_28 ?_
        refine ax_icmp_ge (tgt := 110) M d_M_unedge_31 (by decide) (fun c3 => ?_) (fun c3 => ?_)
        · have E := ob_t E c3
          obtain rfl := Option.some.inj E
          refine ax_lv (lv' := [(0, .ref (al 0 0)), (2, .int s1.2)]) [0, 1] rfl ?_
          exact (K2 _ rfl) h hG
        · have E := ob_f E c3
          refine ax_aload_n M d_M_unedge_34 0 rfl ?_
          refine sw_get M hG 0 0 (by decide) in_M rfl rfl 3 (by decide) wd_407 rfl d_M_unedge_35 ?_
          refine ax_iload_n M d_M_unedge_38 1 rfl ?_
          refine ax_aload_n M d_M_unedge_39 0 rfl ?_
          refine sw_get M hG 0 0 (by decide) in_M rfl rfl 3 (by decide) wd_407 rfl d_M_unedge_40 ?_
          refine ax_iload_n M d_M_unedge_43 1 rfl ?_
          refine ax_iconst (v := 1) M d_M_unedge_44 (by decide) ?_
          refine ax_iadd M d_M_unedge_45 ?_
          obtain ⟨k1, E⟩ := ob_c E
          refine sw_iald M hG 4 0 (by decide) rfl 0 rfl k1 d_M_unedge_46 ?_
          obtain ⟨k2, E⟩ := ob_c E
          refine sw_iast M hG 4 0 (by decide) rfl 0 rfl k2 rfl d_M_unedge_47 (fun h hG => ?_)
          refine ax_aload_n M d_M_unedge_48 0 rfl ?_
          refine sw_get M hG 0 0 (by decide) in_M rfl rfl 4 (by decide) wd_408 rfl d_M_unedge_49 ?_
          refine ax_iload_n M d_M_unedge_52 1 rfl ?_
          refine ax_aload_n M d_M_unedge_53 0 rfl ?_
          refine sw_get M hG 0 0 (by decide) in_M rfl rfl 4 (by decide) wd_408 rfl d_M_unedge_54 ?_
          refine ax_iload_n M d_M_unedge_57 1 rfl ?_
          refine ax_iconst (v := 1) M d_M_unedge_58 (by decide) ?_
          refine ax_iadd M d_M_unedge_59 ?_
          refine sw_iald M hG 5 0 (by decide) rfl 0 rfl k1 d_M_unedge_60 ?_
          refine ax_topi (gi s1.1 5 0 (ix (s1.2 + 1))) (gi_K (by decide)) ?_
          refine sw_iast M hG 5 0 (by decide) rfl 0 rfl k2 rfl d_M_unedge_61 (fun h hG => ?_)
          refine ax_aload_n M d_M_unedge_62 0 rfl ?_
          refine sw_get M hG 0 0 (by decide) in_M rfl rfl 5 (by decide) wd_409 rfl d_M_unedge_63 ?_
          refine ax_iload_n M d_M_unedge_66 1 rfl ?_
          refine ax_aload_n M d_M_unedge_67 0 rfl ?_
          refine sw_get M hG 0 0 (by decide) in_M rfl rfl 5 (by decide) wd_409 rfl d_M_unedge_68 ?_
          refine ax_iload_n M d_M_unedge_71 1 rfl ?_
          refine ax_iconst (v := 1) M d_M_unedge_72 (by decide) ?_
          refine ax_iadd M d_M_unedge_73 ?_
          refine sw_iald M hG 6 0 (by decide) rfl 0 rfl k1 d_M_unedge_74 ?_
          refine ax_topi (gi s1.1 6 0 (ix (s1.2 + 1))) ((gi_K (by decide)).trans (gi_K (by decide))) ?_
          refine sw_iast M hG 6 0 (by decide) rfl 0 rfl k2 rfl d_M_unedge_75 (fun h hG => ?_)
          refine ax_aload_n M d_M_unedge_76 0 rfl ?_
          refine sw_get M hG 0 0 (by decide) in_M rfl rfl 6 (by decide) wd_410 rfl d_M_unedge_77 ?_
          refine ax_iload_n M d_M_unedge_80 1 rfl ?_
          refine ax_aload_n M d_M_unedge_81 0 rfl ?_
          refine sw_get M hG 0 0 (by decide) in_M rfl rfl 6 (by decide) wd_410 rfl d_M_unedge_82 ?_
          refine ax_iload_n M d_M_unedge_85 1 rfl ?_
          refine ax_iconst (v := 1) M d_M_unedge_86 (by decide) ?_
          refine ax_iadd M d_M_unedge_87 ?_
          refine sw_iald M hG 7 0 (by decide) rfl 0 rfl k1 d_M_unedge_88 ?_
          refine ax_topi (gi s1.1 7 0 (ix (s1.2 + 1))) ((gi_K (by decide)).trans ((gi_K (by decide)).trans (gi_K (by decide)))) ?_
          refine sw_iast M hG 7 0 (by decide) rfl 0 rfl k2 rfl d_M_unedge_89 (fun h hG => ?_)
          refine ax_aload_n M d_M_unedge_90 0 rfl ?_
          refine sw_get M hG 0 0 (by decide) in_M rfl rfl 7 (by decide) wd_411 rfl d_M_unedge_91 ?_
          refine ax_iload_n M d_M_unedge_94 1 rfl ?_
          refine ax_aload_n M d_M_unedge_95 0 rfl ?_
          refine sw_get M hG 0 0 (by decide) in_M rfl rfl 7 (by decide) wd_411 rfl d_M_unedge_96 ?_
          refine ax_iload_n M d_M_unedge_99 1 rfl ?_
          refine ax_iconst (v := 1) M d_M_unedge_100 (by decide) ?_
          refine ax_iadd M d_M_unedge_101 ?_
          refine sw_iald M hG 8 0 (by decide) rfl 0 rfl k1 d_M_unedge_102 ?_
          refine ax_topi (gi s1.1 8 0 (ix (s1.2 + 1))) ((gi_K (by decide)).trans ((gi_K (by decide)).trans ((gi_K (by decide)).trans (gi_K (by decide))))) ?_
          refine sw_iast M hG 8 0 (by decide) rfl 0 rfl k2 rfl d_M_unedge_103 (fun h hG => ?_)
          refine ax_iinc (v := s1.2 + 1) (lv' := [(0, .ref (al 0 0)), (2, .int (s1.2 + 1))]) M d_M_unedge_104 1 rfl rfl (by decide) [1, 0] rfl ?_
          refine ax_goto (tgt := 26) M d_M_unedge_107 (by decide) ?_
          obtain rfl := Option.some.inj E
          refine ax_lv (lv' := [(0, .ref (al 0 0)), (2, .int (s1.2 + 1))]) [0, 1] rfl ?_
          exact K1 _ rfl h hG
      · intro h hG
        refine ax_aload_n M d_M_unedge_110 0 rfl ?_
        refine ax_iconst (v := 0) M d_M_unedge_111 (by decide) ?_
        refine sw_put M hG 0 0 (by decide) in_M t_M tok_M nok_M rfl rfl 9 (by decide) wd_413 rfl rfl rfl (Nat.le_of_ble_eq_true rfl) rfl d_M_unedge_112 (fun h hG => ?_)
        refine ax_aload_n M d_M_unedge_115 0 rfl ?_
        refine sw_get M hG 0 0 (by decide) in_M rfl rfl 8 (by decide) wd_412 rfl d_M_unedge_116 ?_
        refine ax_topi (gi r1.1 0 0 8) (gi_k (by decide)) ?_
        obtain rfl := Option.some.inj E
        exact ax_iret M hR (by decide) (by decide) d_M_unedge_119 ⟨rfl, hG⟩
    · have E := ob_f E c2
      refine ax_iconst (v := (-1)) M d_M_unedge_12 (by decide) ?_
      obtain rfl := Option.some.inj E
      exact ax_iret M hR (by decide) (by decide) d_M_unedge_13 ⟨rfl, hG⟩
