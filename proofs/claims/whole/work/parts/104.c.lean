def C_Actor_forgetRun (σ : ST) (i0 : Nat) : Option (ST) :=
  some (su (su (su σ 1 i0 7 0) 1 i0 8 0) 1 i0 9 0)
abbrev rm_C_Actor_forgetRun : Room := { frames := 0, cells := 0, slots := 0, locals := 0 }
set_option maxRecDepth 100000 in
set_option maxHeartbeats 4000000 in
theorem ac_C_Actor_forgetRun {l : Launch} {D : va_G} {cc : Nat → ClassId} {al : Nat → Nat → Nat} {σ : ST} {h0 h : AH} {i0 : Nat} {res : ST} (hi0 : i0 < 8) (hG : SW dmC (cfC cc) al σ h0 h) (E : C_Actor_forgetRun σ i0 = some res) : AC l D vwCl (tysOf cc) NN y_A_forgetRun (Cond.code y_A_forgetRun b_A_forgetRun 1 none :: TT) rm_C_Actor_forgetRun [.ref (al 1 i0)] h (fun rv h' => rv = none ∧ SW dmC (cfC cc) al res h0 h') := by
  refine AC.of (by decide) rfl (Nat.le_of_ble_eq_true rfl) (fun X M hR hI => ?_)
  unfold C_Actor_forgetRun at E
  refine ax_lv (lv' := [(0, .ref (al 1 i0))]) [0] rfl ?_
  refine ax_aload_n M d_A_forgetRun_0 0 rfl ?_
  refine ax_iconst (v := 0) M d_A_forgetRun_1 (by decide) ?_
  refine sw_put M hG 1 i0 hi0 in_A t_A tok_A nok_A rfl rfl 7 (by decide) wd_87 rfl rfl rfl (Nat.le_of_ble_eq_true rfl) rfl d_A_forgetRun_2 (fun h hG => ?_)
  refine ax_aload_n M d_A_forgetRun_5 0 rfl ?_
  refine ax_iconst (v := 0) M d_A_forgetRun_6 (by decide) ?_
  refine sw_put M hG 1 i0 hi0 in_A t_A tok_A nok_A rfl rfl 8 (by decide) wd_88 rfl rfl rfl (Nat.le_of_ble_eq_true rfl) rfl d_A_forgetRun_7 (fun h hG => ?_)
  refine ax_aload_n M d_A_forgetRun_10 0 rfl ?_
  refine ax_iconst (v := 0) M d_A_forgetRun_11 (by decide) ?_
  refine sw_put M hG 1 i0 hi0 in_A t_A tok_A nok_A rfl rfl 9 (by decide) wd_89 rfl rfl rfl (Nat.le_of_ble_eq_true rfl) rfl d_A_forgetRun_12 (fun h hG => ?_)
  obtain rfl := Option.some.inj E
  exact ax_vret M hR (by decide) (by decide) d_A_forgetRun_15 ⟨rfl, hG⟩
def C_Edge_setAsAtFirst (σ : ST) (i0 : Nat) : Option (ST) :=
  (lp (fun s1 : ST × Int32 =>
  if (gi s1.1 2 i0 5) ≤ s1.2 then
  (some (.inr ((s1.1, s1.2)))) else
  (if inb (s1.2 &&& 255) 256 then 
  (some (.inl ((su s1.1 3 i0 (ix (s1.2 &&& 255)) 0, s1.2 + 1)))) else none)) 1000 ((σ, 0))).bind (fun r1 : ST × Int32 =>
  some (su (su r1.1 2 i0 6 0) 2 i0 7 (gi r1.1 2 i0 5)))
abbrev rm_C_Edge_setAsAtFirst : Room := { frames := 0, cells := 0, slots := 0, locals := 0 }
set_option maxRecDepth 100000 in
set_option maxHeartbeats 4000000 in
theorem ac_C_Edge_setAsAtFirst {l : Launch} {D : va_G} {cc : Nat → ClassId} {al : Nat → Nat → Nat} {σ : ST} {h0 h : AH} {i0 : Nat} {res : ST} (hi0 : i0 < 12) (hG : SW dmC (cfC cc) al σ h0 h) (E : C_Edge_setAsAtFirst σ i0 = some res) : AC l D vwCl (tysOf cc) NN y_E_setAsAtFirst (Cond.code y_E_setAsAtFirst b_E_setAsAtFirst 2 none :: TT) rm_C_Edge_setAsAtFirst [.ref (al 2 i0)] h (fun rv h' => rv = none ∧ SW dmC (cfC cc) al res h0 h') := by
  refine AC.of (by decide) rfl (Nat.le_of_ble_eq_true rfl) (fun X M hR hI => ?_)
  unfold C_Edge_setAsAtFirst at E
  refine ax_lv (lv' := [(0, .ref (al 2 i0))]) [0] rfl ?_
  refine ax_iconst (v := 0) M d_E_setAsAtFirst_0 (by decide) ?_
  refine ax_istore_n (lv' := [(0, .ref (al 2 i0)), (1, .int 0)]) M d_E_setAsAtFirst_1 (by decide) [1, 0] rfl ?_
  refine ax_lv (lv' := [(0, .ref (al 2 i0)), (1, .int 0)]) [0, 1] rfl ?_
  obtain ⟨r1, l1, E⟩ := ob_b E
  refine lp_walk (fun (s1 : ST × Int32) => ∀ h : AH, SW dmC (cfC cc) al s1.1 h0 h → AW l D vwCl rm_C_Edge_setAsAtFirst 2 X 0 0 h 2 [(0, .ref (al 2 i0)), (1, .int s1.2)] []) (fun (r1 : ST × Int32) => ∀ h : AH, SW dmC (cfC cc) al r1.1 h0 h → AW l D vwCl rm_C_Edge_setAsAtFirst 2 X 0 0 h 27 [(0, .ref (al 2 i0)), (1, .int r1.2)] []) ?_ _ _ _ l1 ?_ h hG
  · intro s1 y1 E K1 K2 h hG
    refine ax_iload_n M d_E_setAsAtFirst_2 1 rfl ?_
    refine ax_aload_n M d_E_setAsAtFirst_3 0 rfl ?_
    refine sw_get M hG 2 i0 hi0 in_E rfl rfl 5 (by decide) wd_127 rfl d_E_setAsAtFirst_4 ?_
    refine ax_icmp_ge (tgt := 27) M d_E_setAsAtFirst_7 (by decide) (fun c1 => ?_) (fun c1 => ?_)
    · have E := ob_t E c1
      obtain rfl := Option.some.inj E
      refine ax_lv (lv' := [(0, .ref (al 2 i0)), (1, .int s1.2)]) [0, 1] rfl ?_
      exact (K2 _ rfl) h hG
    · have E := ob_f E c1
      refine ax_aload_n M d_E_setAsAtFirst_10 0 rfl ?_
      refine sw_get M hG 2 i0 hi0 in_E rfl rfl 0 (by decide) wd_118 rfl d_E_setAsAtFirst_11 ?_
      refine ax_iload_n M d_E_setAsAtFirst_14 1 rfl ?_
      refine ax_sipush (v := 255) M d_E_setAsAtFirst_15 (by decide) ?_
      refine ax_iand M d_E_setAsAtFirst_18 ?_
      refine ax_iconst (v := 0) M d_E_setAsAtFirst_19 (by decide) ?_
      obtain ⟨k1, E⟩ := ob_c E
      refine sw_iast M hG 3 i0 hi0 rfl 0 rfl k1 rfl d_E_setAsAtFirst_20 (fun h hG => ?_)
      refine ax_iinc (v := s1.2 + 1) (lv' := [(0, .ref (al 2 i0)), (1, .int (s1.2 + 1))]) M d_E_setAsAtFirst_21 1 rfl rfl (by decide) [1, 0] rfl ?_
      refine ax_goto (tgt := 2) M d_E_setAsAtFirst_24 (by decide) ?_
      obtain rfl := Option.some.inj E
      refine ax_lv (lv' := [(0, .ref (al 2 i0)), (1, .int (s1.2 + 1))]) [0, 1] rfl ?_
      exact K1 _ rfl h hG
  · intro h hG
    refine ax_aload_n M d_E_setAsAtFirst_27 0 rfl ?_
    refine ax_iconst (v := 0) M d_E_setAsAtFirst_28 (by decide) ?_
    refine sw_put M hG 2 i0 hi0 in_E t_E tok_E nok_E rfl rfl 6 (by decide) wd_129 rfl rfl rfl (Nat.le_of_ble_eq_true rfl) rfl d_E_setAsAtFirst_29 (fun h hG => ?_)
    refine ax_aload_n M d_E_setAsAtFirst_32 0 rfl ?_
    refine ax_aload_n M d_E_setAsAtFirst_33 0 rfl ?_
    refine sw_get M hG 2 i0 hi0 in_E rfl rfl 5 (by decide) wd_127 rfl d_E_setAsAtFirst_34 ?_
    refine ax_topi (gi r1.1 2 i0 5) (gi_k (by decide)) ?_
    refine sw_put M hG 2 i0 hi0 in_E t_E tok_E nok_E rfl rfl 7 (by decide) wd_130 rfl rfl rfl (Nat.le_of_ble_eq_true rfl) rfl d_E_setAsAtFirst_37 (fun h hG => ?_)
    obtain rfl := Option.some.inj E
    exact ax_vret M hR (by decide) (by decide) d_E_setAsAtFirst_40 ⟨rfl, hG⟩
def C_setRunAsAtFirst (σ : ST) : Option (ST) :=
  (lp (fun s1 : ST × Int32 =>
  if 8 ≤ s1.2 then
  (some (.inr ((s1.1, s1.2)))) else
  (if inb s1.2 8 then 
  ((C_Actor_forgetRun s1.1 (ix s1.2)).bind (fun b1 => 
  (some (.inl ((b1, s1.2 + 1)))))) else none)) 1000 ((σ, 0))).bind (fun r1 : ST × Int32 =>
  (lp (fun s2 : ST × Int32 =>
  if (gi s2.1 0 0 5) ≤ s2.2 then
  (some (.inr ((s2.1, s2.2)))) else
  (if inb s2.2 12 then 
  (if ix (gi s2.1 5 0 (ix s2.2)) < 12 then 
  ((C_Edge_setAsAtFirst s2.1 (ix (gi s2.1 5 0 (ix s2.2)))).bind (fun b2 => 
  (some (.inl ((b2, s2.2 + 1)))))) else none) else none)) 1000 ((r1.1, 0))).bind (fun r2 : ST × Int32 =>
  some (su r2.1 0 0 7 0)))
abbrev rm_C_setRunAsAtFirst : Room := { frames := 1, cells := 0, slots := 0, locals := 21 }
set_option maxRecDepth 100000 in
set_option maxHeartbeats 4000000 in
theorem ac_C_setRunAsAtFirst {l : Launch} {D : va_G} {cc : Nat → ClassId} {al : Nat → Nat → Nat} {σ : ST} {h0 h : AH}  {res : ST}  (hG : SW dmC (cfC cc) al σ h0 h) (E : C_setRunAsAtFirst σ = some res) : AC l D vwCl (tysOf cc) NN y_G_setRunAsAtFirst (Cond.code y_G_setRunAsAtFirst b_G_setRunAsAtFirst 2 none :: TT) rm_C_setRunAsAtFirst [.ref (al 0 0)] h (fun rv h' => rv = none ∧ SW dmC (cfC cc) al res h0 h') := by
  refine AC.of (by decide) rfl (Nat.le_of_ble_eq_true rfl) (fun X M hR hI => ?_)
  unfold C_setRunAsAtFirst at E
  refine ax_lv (lv' := [(0, .ref (al 0 0))]) [0] rfl ?_
  refine ax_iconst (v := 0) M d_G_setRunAsAtFirst_0 (by decide) ?_
  refine ax_istore_n (lv' := [(0, .ref (al 0 0)), (1, .int 0)]) M d_G_setRunAsAtFirst_1 (by decide) [1, 0] rfl ?_
  refine ax_lv (lv' := [(0, .ref (al 0 0)), (1, .int 0)]) [0, 1] rfl ?_
  obtain ⟨r1, l1, E⟩ := ob_b E
  refine lp_walk (fun (s1 : ST × Int32) => ∀ h : AH, SW dmC (cfC cc) al s1.1 h0 h → AW l D vwCl rm_C_setRunAsAtFirst 2 X 0 0 h 2 [(0, .ref (al 0 0)), (1, .int s1.2)] []) (fun (r1 : ST × Int32) => ∀ h : AH, SW dmC (cfC cc) al r1.1 h0 h → AW l D vwCl rm_C_setRunAsAtFirst 2 X 0 0 h 23 [(0, .ref (al 0 0)), (1, .int r1.2)] []) ?_ _ _ _ l1 ?_ h hG
  · intro s1 y1 E K1 K2 h hG
    refine ax_iload_n M d_G_setRunAsAtFirst_2 1 rfl ?_
    refine ax_bipush (v := 8) M d_G_setRunAsAtFirst_3 (by decide) ?_
    refine ax_icmp_ge (tgt := 23) M d_G_setRunAsAtFirst_5 (by decide) (fun c1 => ?_) (fun c1 => ?_)
    · have E := ob_t E c1
      obtain rfl := Option.some.inj E
      refine ax_lv (lv' := [(0, .ref (al 0 0)), (1, .int s1.2)]) [0, 1] rfl ?_
      exact (K2 _ rfl) h hG
    · have E := ob_f E c1
      refine ax_aload_n M d_G_setRunAsAtFirst_8 0 rfl ?_
      refine sw_get M hG 0 0 (by decide) in_G rfl rfl 0 (by decide) wd_152 rfl d_G_setRunAsAtFirst_9 ?_
      refine ax_iload_n M d_G_setRunAsAtFirst_12 1 rfl ?_
      obtain ⟨k1, E⟩ := ob_c E
      refine sw_aldq (g := fun e => e) M hG 4 0 (by decide) rfl 1 rfl rfl k1 d_G_setRunAsAtFirst_13 ?_
      obtain ⟨b1, e1, E⟩ := ob_b E
      refine ax_callVN (n := 0) (q := (R_A, F_A, 10)) M TT_good rfl (SW.at hG 1 (ix s1.2) (in_lt k1)) (ac_C_Actor_forgetRun (in_lt k1) hG e1) wd_285 lm_G_200 (by decide) (by decide) rfl rfl (Nat.le_of_ble_eq_true rfl) d_G_setRunAsAtFirst_14 (by decide) (c1 := 0) (s1 := 0) (by decide) (ax_ret_v (fun h hG => ?_))
      refine ax_iinc (v := s1.2 + 1) (lv' := [(0, .ref (al 0 0)), (1, .int (s1.2 + 1))]) M d_G_setRunAsAtFirst_17 1 rfl rfl (by decide) [1, 0] rfl ?_
      refine ax_goto (tgt := 2) M d_G_setRunAsAtFirst_20 (by decide) ?_
      obtain rfl := Option.some.inj E
      refine ax_lv (lv' := [(0, .ref (al 0 0)), (1, .int (s1.2 + 1))]) [0, 1] rfl ?_
      exact K1 _ rfl h hG
  · intro h hG
    refine ax_iconst (v := 0) M d_G_setRunAsAtFirst_23 (by decide) ?_
    refine ax_istore_n (lv' := [(0, .ref (al 0 0)), (1, .int 0)]) M d_G_setRunAsAtFirst_24 (by decide) [1, 0] rfl ?_
    refine ax_lv (lv' := [(0, .ref (al 0 0)), (1, .int 0)]) [0, 1] rfl ?_
    obtain ⟨r2, l2, E⟩ := ob_b E
    refine lp_walk (fun (s2 : ST × Int32) => ∀ h : AH, SW dmC (cfC cc) al s2.1 h0 h → AW l D vwCl rm_C_setRunAsAtFirst 2 X 0 0 h 25 [(0, .ref (al 0 0)), (1, .int s2.2)] []) (fun (r2 : ST × Int32) => ∀ h : AH, SW dmC (cfC cc) al r2.1 h0 h → AW l D vwCl rm_C_setRunAsAtFirst 2 X 0 0 h 48 [(0, .ref (al 0 0)), (1, .int r2.2)] []) ?_ _ _ _ l2 ?_ h hG
    · intro s2 y2 E K3 K4 h hG
      refine ax_iload_n M d_G_setRunAsAtFirst_25 1 rfl ?_
      refine ax_aload_n M d_G_setRunAsAtFirst_26 0 rfl ?_
      refine sw_get M hG 0 0 (by decide) in_G rfl rfl 5 (by decide) wd_157 rfl d_G_setRunAsAtFirst_27 ?_
      refine ax_icmp_ge (tgt := 48) M d_G_setRunAsAtFirst_30 (by decide) (fun c2 => ?_) (fun c2 => ?_)
      · have E := ob_t E c2
        obtain rfl := Option.some.inj E
        refine ax_lv (lv' := [(0, .ref (al 0 0)), (1, .int s2.2)]) [0, 1] rfl ?_
        exact (K4 _ rfl) h hG
      · have E := ob_f E c2
        refine ax_aload_n M d_G_setRunAsAtFirst_33 0 rfl ?_
        refine sw_get M hG 0 0 (by decide) in_G rfl rfl 1 (by decide) wd_153 rfl d_G_setRunAsAtFirst_34 ?_
        refine ax_iload_n M d_G_setRunAsAtFirst_37 1 rfl ?_
        obtain ⟨k2, E⟩ := ob_c E
        refine sw_aldq (g := fun e => ix (gi s2.1 5 0 e)) M hG 5 0 (by decide) rfl 2 rfl rfl k2 d_G_setRunAsAtFirst_38 ?_
        obtain ⟨k3, E⟩ := ob_c E
        obtain ⟨b2, e2, E⟩ := ob_b E
        refine ax_callVN (n := 0) (q := (R_E, F_E, 9)) M TT_good rfl (SW.at hG 2 (ix (gi s2.1 5 0 (ix s2.2))) k3) (ac_C_Edge_setAsAtFirst k3 hG e2) wd_289 lm_G_203 (by decide) (by decide) rfl rfl (Nat.le_of_ble_eq_true rfl) d_G_setRunAsAtFirst_39 (by decide) (c1 := 0) (s1 := 0) (by decide) (ax_ret_v (fun h hG => ?_))
        refine ax_iinc (v := s2.2 + 1) (lv' := [(0, .ref (al 0 0)), (1, .int (s2.2 + 1))]) M d_G_setRunAsAtFirst_42 1 rfl rfl (by decide) [1, 0] rfl ?_
        refine ax_goto (tgt := 25) M d_G_setRunAsAtFirst_45 (by decide) ?_
        obtain rfl := Option.some.inj E
        refine ax_lv (lv' := [(0, .ref (al 0 0)), (1, .int (s2.2 + 1))]) [0, 1] rfl ?_
        exact K3 _ rfl h hG
    · intro h hG
      refine ax_aload_n M d_G_setRunAsAtFirst_48 0 rfl ?_
      refine ax_iconst (v := 0) M d_G_setRunAsAtFirst_49 (by decide) ?_
      refine sw_put M hG 0 0 (by decide) in_G t_G tok_G nok_G rfl rfl 7 (by decide) wd_159 rfl rfl rfl (Nat.le_of_ble_eq_true rfl) rfl d_G_setRunAsAtFirst_50 (fun h hG => ?_)
      obtain rfl := Option.some.inj E
      exact ax_vret M hR (by decide) (by decide) d_G_setRunAsAtFirst_53 ⟨rfl, hG⟩
def C_solve (σ : ST) (x1 : Int32) : Option (Int32 × ST) :=
  (C_isWithin x1 0 2).bind (fun b1 => 
  (if b1 = 0 then
  (some ((-1, σ))) else
  ((C_countActors σ).bind (fun b2 => 
  (if b2 = 0 then
  (some ((-4, σ))) else
  ((C_findCulprit (su σ 0 0 8 0)).bind (fun b3 => 
  (if b3.1 = (-1) then
  ((C_keepRepetitions b3.2).bind (fun b4 => 
  (if b4.1 ≤ 64 then
  ((C_makeSchedule (su b4.2 0 0 6 b4.1) x1).bind (fun b5 => 
  (if b5.1 = (-1) then
  ((C_setRunAsAtFirst b5.2).bind (fun b6 => 
  (some ((gi b6 0 0 6, su b6 0 0 8 1))))) else
  (some (((-200) - b5.1, b5.2)))))) else
  (some ((-3, b4.2)))))) else
  (some (((-100) - b3.1, b3.2)))))))))))
abbrev rm_C_solve : Room := { frames := 5, cells := 0, slots := 0, locals := 114 }
set_option maxRecDepth 100000 in
set_option maxHeartbeats 4000000 in
theorem ac_C_solve {l : Launch} {D : va_G} {cc : Nat → ClassId} {al : Nat → Nat → Nat} {σ : ST} {h0 h : AH} {x1 : Int32} {res : Int32 × ST}  (hG : SW dmC (cfC cc) al σ h0 h) (E : C_solve σ x1 = some res) : AC l D vwCl (tysOf cc) NN y_G_solve (Cond.code y_G_solve b_G_solve 5 (some .int) :: TT) rm_C_solve [.ref (al 0 0), .int x1] h (fun rv h' => rv = some (.int res.1) ∧ SW dmC (cfC cc) al res.2 h0 h') := by
  refine AC.of (by decide) rfl (Nat.le_of_ble_eq_true rfl) (fun X M hR hI => ?_)
  unfold C_solve at E
  refine ax_lv (lv' := [(0, .ref (al 0 0)), (1, .int x1)]) [0, 1] rfl ?_
  refine ax_iload_n M d_G_solve_0 1 rfl ?_
  refine ax_iconst (v := 0) M d_G_solve_1 (by decide) ?_
  refine ax_iconst (v := 2) M d_G_solve_2 (by decide) ?_
  obtain ⟨b1, e1, E⟩ := ob_b E
  refine ax_callS (n := 3) M TT_good (ac_C_isWithin hG e1) lm_G_35 (by decide) (by decide) rfl rfl (Nat.le_of_ble_eq_true rfl) d_G_solve_3 (by decide) (c1 := 0) (s1 := 0) (by decide) (ax_ret_i (fun h hG => ?_))
  refine ax_if_ne (tgt := 11) M d_G_solve_6 (by decide) (fun c1 => ?_) (fun c1 => ?_)
  · have E := ob_f E c1
    refine ax_aload_n M d_G_solve_11 0 rfl ?_
    obtain ⟨b2, e2, E⟩ := ob_b E
    refine ax_callV (n := 0) (C := R_G) (q := (R_G, F_G, 9)) M TT_good rfl rfl (SW.at hG 0 0 (by decide)) (ac_C_countActors hG e2) lm_G_78 (by decide) (by decide) rfl rfl (Nat.le_of_ble_eq_true rfl) d_G_solve_12 (by decide) (c1 := 0) (s1 := 0) (by decide) (ax_ret_i (fun h hG => ?_))
    refine ax_if_ne (tgt := 21) M d_G_solve_15 (by decide) (fun c2 => ?_) (fun c2 => ?_)
    · have E := ob_f E c2
      refine ax_aload_n M d_G_solve_21 0 rfl ?_
      refine ax_iconst (v := 0) M d_G_solve_22 (by decide) ?_
      refine sw_put M hG 0 0 (by decide) in_G t_G tok_G nok_G rfl rfl 8 (by decide) wd_160 rfl rfl rfl (Nat.le_of_ble_eq_true rfl) rfl d_G_solve_23 (fun h hG => ?_)
      refine ax_aload_n M d_G_solve_26 0 rfl ?_
      obtain ⟨b3, e3, E⟩ := ob_b E
      refine ax_callV (n := 0) (C := R_G) (q := (R_G, F_G, 9)) M TT_good rfl rfl (SW.at hG 0 0 (by decide)) (ac_C_findCulprit hG e3) lm_G_82 (by decide) (by decide) rfl rfl (Nat.le_of_ble_eq_true rfl) d_G_solve_27 (by decide) (c1 := 0) (s1 := 0) (by decide) (ax_ret_i (fun h hG => ?_))
      refine ax_istore_n (lv' := [(0, .ref (al 0 0)), (1, .int x1), (2, .int b3.1)]) M d_G_solve_30 (by decide) [1, 2, 0] rfl ?_
      refine ax_iload_n M d_G_solve_31 2 rfl ?_
      refine ax_iconst (v := (-1)) M d_G_solve_32 (by decide) ?_
      refine ax_icmp_eq (tgt := 41) M d_G_solve_33 (by decide) (fun c3 => ?_) (fun c3 => ?_)
      · have E := ob_t E c3
        refine ax_aload_n M d_G_solve_41 0 rfl ?_
        obtain ⟨b4, e4, E⟩ := ob_b E
        refine ax_callV (n := 0) (C := R_G) (q := (R_G, F_G, 9)) M TT_good rfl rfl (SW.at hG 0 0 (by decide)) (ac_C_keepRepetitions hG e4) lm_G_85 (by decide) (by decide) rfl rfl (Nat.le_of_ble_eq_true rfl) d_G_solve_42 (by decide) (c1 := 0) (s1 := 0) (by decide) (ax_ret_i (fun h hG => ?_))
        refine ax_istore_n (lv' := [(0, .ref (al 0 0)), (1, .int x1), (3, .int b4.1)]) M d_G_solve_45 (by decide) [1, 2, 0] rfl ?_
        refine ax_iload_n M d_G_solve_46 2 rfl ?_
        refine ax_bipush (v := 64) M d_G_solve_47 (by decide) ?_
        refine ax_icmp_le (tgt := 55) M d_G_solve_49 (by decide) (fun c4 => ?_) (fun c4 => ?_)
        · have E := ob_t E c4
          refine ax_aload_n M d_G_solve_55 0 rfl ?_
          refine ax_iload_n M d_G_solve_56 2 rfl ?_
          refine sw_put M hG 0 0 (by decide) in_G t_G tok_G nok_G rfl rfl 6 (by decide) wd_158 rfl rfl rfl (Nat.le_of_ble_eq_true rfl) rfl d_G_solve_57 (fun h hG => ?_)
          refine ax_aload_n M d_G_solve_60 0 rfl ?_
          refine ax_iload_n M d_G_solve_61 1 rfl ?_
          obtain ⟨b5, e5, E⟩ := ob_b E
          refine ax_callV (n := 1) (C := R_G) (q := (R_G, F_G, 9)) M TT_good rfl rfl (SW.at hG 0 0 (by decide)) (ac_C_makeSchedule hG e5) lm_G_91 (by decide) (by decide) rfl rfl (Nat.le_of_ble_eq_true rfl) d_G_solve_62 (by decide) (c1 := 0) (s1 := 0) (by decide) (ax_ret_i (fun h hG => ?_))
          refine ax_istore (lv' := [(0, .ref (al 0 0)), (4, .int b5.1)]) M d_G_solve_65 (by decide) [1, 0] rfl ?_
          refine ax_iload M d_G_solve_67 1 rfl ?_
          refine ax_iconst (v := (-1)) M d_G_solve_69 (by decide) ?_
          refine ax_icmp_eq (tgt := 80) M d_G_solve_70 (by decide) (fun c5 => ?_) (fun c5 => ?_)
          · have E := ob_t E c5
            refine ax_aload_n M d_G_solve_80 0 rfl ?_
            obtain ⟨b6, e6, E⟩ := ob_b E
            refine ax_callV (n := 0) (C := R_G) (q := (R_G, F_G, 9)) M TT_good rfl rfl (SW.at hG 0 0 (by decide)) (ac_C_setRunAsAtFirst hG e6) lm_G_95 (by decide) (by decide) rfl rfl (Nat.le_of_ble_eq_true rfl) d_G_solve_81 (by decide) (c1 := 0) (s1 := 0) (by decide) (ax_ret_v (fun h hG => ?_))
            refine ax_aload_n M d_G_solve_84 0 rfl ?_
            refine ax_iconst (v := 1) M d_G_solve_85 (by decide) ?_
            refine sw_put M hG 0 0 (by decide) in_G t_G tok_G nok_G rfl rfl 8 (by decide) wd_160 rfl rfl rfl (Nat.le_of_ble_eq_true rfl) rfl d_G_solve_86 (fun h hG => ?_)
            refine ax_aload_n M d_G_solve_89 0 rfl ?_
            refine sw_get M hG 0 0 (by decide) in_G rfl rfl 6 (by decide) wd_158 rfl d_G_solve_90 ?_
            refine ax_topi (gi b6 0 0 6) (gi_k (by decide)) ?_
            obtain rfl := Option.some.inj E
            exact ax_iret M hR (by decide) (by decide) d_G_solve_93 ⟨rfl, hG⟩
          · have E := ob_f E c5
            refine ax_sipush (v := -200) M d_G_solve_73 (by decide) ?_
            refine ax_iload M d_G_solve_76 1 rfl ?_
            refine ax_isub M d_G_solve_78 ?_
            obtain rfl := Option.some.inj E
            exact ax_iret M hR (by decide) (by decide) d_G_solve_79 ⟨rfl, hG⟩
        · have E := ob_f E c4
          refine ax_bipush (v := -3) M d_G_solve_52 (by decide) ?_
          obtain rfl := Option.some.inj E
          exact ax_iret M hR (by decide) (by decide) d_G_solve_54 ⟨rfl, hG⟩
      · have E := ob_f E c3
        refine ax_bipush (v := -100) M d_G_solve_36 (by decide) ?_
        refine ax_iload_n M d_G_solve_38 2 rfl ?_
        refine ax_isub M d_G_solve_39 ?_
        obtain rfl := Option.some.inj E
        exact ax_iret M hR (by decide) (by decide) d_G_solve_40 ⟨rfl, hG⟩
    · have E := ob_t E c2
      refine ax_bipush (v := -4) M d_G_solve_18 (by decide) ?_
      obtain rfl := Option.some.inj E
      exact ax_iret M hR (by decide) (by decide) d_G_solve_20 ⟨rfl, hG⟩
  · have E := ob_t E c1
    refine ax_iconst (v := (-1)) M d_G_solve_9 (by decide) ?_
    obtain rfl := Option.some.inj E
    exact ax_iret M hR (by decide) (by decide) d_G_solve_10 ⟨rfl, hG⟩
def C_Edge_at (σ : ST) (i0 : Nat) (x1 : Int32) : Option (Int32) :=
  if inb (((gi σ 2 i0 6) + x1) &&& 255) 256 then 
  (some (gi σ 3 i0 (ix (((gi σ 2 i0 6) + x1) &&& 255)))) else none
abbrev rm_C_Edge_at : Room := { frames := 0, cells := 0, slots := 0, locals := 0 }
set_option maxRecDepth 100000 in
set_option maxHeartbeats 4000000 in
theorem ac_C_Edge_at {l : Launch} {D : va_G} {cc : Nat → ClassId} {al : Nat → Nat → Nat} {σ : ST} {h0 h : AH} {i0 : Nat} {x1 : Int32} {res : Int32} (hi0 : i0 < 12) (hG : SW dmC (cfC cc) al σ h0 h) (E : C_Edge_at σ i0 x1 = some res) : AC l D vwCl (tysOf cc) NN y_E_at (Cond.code y_E_at b_E_at 2 (some .int) :: TT) rm_C_Edge_at [.ref (al 2 i0), .int x1] h (fun rv h' => rv = some (.int res) ∧ SW dmC (cfC cc) al σ h0 h') := by
  refine AC.of (by decide) rfl (Nat.le_of_ble_eq_true rfl) (fun X M hR hI => ?_)
  unfold C_Edge_at at E
  refine ax_lv (lv' := [(0, .ref (al 2 i0)), (1, .int x1)]) [0, 1] rfl ?_
  refine ax_aload_n M d_E_at_0 0 rfl ?_
  refine sw_get M hG 2 i0 hi0 in_E rfl rfl 0 (by decide) wd_118 rfl d_E_at_1 ?_
  refine ax_aload_n M d_E_at_4 0 rfl ?_
  refine sw_get M hG 2 i0 hi0 in_E rfl rfl 6 (by decide) wd_129 rfl d_E_at_5 ?_
  refine ax_iload_n M d_E_at_8 1 rfl ?_
  refine ax_iadd M d_E_at_9 ?_
  refine ax_sipush (v := 255) M d_E_at_10 (by decide) ?_
  refine ax_iand M d_E_at_13 ?_
  obtain ⟨k1, E⟩ := ob_c E
  refine sw_iald M hG 3 i0 hi0 rfl 0 rfl k1 d_E_at_14 ?_
  obtain rfl := Option.some.inj E
  exact ax_iret M hR (by decide) (by decide) d_E_at_15 ⟨rfl, hG⟩
def C_Edge_takeWeighed (σ : ST) (i0 : Nat) : Option (Int32 × ST) :=
  (lp (fun s1 : Int32 × Int32 =>
  if (gi σ 2 i0 4) ≤ s1.2 then
  (some (.inr ((s1.1, s1.2)))) else
  ((C_Edge_at σ i0 s1.2).bind (fun b1 => 
  (some (.inl ((s1.1 + (b1 * (s1.2 + 1)), s1.2 + 1))))))) 1000 ((0, 0))).bind (fun r1 : Int32 × Int32 =>
  some ((r1.1, su (su σ 2 i0 6 (((gi σ 2 i0 6) + (gi σ 2 i0 4)) &&& 255)) 2 i0 7 ((gi σ 2 i0 7) - (gi σ 2 i0 4)))))
abbrev rm_C_Edge_takeWeighed : Room := { frames := 1, cells := 0, slots := 0, locals := 21 }
set_option maxRecDepth 100000 in
set_option maxHeartbeats 4000000 in
theorem ac_C_Edge_takeWeighed {l : Launch} {D : va_G} {cc : Nat → ClassId} {al : Nat → Nat → Nat} {σ : ST} {h0 h : AH} {i0 : Nat} {res : Int32 × ST} (hi0 : i0 < 12) (hG : SW dmC (cfC cc) al σ h0 h) (E : C_Edge_takeWeighed σ i0 = some res) : AC l D vwCl (tysOf cc) NN y_E_takeWeighed (Cond.code y_E_takeWeighed b_E_takeWeighed 3 (some .int) :: TT) rm_C_Edge_takeWeighed [.ref (al 2 i0)] h (fun rv h' => rv = some (.int res.1) ∧ SW dmC (cfC cc) al res.2 h0 h') := by
  refine AC.of (by decide) rfl (Nat.le_of_ble_eq_true rfl) (fun X M hR hI => ?_)
  unfold C_Edge_takeWeighed at E
  refine ax_lv (lv' := [(0, .ref (al 2 i0))]) [0] rfl ?_
  refine ax_iconst (v := 0) M d_E_takeWeighed_0 (by decide) ?_
  refine ax_istore_n (lv' := [(0, .ref (al 2 i0)), (1, .int 0)]) M d_E_takeWeighed_1 (by decide) [1, 0] rfl ?_
  refine ax_iconst (v := 0) M d_E_takeWeighed_2 (by decide) ?_
  refine ax_istore_n (lv' := [(0, .ref (al 2 i0)), (1, .int 0), (2, .int 0)]) M d_E_takeWeighed_3 (by decide) [1, 2, 0] rfl ?_
  refine ax_lv (lv' := [(0, .ref (al 2 i0)), (1, .int 0), (2, .int 0)]) [0, 1, 2] rfl ?_
  obtain ⟨r1, l1, E⟩ := ob_b E
  refine lp_walk (fun (s1 : Int32 × Int32) => ∀ h : AH, SW dmC (cfC cc) al σ h0 h → AW l D vwCl rm_C_Edge_takeWeighed 3 X 0 0 h 4 [(0, .ref (al 2 i0)), (1, .int s1.1), (2, .int s1.2)] []) (fun (r1 : Int32 × Int32) => ∀ h : AH, SW dmC (cfC cc) al σ h0 h → AW l D vwCl rm_C_Edge_takeWeighed 3 X 0 0 h 30 [(0, .ref (al 2 i0)), (1, .int r1.1), (2, .int r1.2)] []) ?_ _ _ _ l1 ?_ h hG
  · intro s1 y1 E K1 K2 h hG
    refine ax_iload_n M d_E_takeWeighed_4 2 rfl ?_
    refine ax_aload_n M d_E_takeWeighed_5 0 rfl ?_
    refine sw_get M hG 2 i0 hi0 in_E rfl rfl 4 (by decide) wd_126 rfl d_E_takeWeighed_6 ?_
    refine ax_icmp_ge (tgt := 30) M d_E_takeWeighed_9 (by decide) (fun c1 => ?_) (fun c1 => ?_)
    · have E := ob_t E c1
      obtain rfl := Option.some.inj E
      refine ax_lv (lv' := [(0, .ref (al 2 i0)), (1, .int s1.1), (2, .int s1.2)]) [0, 1, 2] rfl ?_
      exact (K2 _ rfl) h hG
    · have E := ob_f E c1
      refine ax_iload_n M d_E_takeWeighed_12 1 rfl ?_
      refine ax_aload_n M d_E_takeWeighed_13 0 rfl ?_
      refine ax_iload_n M d_E_takeWeighed_14 2 rfl ?_
      obtain ⟨b1, e1, E⟩ := ob_b E
      refine ax_callV (n := 1) (C := R_E) (q := (R_E, F_E, 9)) M TT_good rfl rfl (SW.at hG 2 i0 hi0) (ac_C_Edge_at hi0 hG e1) lm_E_32 (by decide) (by decide) rfl rfl (Nat.le_of_ble_eq_true rfl) d_E_takeWeighed_15 (by decide) (c1 := 0) (s1 := 0) (by decide) (ax_ret_i (fun h hG => ?_))
      refine ax_iload_n M d_E_takeWeighed_18 2 rfl ?_
      refine ax_iconst (v := 1) M d_E_takeWeighed_19 (by decide) ?_
      refine ax_iadd M d_E_takeWeighed_20 ?_
      refine ax_imul M d_E_takeWeighed_21 ?_
      refine ax_iadd M d_E_takeWeighed_22 ?_
      refine ax_istore_n (lv' := [(0, .ref (al 2 i0)), (1, .int (s1.1 + (b1 * (s1.2 + 1)))), (2, .int s1.2)]) M d_E_takeWeighed_23 (by decide) [1, 0, 2] rfl ?_
      refine ax_iinc (v := s1.2 + 1) (lv' := [(0, .ref (al 2 i0)), (1, .int (s1.1 + (b1 * (s1.2 + 1)))), (2, .int (s1.2 + 1))]) M d_E_takeWeighed_24 2 rfl rfl (by decide) [1, 2, 0] rfl ?_
      refine ax_goto (tgt := 4) M d_E_takeWeighed_27 (by decide) ?_
      obtain rfl := Option.some.inj E
      refine ax_lv (lv' := [(0, .ref (al 2 i0)), (1, .int (s1.1 + (b1 * (s1.2 + 1)))), (2, .int (s1.2 + 1))]) [0, 1, 2] rfl ?_
      exact K1 _ rfl h hG
  · intro h hG
    refine ax_aload_n M d_E_takeWeighed_30 0 rfl ?_
    refine ax_aload_n M d_E_takeWeighed_31 0 rfl ?_
    refine sw_get M hG 2 i0 hi0 in_E rfl rfl 6 (by decide) wd_129 rfl d_E_takeWeighed_32 ?_
    refine ax_aload_n M d_E_takeWeighed_35 0 rfl ?_
    refine sw_get M hG 2 i0 hi0 in_E rfl rfl 4 (by decide) wd_126 rfl d_E_takeWeighed_36 ?_
    refine ax_iadd M d_E_takeWeighed_39 ?_
    refine ax_sipush (v := 255) M d_E_takeWeighed_40 (by decide) ?_
    refine ax_iand M d_E_takeWeighed_43 ?_
    refine sw_put M hG 2 i0 hi0 in_E t_E tok_E nok_E rfl rfl 6 (by decide) wd_129 rfl rfl rfl (Nat.le_of_ble_eq_true rfl) rfl d_E_takeWeighed_44 (fun h hG => ?_)
    refine ax_aload_n M d_E_takeWeighed_47 0 rfl ?_
    refine ax_dup M d_E_takeWeighed_48 rfl ?_
    refine sw_get M hG 2 i0 hi0 in_E rfl rfl 7 (by decide) wd_130 rfl d_E_takeWeighed_49 ?_
    refine ax_topi (gi σ 2 i0 7) (gi_k (by decide)) ?_
    refine ax_aload_n M d_E_takeWeighed_52 0 rfl ?_
    refine sw_get M hG 2 i0 hi0 in_E rfl rfl 4 (by decide) wd_126 rfl d_E_takeWeighed_53 ?_
    refine ax_topi (gi σ 2 i0 4) (gi_k (by decide)) ?_
    refine ax_isub M d_E_takeWeighed_56 ?_
    refine sw_put M hG 2 i0 hi0 in_E t_E tok_E nok_E rfl rfl 7 (by decide) wd_130 rfl rfl rfl (Nat.le_of_ble_eq_true rfl) rfl d_E_takeWeighed_57 (fun h hG => ?_)
    refine ax_iload_n M d_E_takeWeighed_60 1 rfl ?_
    obtain rfl := Option.some.inj E
    exact ax_iret M hR (by decide) (by decide) d_E_takeWeighed_61 ⟨rfl, hG⟩
