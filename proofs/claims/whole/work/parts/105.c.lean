def C_Actor_answerTo (σ : ST) (i0 : Nat) (x1 : Int32) : Option (Int32 × ST) :=
  if (gi σ 1 i0 1) = 0 then
  (some (((gi σ 1 i0 2) + x1, su (su σ 1 i0 8 ((gi σ 1 i0 8) + x1)) 1 i0 7 x1))) else
  (if (gi σ 1 i0 1) = 1 then
  (some (((gi σ 1 i0 2) * x1, su (su σ 1 i0 8 ((gi σ 1 i0 8) + x1)) 1 i0 7 x1))) else
  (if (gi σ 1 i0 1) = 2 then
  (some (((gi σ 1 i0 8) + x1, su (su σ 1 i0 8 ((gi σ 1 i0 8) + x1)) 1 i0 7 x1))) else
  (some ((x1 - (gi σ 1 i0 7), su (su σ 1 i0 8 ((gi σ 1 i0 8) + x1)) 1 i0 7 x1)))))
abbrev rm_C_Actor_answerTo : Room := { frames := 0, cells := 0, slots := 0, locals := 0 }
set_option maxRecDepth 100000 in
set_option maxHeartbeats 4000000 in
theorem ac_C_Actor_answerTo {l : Launch} {D : va_G} {cc : Nat → ClassId} {al : Nat → Nat → Nat} {σ : ST} {h0 h : AH} {i0 : Nat} {x1 : Int32} {res : Int32 × ST} (hi0 : i0 < 8) (hG : SW dmC (cfC cc) al σ h0 h) (E : C_Actor_answerTo σ i0 x1 = some res) : AC l D vwCl (tysOf cc) NN y_A_answerTo (Cond.code y_A_answerTo b_A_answerTo 3 (some .int) :: TT) rm_C_Actor_answerTo [.ref (al 1 i0), .int x1] h (fun rv h' => rv = some (.int res.1) ∧ SW dmC (cfC cc) al res.2 h0 h') := by
  refine AC.of (by decide) rfl (Nat.le_of_ble_eq_true rfl) (fun X M hR hI => ?_)
  unfold C_Actor_answerTo at E
  refine ax_lv (lv' := [(0, .ref (al 1 i0)), (1, .int x1)]) [0, 1] rfl ?_
  refine ax_aload_n M d_A_answerTo_0 0 rfl ?_
  refine ax_dup M d_A_answerTo_1 rfl ?_
  refine sw_get M hG 1 i0 hi0 in_A rfl rfl 8 (by decide) wd_88 rfl d_A_answerTo_2 ?_
  refine ax_iload_n M d_A_answerTo_5 1 rfl ?_
  refine ax_iadd M d_A_answerTo_6 ?_
  refine sw_put M hG 1 i0 hi0 in_A t_A tok_A nok_A rfl rfl 8 (by decide) wd_88 rfl rfl rfl (Nat.le_of_ble_eq_true rfl) rfl d_A_answerTo_7 (fun h hG => ?_)
  refine ax_iload_n M d_A_answerTo_10 1 rfl ?_
  refine ax_aload_n M d_A_answerTo_11 0 rfl ?_
  refine sw_get M hG 1 i0 hi0 in_A rfl rfl 7 (by decide) wd_87 rfl d_A_answerTo_12 ?_
  refine ax_topi (gi σ 1 i0 7) (gi_k (by decide)) ?_
  refine ax_isub M d_A_answerTo_15 ?_
  refine ax_istore_n (lv' := [(0, .ref (al 1 i0)), (1, .int x1), (2, .int (x1 - (gi σ 1 i0 7)))]) M d_A_answerTo_16 (by decide) [1, 2, 0] rfl ?_
  refine ax_aload_n M d_A_answerTo_17 0 rfl ?_
  refine ax_iload_n M d_A_answerTo_18 1 rfl ?_
  refine sw_put M hG 1 i0 hi0 in_A t_A tok_A nok_A rfl rfl 7 (by decide) wd_87 rfl rfl rfl (Nat.le_of_ble_eq_true rfl) rfl d_A_answerTo_19 (fun h hG => ?_)
  refine ax_aload_n M d_A_answerTo_22 0 rfl ?_
  refine sw_get M hG 1 i0 hi0 in_A rfl rfl 1 (by decide) wd_78 rfl d_A_answerTo_23 ?_
  refine ax_topi (gi σ 1 i0 1) ((gi_k (by decide)).trans (gi_k (by decide))) ?_
  by_cases c1_0 : (gi σ 1 i0 1) = 0
  · have E := ob_t E c1_0
    refine ax_tableIn (tgt := 52) M d_A_answerTo_26 (by rw [c1_0]; decide) (by rw [c1_0]; decide) (by rw [c1_0]; rfl) (by decide) ?_
    refine ax_aload_n M d_A_answerTo_52 0 rfl ?_
    refine sw_get M hG 1 i0 hi0 in_A rfl rfl 2 (by decide) wd_80 rfl d_A_answerTo_53 ?_
    refine ax_topi (gi σ 1 i0 2) ((gi_k (by decide)).trans (gi_k (by decide))) ?_
    refine ax_iload_n M d_A_answerTo_56 1 rfl ?_
    refine ax_iadd M d_A_answerTo_57 ?_
    obtain rfl := Option.some.inj E
    exact ax_iret M hR (by decide) (by decide) d_A_answerTo_58 ⟨rfl, hG⟩
  · have E := ob_f E c1_0
    by_cases c1_1 : (gi σ 1 i0 1) = 1
    · have E := ob_t E c1_1
      refine ax_tableIn (tgt := 59) M d_A_answerTo_26 (by rw [c1_1]; decide) (by rw [c1_1]; decide) (by rw [c1_1]; rfl) (by decide) ?_
      refine ax_aload_n M d_A_answerTo_59 0 rfl ?_
      refine sw_get M hG 1 i0 hi0 in_A rfl rfl 2 (by decide) wd_80 rfl d_A_answerTo_60 ?_
      refine ax_topi (gi σ 1 i0 2) ((gi_k (by decide)).trans (gi_k (by decide))) ?_
      refine ax_iload_n M d_A_answerTo_63 1 rfl ?_
      refine ax_imul M d_A_answerTo_64 ?_
      obtain rfl := Option.some.inj E
      exact ax_iret M hR (by decide) (by decide) d_A_answerTo_65 ⟨rfl, hG⟩
    · have E := ob_f E c1_1
      by_cases c1_2 : (gi σ 1 i0 1) = 2
      · have E := ob_t E c1_2
        refine ax_tableIn (tgt := 66) M d_A_answerTo_26 (by rw [c1_2]; decide) (by rw [c1_2]; decide) (by rw [c1_2]; rfl) (by decide) ?_
        refine ax_aload_n M d_A_answerTo_66 0 rfl ?_
        refine sw_get M hG 1 i0 hi0 in_A rfl rfl 8 (by decide) wd_88 rfl d_A_answerTo_67 ?_
        refine ax_topi ((gi σ 1 i0 8) + x1) ((gi_k (by decide)).trans gi_same) ?_
        obtain rfl := Option.some.inj E
        exact ax_iret M hR (by decide) (by decide) d_A_answerTo_70 ⟨rfl, hG⟩
      · have E := ob_f E c1_2
        refine ax_tableOut (tgt := 71) M d_A_answerTo_26 (so_0_2 c1_0 c1_1 c1_2) (by decide) ?_
        refine ax_iload_n M d_A_answerTo_71 2 rfl ?_
        obtain rfl := Option.some.inj E
        exact ax_iret M hR (by decide) (by decide) d_A_answerTo_72 ⟨rfl, hG⟩
def C_Edge_putFrom (σ : ST) (i0 : Nat) (x1 : Int32) : Option (ST) :=
  (lp (fun s1 : ST × Int32 =>
  if (gi s1.1 2 i0 3) ≤ s1.2 then
  (some (.inr ((s1.1, s1.2)))) else
  (if inb ((((gi s1.1 2 i0 6) + (gi s1.1 2 i0 7)) + s1.2) &&& 255) 256 then 
  (some (.inl ((su s1.1 3 i0 (ix ((((gi s1.1 2 i0 6) + (gi s1.1 2 i0 7)) + s1.2) &&& 255)) (x1 + s1.2), s1.2 + 1)))) else none)) 1000 ((σ, 0))).bind (fun r1 : ST × Int32 =>
  some (su r1.1 2 i0 7 ((gi r1.1 2 i0 7) + (gi r1.1 2 i0 3))))
abbrev rm_C_Edge_putFrom : Room := { frames := 0, cells := 0, slots := 0, locals := 0 }
set_option maxRecDepth 100000 in
set_option maxHeartbeats 4000000 in
theorem ac_C_Edge_putFrom {l : Launch} {D : va_G} {cc : Nat → ClassId} {al : Nat → Nat → Nat} {σ : ST} {h0 h : AH} {i0 : Nat} {x1 : Int32} {res : ST} (hi0 : i0 < 12) (hG : SW dmC (cfC cc) al σ h0 h) (E : C_Edge_putFrom σ i0 x1 = some res) : AC l D vwCl (tysOf cc) NN y_E_putFrom (Cond.code y_E_putFrom b_E_putFrom 3 none :: TT) rm_C_Edge_putFrom [.ref (al 2 i0), .int x1] h (fun rv h' => rv = none ∧ SW dmC (cfC cc) al res h0 h') := by
  refine AC.of (by decide) rfl (Nat.le_of_ble_eq_true rfl) (fun X M hR hI => ?_)
  unfold C_Edge_putFrom at E
  refine ax_lv (lv' := [(0, .ref (al 2 i0)), (1, .int x1)]) [0, 1] rfl ?_
  refine ax_iconst (v := 0) M d_E_putFrom_0 (by decide) ?_
  refine ax_istore_n (lv' := [(0, .ref (al 2 i0)), (1, .int x1), (2, .int 0)]) M d_E_putFrom_1 (by decide) [1, 2, 0] rfl ?_
  refine ax_lv (lv' := [(0, .ref (al 2 i0)), (1, .int x1), (2, .int 0)]) [0, 1, 2] rfl ?_
  obtain ⟨r1, l1, E⟩ := ob_b E
  refine lp_walk (fun (s1 : ST × Int32) => ∀ h : AH, SW dmC (cfC cc) al s1.1 h0 h → AW l D vwCl rm_C_Edge_putFrom 3 X 0 0 h 2 [(0, .ref (al 2 i0)), (1, .int x1), (2, .int s1.2)] []) (fun (r1 : ST × Int32) => ∀ h : AH, SW dmC (cfC cc) al r1.1 h0 h → AW l D vwCl rm_C_Edge_putFrom 3 X 0 0 h 39 [(0, .ref (al 2 i0)), (1, .int x1), (2, .int r1.2)] []) ?_ _ _ _ l1 ?_ h hG
  · intro s1 y1 E K1 K2 h hG
    refine ax_iload_n M d_E_putFrom_2 2 rfl ?_
    refine ax_aload_n M d_E_putFrom_3 0 rfl ?_
    refine sw_get M hG 2 i0 hi0 in_E rfl rfl 3 (by decide) wd_124 rfl d_E_putFrom_4 ?_
    refine ax_icmp_ge (tgt := 39) M d_E_putFrom_7 (by decide) (fun c1 => ?_) (fun c1 => ?_)
    · have E := ob_t E c1
      obtain rfl := Option.some.inj E
      refine ax_lv (lv' := [(0, .ref (al 2 i0)), (1, .int x1), (2, .int s1.2)]) [0, 1, 2] rfl ?_
      exact (K2 _ rfl) h hG
    · have E := ob_f E c1
      refine ax_aload_n M d_E_putFrom_10 0 rfl ?_
      refine sw_get M hG 2 i0 hi0 in_E rfl rfl 0 (by decide) wd_118 rfl d_E_putFrom_11 ?_
      refine ax_aload_n M d_E_putFrom_14 0 rfl ?_
      refine sw_get M hG 2 i0 hi0 in_E rfl rfl 6 (by decide) wd_129 rfl d_E_putFrom_15 ?_
      refine ax_aload_n M d_E_putFrom_18 0 rfl ?_
      refine sw_get M hG 2 i0 hi0 in_E rfl rfl 7 (by decide) wd_130 rfl d_E_putFrom_19 ?_
      refine ax_iadd M d_E_putFrom_22 ?_
      refine ax_iload_n M d_E_putFrom_23 2 rfl ?_
      refine ax_iadd M d_E_putFrom_24 ?_
      refine ax_sipush (v := 255) M d_E_putFrom_25 (by decide) ?_
      refine ax_iand M d_E_putFrom_28 ?_
      refine ax_iload_n M d_E_putFrom_29 1 rfl ?_
      refine ax_iload_n M d_E_putFrom_30 2 rfl ?_
      refine ax_iadd M d_E_putFrom_31 ?_
      obtain ⟨k1, E⟩ := ob_c E
      refine sw_iast M hG 3 i0 hi0 rfl 0 rfl k1 rfl d_E_putFrom_32 (fun h hG => ?_)
      refine ax_iinc (v := s1.2 + 1) (lv' := [(0, .ref (al 2 i0)), (1, .int x1), (2, .int (s1.2 + 1))]) M d_E_putFrom_33 2 rfl rfl (by decide) [1, 2, 0] rfl ?_
      refine ax_goto (tgt := 2) M d_E_putFrom_36 (by decide) ?_
      obtain rfl := Option.some.inj E
      refine ax_lv (lv' := [(0, .ref (al 2 i0)), (1, .int x1), (2, .int (s1.2 + 1))]) [0, 1, 2] rfl ?_
      exact K1 _ rfl h hG
  · intro h hG
    refine ax_aload_n M d_E_putFrom_39 0 rfl ?_
    refine ax_dup M d_E_putFrom_40 rfl ?_
    refine sw_get M hG 2 i0 hi0 in_E rfl rfl 7 (by decide) wd_130 rfl d_E_putFrom_41 ?_
    refine ax_aload_n M d_E_putFrom_44 0 rfl ?_
    refine sw_get M hG 2 i0 hi0 in_E rfl rfl 3 (by decide) wd_124 rfl d_E_putFrom_45 ?_
    refine ax_iadd M d_E_putFrom_48 ?_
    refine sw_put M hG 2 i0 hi0 in_E t_E tok_E nok_E rfl rfl 7 (by decide) wd_130 rfl rfl rfl (Nat.le_of_ble_eq_true rfl) rfl d_E_putFrom_49 (fun h hG => ?_)
    obtain rfl := Option.some.inj E
    exact ax_vret M hR (by decide) (by decide) d_E_putFrom_52 ⟨rfl, hG⟩
def C_fire (σ : ST) (x1 : Int32) : Option (ST) :=
  (lp (fun s1 : ST × Int32 × Int32 =>
  if (gi s1.1 0 0 5) ≤ s1.2.2 then
  (some (.inr ((s1.1, s1.2.1, s1.2.2)))) else
  (if inb s1.2.2 12 then 
  (if ix (gi s1.1 5 0 (ix s1.2.2)) < 12 then 
  (if (gi s1.1 2 (ix (gi s1.1 5 0 (ix s1.2.2))) 2) = x1 then
  ((C_Edge_takeWeighed s1.1 (ix (gi s1.1 5 0 (ix s1.2.2)))).bind (fun b1 => 
  (some (.inl ((b1.2, s1.2.1 + b1.1, s1.2.2 + 1)))))) else
  (some (.inl ((s1.1, s1.2.1, s1.2.2 + 1))))) else none) else none)) 1000 ((σ, 0, 0))).bind (fun r1 : ST × Int32 × Int32 =>
  if inb x1 8 then 
  ((C_Actor_answerTo r1.1 (ix x1) r1.2.1).bind (fun b2 => 
  ((lp (fun s2 : ST × Int32 =>
  if (gi s2.1 0 0 5) ≤ s2.2 then
  (some (.inr ((s2.1, s2.2)))) else
  (if inb s2.2 12 then 
  (if ix (gi s2.1 5 0 (ix s2.2)) < 12 then 
  (if (gi s2.1 2 (ix (gi s2.1 5 0 (ix s2.2))) 1) = x1 then
  ((C_Edge_putFrom s2.1 (ix (gi s2.1 5 0 (ix s2.2))) b2.1).bind (fun b3 => 
  (some (.inl ((b3, s2.2 + 1)))))) else
  (some (.inl ((s2.1, s2.2 + 1))))) else none) else none)) 1000 ((su b2.2 1 (ix x1) 9 b2.1, 0))).bind (fun r2 : ST × Int32 =>
  some r2.1)))) else none)
abbrev rm_C_fire : Room := { frames := 2, cells := 0, slots := 0, locals := 43 }
set_option maxRecDepth 100000 in
set_option maxHeartbeats 4000000 in
theorem ac_C_fire {l : Launch} {D : va_G} {cc : Nat → ClassId} {al : Nat → Nat → Nat} {σ : ST} {h0 h : AH} {x1 : Int32} {res : ST}  (hG : SW dmC (cfC cc) al σ h0 h) (E : C_fire σ x1 = some res) : AC l D vwCl (tysOf cc) NN y_G_fire (Cond.code y_G_fire b_G_fire 5 none :: TT) rm_C_fire [.ref (al 0 0), .int x1] h (fun rv h' => rv = none ∧ SW dmC (cfC cc) al res h0 h') := by
  refine AC.of (by decide) rfl (Nat.le_of_ble_eq_true rfl) (fun X M hR hI => ?_)
  unfold C_fire at E
  refine ax_lv (lv' := [(0, .ref (al 0 0)), (1, .int x1)]) [0, 1] rfl ?_
  refine ax_iconst (v := 0) M d_G_fire_0 (by decide) ?_
  refine ax_istore_n (lv' := [(0, .ref (al 0 0)), (1, .int x1), (2, .int 0)]) M d_G_fire_1 (by decide) [1, 2, 0] rfl ?_
  refine ax_iconst (v := 0) M d_G_fire_2 (by decide) ?_
  refine ax_istore_n (lv' := [(0, .ref (al 0 0)), (1, .int x1), (2, .int 0), (3, .int 0)]) M d_G_fire_3 (by decide) [1, 2, 3, 0] rfl ?_
  refine ax_lv (lv' := [(0, .ref (al 0 0)), (1, .int x1), (2, .int 0), (3, .int 0)]) [0, 1, 2, 3] rfl ?_
  obtain ⟨r1, l1, E⟩ := ob_b E
  refine lp_walk (fun (s1 : ST × Int32 × Int32) => ∀ h : AH, SW dmC (cfC cc) al s1.1 h0 h → AW l D vwCl rm_C_fire 5 X 0 0 h 4 [(0, .ref (al 0 0)), (1, .int x1), (2, .int s1.2.1), (3, .int s1.2.2)] []) (fun (r1 : ST × Int32 × Int32) => ∀ h : AH, SW dmC (cfC cc) al r1.1 h0 h → AW l D vwCl rm_C_fire 5 X 0 0 h 43 [(0, .ref (al 0 0)), (1, .int x1), (2, .int r1.2.1), (3, .int r1.2.2)] []) ?_ _ _ _ l1 ?_ h hG
  · intro s1 y1 E K1 K2 h hG
    refine ax_iload_n M d_G_fire_4 3 rfl ?_
    refine ax_aload_n M d_G_fire_5 0 rfl ?_
    refine sw_get M hG 0 0 (by decide) in_G rfl rfl 5 (by decide) wd_157 rfl d_G_fire_6 ?_
    refine ax_icmp_ge (tgt := 43) M d_G_fire_9 (by decide) (fun c1 => ?_) (fun c1 => ?_)
    · have E := ob_t E c1
      obtain rfl := Option.some.inj E
      refine ax_lv (lv' := [(0, .ref (al 0 0)), (1, .int x1), (2, .int s1.2.1), (3, .int s1.2.2)]) [0, 1, 2, 3] rfl ?_
      exact (K2 _ rfl) h hG
    · have E := ob_f E c1
      refine ax_aload_n M d_G_fire_12 0 rfl ?_
      refine sw_get M hG 0 0 (by decide) in_G rfl rfl 1 (by decide) wd_153 rfl d_G_fire_13 ?_
      refine ax_iload_n M d_G_fire_16 3 rfl ?_
      obtain ⟨k1, E⟩ := ob_c E
      refine sw_aldq (g := fun e => ix (gi s1.1 5 0 e)) M hG 5 0 (by decide) rfl 2 rfl rfl k1 d_G_fire_17 ?_
      obtain ⟨k2, E⟩ := ob_c E
      refine sw_getN M hG 2 (ix (gi s1.1 5 0 (ix s1.2.2))) k2 in_E rfl rfl 2 (by decide) wd_122 rfl d_G_fire_18 ?_
      refine ax_iload_n M d_G_fire_21 1 rfl ?_
      refine ax_icmp_ne (tgt := 37) M d_G_fire_22 (by decide) (fun c2 => ?_) (fun c2 => ?_)
      · have E := ob_f E c2
        refine ax_iinc (v := s1.2.2 + 1) (lv' := [(0, .ref (al 0 0)), (1, .int x1), (2, .int s1.2.1), (3, .int (s1.2.2 + 1))]) M d_G_fire_37 3 rfl rfl (by decide) [1, 2, 3, 0] rfl ?_
        refine ax_goto (tgt := 4) M d_G_fire_40 (by decide) ?_
        obtain rfl := Option.some.inj E
        refine ax_lv (lv' := [(0, .ref (al 0 0)), (1, .int x1), (2, .int s1.2.1), (3, .int (s1.2.2 + 1))]) [0, 1, 2, 3] rfl ?_
        exact K1 _ rfl h hG
      · have E := ob_t E c2
        refine ax_iload_n M d_G_fire_25 2 rfl ?_
        refine ax_aload_n M d_G_fire_26 0 rfl ?_
        refine sw_get M hG 0 0 (by decide) in_G rfl rfl 1 (by decide) wd_153 rfl d_G_fire_27 ?_
        refine ax_iload_n M d_G_fire_30 3 rfl ?_
        refine sw_aldq (g := fun e => ix (gi s1.1 5 0 e)) M hG 5 0 (by decide) rfl 2 rfl rfl k1 d_G_fire_31 ?_
        obtain ⟨b1, e1, E⟩ := ob_b E
        refine ax_callVN (n := 0) (q := (R_E, F_E, 9)) M TT_good rfl (SW.at hG 2 (ix (gi s1.1 5 0 (ix s1.2.2))) k2) (ac_C_Edge_takeWeighed k2 hG e1) wd_301 lm_G_206 (by decide) (by decide) rfl rfl (Nat.le_of_ble_eq_true rfl) d_G_fire_32 (by decide) (c1 := 0) (s1 := 0) (by decide) (ax_ret_i (fun h hG => ?_))
        refine ax_iadd M d_G_fire_35 ?_
        refine ax_istore_n (lv' := [(0, .ref (al 0 0)), (1, .int x1), (2, .int (s1.2.1 + b1.1)), (3, .int s1.2.2)]) M d_G_fire_36 (by decide) [1, 2, 0, 3] rfl ?_
        refine ax_iinc (v := s1.2.2 + 1) (lv' := [(0, .ref (al 0 0)), (1, .int x1), (2, .int (s1.2.1 + b1.1)), (3, .int (s1.2.2 + 1))]) M d_G_fire_37 3 rfl rfl (by decide) [1, 2, 3, 0] rfl ?_
        refine ax_goto (tgt := 4) M d_G_fire_40 (by decide) ?_
        obtain rfl := Option.some.inj E
        refine ax_lv (lv' := [(0, .ref (al 0 0)), (1, .int x1), (2, .int (s1.2.1 + b1.1)), (3, .int (s1.2.2 + 1))]) [0, 1, 2, 3] rfl ?_
        exact K1 _ rfl h hG
  · intro h hG
    refine ax_aload_n M d_G_fire_43 0 rfl ?_
    refine sw_get M hG 0 0 (by decide) in_G rfl rfl 0 (by decide) wd_152 rfl d_G_fire_44 ?_
    refine ax_iload_n M d_G_fire_47 1 rfl ?_
    obtain ⟨k3, E⟩ := ob_c E
    refine sw_aldq (g := fun e => e) M hG 4 0 (by decide) rfl 1 rfl rfl k3 d_G_fire_48 ?_
    refine ax_iload_n M d_G_fire_49 2 rfl ?_
    obtain ⟨b2, e2, E⟩ := ob_b E
    refine ax_callVN (n := 1) (q := (R_A, F_A, 10)) M TT_good rfl (SW.at hG 1 (ix x1) (in_lt k3)) (ac_C_Actor_answerTo (in_lt k3) hG e2) wd_309 lm_G_209 (by decide) (by decide) rfl rfl (Nat.le_of_ble_eq_true rfl) d_G_fire_50 (by decide) (c1 := 0) (s1 := 0) (by decide) (ax_ret_i (fun h hG => ?_))
    refine ax_istore_n (lv' := [(0, .ref (al 0 0)), (1, .int x1), (3, .int b2.1)]) M d_G_fire_53 (by decide) [1, 2, 0] rfl ?_
    refine ax_aload_n M d_G_fire_54 0 rfl ?_
    refine sw_get M hG 0 0 (by decide) in_G rfl rfl 0 (by decide) wd_152 rfl d_G_fire_55 ?_
    refine ax_iload_n M d_G_fire_58 1 rfl ?_
    refine sw_aldq (g := fun e => e) M hG 4 0 (by decide) rfl 1 rfl rfl k3 d_G_fire_59 ?_
    refine ax_iload_n M d_G_fire_60 2 rfl ?_
    refine sw_putN M hG 1 (ix x1) (in_lt k3) in_A t_A tok_A nok_A rfl rfl 9 (by decide) wd_90 rfl rfl rfl (Nat.le_of_ble_eq_true rfl) rfl d_G_fire_61 (fun h hG => ?_)
    refine ax_iconst (v := 0) M d_G_fire_64 (by decide) ?_
    refine ax_istore (lv' := [(0, .ref (al 0 0)), (1, .int x1), (3, .int b2.1), (4, .int 0)]) M d_G_fire_65 (by decide) [1, 2, 3, 0] rfl ?_
    refine ax_lv (lv' := [(0, .ref (al 0 0)), (1, .int x1), (3, .int b2.1), (4, .int 0)]) [0, 1, 2, 3] rfl ?_
    obtain ⟨r2, l2, E⟩ := ob_b E
    refine lp_walk (fun (s2 : ST × Int32) => ∀ h : AH, SW dmC (cfC cc) al s2.1 h0 h → AW l D vwCl rm_C_fire 5 X 0 0 h 67 [(0, .ref (al 0 0)), (1, .int x1), (3, .int b2.1), (4, .int s2.2)] []) (fun (r2 : ST × Int32) => ∀ h : AH, SW dmC (cfC cc) al r2.1 h0 h → AW l D vwCl rm_C_fire 5 X 0 0 h 107 [(0, .ref (al 0 0)), (1, .int x1), (3, .int b2.1), (4, .int r2.2)] []) ?_ _ _ _ l2 ?_ h hG
    · intro s2 y2 E K3 K4 h hG
      refine ax_iload M d_G_fire_67 3 rfl ?_
      refine ax_aload_n M d_G_fire_69 0 rfl ?_
      refine sw_get M hG 0 0 (by decide) in_G rfl rfl 5 (by decide) wd_157 rfl d_G_fire_70 ?_
      refine ax_icmp_ge (tgt := 107) M d_G_fire_73 (by decide) (fun c3 => ?_) (fun c3 => ?_)
      · have E := ob_t E c3
        obtain rfl := Option.some.inj E
        refine ax_lv (lv' := [(0, .ref (al 0 0)), (1, .int x1), (3, .int b2.1), (4, .int s2.2)]) [0, 1, 2, 3] rfl ?_
        exact (K4 _ rfl) h hG
      · have E := ob_f E c3
        refine ax_aload_n M d_G_fire_76 0 rfl ?_
        refine sw_get M hG 0 0 (by decide) in_G rfl rfl 1 (by decide) wd_153 rfl d_G_fire_77 ?_
        refine ax_iload M d_G_fire_80 3 rfl ?_
        obtain ⟨k4, E⟩ := ob_c E
        refine sw_aldq (g := fun e => ix (gi s2.1 5 0 e)) M hG 5 0 (by decide) rfl 2 rfl rfl k4 d_G_fire_82 ?_
        obtain ⟨k5, E⟩ := ob_c E
        refine sw_getN M hG 2 (ix (gi s2.1 5 0 (ix s2.2))) k5 in_E rfl rfl 1 (by decide) wd_120 rfl d_G_fire_83 ?_
        refine ax_iload_n M d_G_fire_86 1 rfl ?_
        refine ax_icmp_ne (tgt := 101) M d_G_fire_87 (by decide) (fun c4 => ?_) (fun c4 => ?_)
        · have E := ob_f E c4
          refine ax_iinc (v := s2.2 + 1) (lv' := [(0, .ref (al 0 0)), (1, .int x1), (3, .int b2.1), (4, .int (s2.2 + 1))]) M d_G_fire_101 3 rfl rfl (by decide) [1, 2, 3, 0] rfl ?_
          refine ax_goto (tgt := 67) M d_G_fire_104 (by decide) ?_
          obtain rfl := Option.some.inj E
          refine ax_lv (lv' := [(0, .ref (al 0 0)), (1, .int x1), (3, .int b2.1), (4, .int (s2.2 + 1))]) [0, 1, 2, 3] rfl ?_
          exact K3 _ rfl h hG
        · have E := ob_t E c4
          refine ax_aload_n M d_G_fire_90 0 rfl ?_
          refine sw_get M hG 0 0 (by decide) in_G rfl rfl 1 (by decide) wd_153 rfl d_G_fire_91 ?_
          refine ax_iload M d_G_fire_94 3 rfl ?_
          refine sw_aldq (g := fun e => ix (gi s2.1 5 0 e)) M hG 5 0 (by decide) rfl 2 rfl rfl k4 d_G_fire_96 ?_
          refine ax_iload_n M d_G_fire_97 2 rfl ?_
          obtain ⟨b3, e3, E⟩ := ob_b E
          refine ax_callVN (n := 1) (q := (R_E, F_E, 9)) M TT_good rfl (SW.at hG 2 (ix (gi s2.1 5 0 (ix s2.2))) k5) (ac_C_Edge_putFrom k5 hG e3) wd_313 lm_G_212 (by decide) (by decide) rfl rfl (Nat.le_of_ble_eq_true rfl) d_G_fire_98 (by decide) (c1 := 0) (s1 := 0) (by decide) (ax_ret_v (fun h hG => ?_))
          refine ax_iinc (v := s2.2 + 1) (lv' := [(0, .ref (al 0 0)), (1, .int x1), (3, .int b2.1), (4, .int (s2.2 + 1))]) M d_G_fire_101 3 rfl rfl (by decide) [1, 2, 3, 0] rfl ?_
          refine ax_goto (tgt := 67) M d_G_fire_104 (by decide) ?_
          obtain rfl := Option.some.inj E
          refine ax_lv (lv' := [(0, .ref (al 0 0)), (1, .int x1), (3, .int b2.1), (4, .int (s2.2 + 1))]) [0, 1, 2, 3] rfl ?_
          exact K3 _ rfl h hG
    · intro h hG
      obtain rfl := Option.some.inj E
      exact ax_vret M hR (by decide) (by decide) d_G_fire_107 ⟨rfl, hG⟩
def C_run (σ : ST) (x1 : Int32) : Option (Int32 × ST) :=
  (C_isWithin x1 1 8).bind (fun b1 => 
  (if b1 = 0 then
  (some ((-1, σ))) else
  (if (gi σ 0 0 8) = 0 then
  (some ((-4, σ))) else
  ((lp (fun s1 : ST × Int32 =>
  if x1 ≤ s1.2 then
  (some (.inr ((s1.1, s1.2)))) else
  ((lp (fun s2 : ST × Int32 =>
  if (gi s2.1 0 0 6) ≤ s2.2 then
  (some (.inr ((s2.1, s2.2)))) else
  (if inb s2.2 64 then 
  ((C_fire s2.1 (gi s2.1 8 0 (ix s2.2))).bind (fun b2 => 
  (some (.inl ((b2, s2.2 + 1)))))) else none)) 1000 ((s1.1, 0))).bind (fun r2 : ST × Int32 =>
  some (.inl ((r2.1, s1.2 + 1)))))) 1000 ((σ, 0))).bind (fun r1 : ST × Int32 =>
  some ((x1 * (gi r1.1 0 0 6), su r1.1 0 0 7 ((gi r1.1 0 0 7) + (x1 * (gi r1.1 0 0 6))))))))))
abbrev rm_C_run : Room := { frames := 3, cells := 0, slots := 0, locals := 67 }
set_option maxRecDepth 100000 in
set_option maxHeartbeats 4000000 in
theorem ac_C_run {l : Launch} {D : va_G} {cc : Nat → ClassId} {al : Nat → Nat → Nat} {σ : ST} {h0 h : AH} {x1 : Int32} {res : Int32 × ST}  (hG : SW dmC (cfC cc) al σ h0 h) (E : C_run σ x1 = some res) : AC l D vwCl (tysOf cc) NN y_G_run (Cond.code y_G_run b_G_run 4 (some .int) :: TT) rm_C_run [.ref (al 0 0), .int x1] h (fun rv h' => rv = some (.int res.1) ∧ SW dmC (cfC cc) al res.2 h0 h') := by
  refine AC.of (by decide) rfl (Nat.le_of_ble_eq_true rfl) (fun X M hR hI => ?_)
  unfold C_run at E
  refine ax_lv (lv' := [(0, .ref (al 0 0)), (1, .int x1)]) [0, 1] rfl ?_
  refine ax_iload_n M d_G_run_0 1 rfl ?_
  refine ax_iconst (v := 1) M d_G_run_1 (by decide) ?_
  refine ax_bipush (v := 8) M d_G_run_2 (by decide) ?_
  obtain ⟨b1, e1, E⟩ := ob_b E
  refine ax_callS (n := 3) M TT_good (ac_C_isWithin hG e1) lm_G_35 (by decide) (by decide) rfl rfl (Nat.le_of_ble_eq_true rfl) d_G_run_4 (by decide) (c1 := 0) (s1 := 0) (by decide) (ax_ret_i (fun h hG => ?_))
  refine ax_if_ne (tgt := 12) M d_G_run_7 (by decide) (fun c1 => ?_) (fun c1 => ?_)
  · have E := ob_f E c1
    refine ax_aload_n M d_G_run_12 0 rfl ?_
    refine sw_get M hG 0 0 (by decide) in_G rfl rfl 8 (by decide) wd_160 rfl d_G_run_13 ?_
    refine ax_if_ne (tgt := 22) M d_G_run_16 (by decide) (fun c2 => ?_) (fun c2 => ?_)
    · have E := ob_f E c2
      refine ax_iconst (v := 0) M d_G_run_22 (by decide) ?_
      refine ax_istore_n (lv' := [(0, .ref (al 0 0)), (1, .int x1), (2, .int 0)]) M d_G_run_23 (by decide) [1, 2, 0] rfl ?_
      refine ax_lv (lv' := [(0, .ref (al 0 0)), (1, .int x1), (2, .int 0)]) [0, 1, 2] rfl ?_
      obtain ⟨r1, l2, E⟩ := ob_b E
      refine lp_walk (fun (s1 : ST × Int32) => ∀ h : AH, SW dmC (cfC cc) al s1.1 h0 h → AW l D vwCl rm_C_run 4 X 0 0 h 24 [(0, .ref (al 0 0)), (1, .int x1), (2, .int s1.2)] []) (fun (r1 : ST × Int32) => ∀ h : AH, SW dmC (cfC cc) al r1.1 h0 h → AW l D vwCl rm_C_run 4 X 0 0 h 61 [(0, .ref (al 0 0)), (1, .int x1), (2, .int r1.2)] []) ?_ _ _ _ l2 ?_ h hG
      · intro s1 y1 E K1 K2 h hG
        refine ax_iload_n M d_G_run_24 2 rfl ?_
        refine ax_iload_n M d_G_run_25 1 rfl ?_
        refine ax_icmp_ge (tgt := 61) M d_G_run_26 (by decide) (fun c3 => ?_) (fun c3 => ?_)
        · have E := ob_t E c3
          obtain rfl := Option.some.inj E
          refine ax_lv (lv' := [(0, .ref (al 0 0)), (1, .int x1), (2, .int s1.2)]) [0, 1, 2] rfl ?_
          exact (K2 _ rfl) h hG
        · have E := ob_f E c3
          refine ax_iconst (v := 0) M d_G_run_29 (by decide) ?_
          refine ax_istore_n (lv' := [(0, .ref (al 0 0)), (1, .int x1), (2, .int s1.2), (3, .int 0)]) M d_G_run_30 (by decide) [1, 2, 3, 0] rfl ?_
          refine ax_lv (lv' := [(0, .ref (al 0 0)), (1, .int x1), (2, .int s1.2), (3, .int 0)]) [0, 1, 2, 3] rfl ?_
          obtain ⟨r2, l1, E⟩ := ob_b E
          refine lp_walk (fun (s2 : ST × Int32) => ∀ h : AH, SW dmC (cfC cc) al s2.1 h0 h → AW l D vwCl rm_C_run 4 X 0 0 h 31 [(0, .ref (al 0 0)), (1, .int x1), (2, .int s1.2), (3, .int s2.2)] []) (fun (r2 : ST × Int32) => ∀ h : AH, SW dmC (cfC cc) al r2.1 h0 h → AW l D vwCl rm_C_run 4 X 0 0 h 55 [(0, .ref (al 0 0)), (1, .int x1), (2, .int s1.2), (3, .int r2.2)] []) ?_ _ _ _ l1 ?_ h hG
          · intro s2 y2 E K3 K4 h hG
            refine ax_iload_n M d_G_run_31 3 rfl ?_
            refine ax_aload_n M d_G_run_32 0 rfl ?_
            refine sw_get M hG 0 0 (by decide) in_G rfl rfl 6 (by decide) wd_158 rfl d_G_run_33 ?_
            refine ax_icmp_ge (tgt := 55) M d_G_run_36 (by decide) (fun c4 => ?_) (fun c4 => ?_)
            · have E := ob_t E c4
              obtain rfl := Option.some.inj E
              refine ax_lv (lv' := [(0, .ref (al 0 0)), (1, .int x1), (2, .int s1.2), (3, .int s2.2)]) [0, 1, 2, 3] rfl ?_
              exact (K4 _ rfl) h hG
            · have E := ob_f E c4
              refine ax_aload_n M d_G_run_39 0 rfl ?_
              refine ax_aload_n M d_G_run_40 0 rfl ?_
              refine sw_get M hG 0 0 (by decide) in_G rfl rfl 4 (by decide) wd_156 rfl d_G_run_41 ?_
              refine ax_iload_n M d_G_run_44 3 rfl ?_
              obtain ⟨k1, E⟩ := ob_c E
              refine sw_iald M hG 8 0 (by decide) rfl 0 rfl k1 d_G_run_45 ?_
              obtain ⟨b2, e2, E⟩ := ob_b E
              refine ax_callV (n := 1) (C := R_G) (q := (R_G, F_G, 9)) M TT_good rfl rfl (SW.at hG 0 0 (by decide)) (ac_C_fire hG e2) lm_G_98 (by decide) (by decide) rfl rfl (Nat.le_of_ble_eq_true rfl) d_G_run_46 (by decide) (c1 := 0) (s1 := 0) (by decide) (ax_ret_v (fun h hG => ?_))
              refine ax_iinc (v := s2.2 + 1) (lv' := [(0, .ref (al 0 0)), (1, .int x1), (2, .int s1.2), (3, .int (s2.2 + 1))]) M d_G_run_49 3 rfl rfl (by decide) [1, 2, 3, 0] rfl ?_
              refine ax_goto (tgt := 31) M d_G_run_52 (by decide) ?_
              obtain rfl := Option.some.inj E
              refine ax_lv (lv' := [(0, .ref (al 0 0)), (1, .int x1), (2, .int s1.2), (3, .int (s2.2 + 1))]) [0, 1, 2, 3] rfl ?_
              exact K3 _ rfl h hG
          · intro h hG
            refine ax_iinc (v := s1.2 + 1) (lv' := [(0, .ref (al 0 0)), (1, .int x1), (2, .int (s1.2 + 1)), (3, .int r2.2)]) M d_G_run_55 2 rfl rfl (by decide) [1, 2, 0, 3] rfl ?_
            refine ax_goto (tgt := 24) M d_G_run_58 (by decide) ?_
            obtain rfl := Option.some.inj E
            refine ax_lv (lv' := [(0, .ref (al 0 0)), (1, .int x1), (2, .int (s1.2 + 1))]) [0, 1, 2] rfl ?_
            exact K1 _ rfl h hG
      · intro h hG
        refine ax_aload_n M d_G_run_61 0 rfl ?_
        refine ax_dup M d_G_run_62 rfl ?_
        refine sw_get M hG 0 0 (by decide) in_G rfl rfl 7 (by decide) wd_159 rfl d_G_run_63 ?_
        refine ax_iload_n M d_G_run_66 1 rfl ?_
        refine ax_aload_n M d_G_run_67 0 rfl ?_
        refine sw_get M hG 0 0 (by decide) in_G rfl rfl 6 (by decide) wd_158 rfl d_G_run_68 ?_
        refine ax_imul M d_G_run_71 ?_
        refine ax_iadd M d_G_run_72 ?_
        refine sw_put M hG 0 0 (by decide) in_G t_G tok_G nok_G rfl rfl 7 (by decide) wd_159 rfl rfl rfl (Nat.le_of_ble_eq_true rfl) rfl d_G_run_73 (fun h hG => ?_)
        refine ax_iload_n M d_G_run_76 1 rfl ?_
        refine ax_aload_n M d_G_run_77 0 rfl ?_
        refine sw_get M hG 0 0 (by decide) in_G rfl rfl 6 (by decide) wd_158 rfl d_G_run_78 ?_
        refine ax_topi (gi r1.1 0 0 6) (gi_k (by decide)) ?_
        refine ax_imul M d_G_run_81 ?_
        obtain rfl := Option.some.inj E
        exact ax_iret M hR (by decide) (by decide) d_G_run_82 ⟨rfl, hG⟩
    · have E := ob_t E c2
      refine ax_bipush (v := -4) M d_G_run_19 (by decide) ?_
      obtain rfl := Option.some.inj E
      exact ax_iret M hR (by decide) (by decide) d_G_run_21 ⟨rfl, hG⟩
  · have E := ob_t E c1
    refine ax_iconst (v := (-1)) M d_G_run_10 (by decide) ?_
    obtain rfl := Option.some.inj E
    exact ax_iret M hR (by decide) (by decide) d_G_run_11 ⟨rfl, hG⟩
def C_repetitions (σ : ST) (x1 : Int32) : Option (Int32) :=
  (C_isActor σ x1).bind (fun b1 => 
  (if b1 = 0 then
  (some (-1)) else
  (if (gi σ 0 0 8) = 0 then
  (some (-4)) else
  (if inb x1 8 then 
  (some (gi σ 1 (ix x1) 5)) else none))))
abbrev rm_C_repetitions : Room := { frames := 2, cells := 0, slots := 0, locals := 43 }
set_option maxRecDepth 100000 in
set_option maxHeartbeats 4000000 in
theorem ac_C_repetitions {l : Launch} {D : va_G} {cc : Nat → ClassId} {al : Nat → Nat → Nat} {σ : ST} {h0 h : AH} {x1 : Int32} {res : Int32}  (hG : SW dmC (cfC cc) al σ h0 h) (E : C_repetitions σ x1 = some res) : AC l D vwCl (tysOf cc) NN y_G_repetitions (Cond.code y_G_repetitions b_G_repetitions 2 (some .int) :: TT) rm_C_repetitions [.ref (al 0 0), .int x1] h (fun rv h' => rv = some (.int res) ∧ SW dmC (cfC cc) al σ h0 h') := by
  refine AC.of (by decide) rfl (Nat.le_of_ble_eq_true rfl) (fun X M hR hI => ?_)
  unfold C_repetitions at E
  refine ax_lv (lv' := [(0, .ref (al 0 0)), (1, .int x1)]) [0, 1] rfl ?_
  refine ax_aload_n M d_G_repetitions_0 0 rfl ?_
  refine ax_iload_n M d_G_repetitions_1 1 rfl ?_
  obtain ⟨b1, e1, E⟩ := ob_b E
  refine ax_callV (n := 1) (C := R_G) (q := (R_G, F_G, 9)) M TT_good rfl rfl (SW.at hG 0 0 (by decide)) (ac_C_isActor hG e1) lm_G_53 (by decide) (by decide) rfl rfl (Nat.le_of_ble_eq_true rfl) d_G_repetitions_2 (by decide) (c1 := 0) (s1 := 0) (by decide) (ax_ret_i (fun h hG => ?_))
  refine ax_if_ne (tgt := 10) M d_G_repetitions_5 (by decide) (fun c1 => ?_) (fun c1 => ?_)
  · have E := ob_f E c1
    refine ax_aload_n M d_G_repetitions_10 0 rfl ?_
    refine sw_get M hG 0 0 (by decide) in_G rfl rfl 8 (by decide) wd_160 rfl d_G_repetitions_11 ?_
    refine ax_if_eq (tgt := 29) M d_G_repetitions_14 (by decide) (fun c2 => ?_) (fun c2 => ?_)
    · have E := ob_t E c2
      refine ax_bipush (v := -4) M d_G_repetitions_29 (by decide) ?_
      obtain rfl := Option.some.inj E
      exact ax_iret M hR (by decide) (by decide) d_G_repetitions_31 ⟨rfl, hG⟩
    · have E := ob_f E c2
      refine ax_aload_n M d_G_repetitions_17 0 rfl ?_
      refine sw_get M hG 0 0 (by decide) in_G rfl rfl 0 (by decide) wd_152 rfl d_G_repetitions_18 ?_
      refine ax_iload_n M d_G_repetitions_21 1 rfl ?_
      obtain ⟨k1, E⟩ := ob_c E
      refine sw_aldq (g := fun e => e) M hG 4 0 (by decide) rfl 1 rfl rfl k1 d_G_repetitions_22 ?_
      refine sw_getN M hG 1 (ix x1) (in_lt k1) in_A rfl rfl 5 (by decide) wd_84 rfl d_G_repetitions_23 ?_
      refine ax_goto (tgt := 31) M d_G_repetitions_26 (by decide) ?_
      obtain rfl := Option.some.inj E
      exact ax_iret M hR (by decide) (by decide) d_G_repetitions_31 ⟨rfl, hG⟩
  · have E := ob_t E c1
    refine ax_iconst (v := (-1)) M d_G_repetitions_8 (by decide) ?_
    obtain rfl := Option.some.inj E
    exact ax_iret M hR (by decide) (by decide) d_G_repetitions_9 ⟨rfl, hG⟩
def C_schedule (σ : ST) (x1 : Int32) : Option (Int32) :=
  if (gi σ 0 0 8) = 0 then
  (some (-4)) else
  ((C_isWithin x1 0 ((gi σ 0 0 6) - 1)).bind (fun b1 => 
  (if b1 = 0 then
  (some (-1)) else
  (if inb x1 64 then 
  (some (gi σ 8 0 (ix x1))) else none))))
abbrev rm_C_schedule : Room := { frames := 1, cells := 0, slots := 0, locals := 22 }
set_option maxRecDepth 100000 in
set_option maxHeartbeats 4000000 in
theorem ac_C_schedule {l : Launch} {D : va_G} {cc : Nat → ClassId} {al : Nat → Nat → Nat} {σ : ST} {h0 h : AH} {x1 : Int32} {res : Int32}  (hG : SW dmC (cfC cc) al σ h0 h) (E : C_schedule σ x1 = some res) : AC l D vwCl (tysOf cc) NN y_G_schedule (Cond.code y_G_schedule b_G_schedule 2 (some .int) :: TT) rm_C_schedule [.ref (al 0 0), .int x1] h (fun rv h' => rv = some (.int res) ∧ SW dmC (cfC cc) al σ h0 h') := by
  refine AC.of (by decide) rfl (Nat.le_of_ble_eq_true rfl) (fun X M hR hI => ?_)
  unfold C_schedule at E
  refine ax_lv (lv' := [(0, .ref (al 0 0)), (1, .int x1)]) [0, 1] rfl ?_
  refine ax_aload_n M d_G_schedule_0 0 rfl ?_
  refine sw_get M hG 0 0 (by decide) in_G rfl rfl 8 (by decide) wd_160 rfl d_G_schedule_1 ?_
  refine ax_if_ne (tgt := 10) M d_G_schedule_4 (by decide) (fun c1 => ?_) (fun c1 => ?_)
  · have E := ob_f E c1
    refine ax_iload_n M d_G_schedule_10 1 rfl ?_
    refine ax_iconst (v := 0) M d_G_schedule_11 (by decide) ?_
    refine ax_aload_n M d_G_schedule_12 0 rfl ?_
    refine sw_get M hG 0 0 (by decide) in_G rfl rfl 6 (by decide) wd_158 rfl d_G_schedule_13 ?_
    refine ax_iconst (v := 1) M d_G_schedule_16 (by decide) ?_
    refine ax_isub M d_G_schedule_17 ?_
    obtain ⟨b1, e1, E⟩ := ob_b E
    refine ax_callS (n := 3) M TT_good (ac_C_isWithin hG e1) lm_G_35 (by decide) (by decide) rfl rfl (Nat.le_of_ble_eq_true rfl) d_G_schedule_18 (by decide) (c1 := 0) (s1 := 0) (by decide) (ax_ret_i (fun h hG => ?_))
    refine ax_if_eq (tgt := 33) M d_G_schedule_21 (by decide) (fun c2 => ?_) (fun c2 => ?_)
    · have E := ob_t E c2
      refine ax_iconst (v := (-1)) M d_G_schedule_33 (by decide) ?_
      obtain rfl := Option.some.inj E
      exact ax_iret M hR (by decide) (by decide) d_G_schedule_34 ⟨rfl, hG⟩
    · have E := ob_f E c2
      refine ax_aload_n M d_G_schedule_24 0 rfl ?_
      refine sw_get M hG 0 0 (by decide) in_G rfl rfl 4 (by decide) wd_156 rfl d_G_schedule_25 ?_
      refine ax_iload_n M d_G_schedule_28 1 rfl ?_
      obtain ⟨k1, E⟩ := ob_c E
      refine sw_iald M hG 8 0 (by decide) rfl 0 rfl k1 d_G_schedule_29 ?_
      refine ax_goto (tgt := 34) M d_G_schedule_30 (by decide) ?_
      obtain rfl := Option.some.inj E
      exact ax_iret M hR (by decide) (by decide) d_G_schedule_34 ⟨rfl, hG⟩
  · have E := ob_t E c1
    refine ax_bipush (v := -4) M d_G_schedule_7 (by decide) ?_
    obtain rfl := Option.some.inj E
    exact ax_iret M hR (by decide) (by decide) d_G_schedule_9 ⟨rfl, hG⟩
