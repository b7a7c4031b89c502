def M_step (σ : ST) (x1 : Int32) : Option (ST) :=
  (lp (fun s1 : ST × Int32 =>
  if (gi s1.1 0 0 8) ≤ s1.2 then
  (some (.inr ((s1.1, s1.2)))) else
  (if inb s1.2 13 then 
  (if (gi s1.1 5 0 (ix s1.2)) = x1 then
  (if inb s1.2 12 then 
  (some (.inl ((su s1.1 18 0 (ix s1.2) ((gi s1.1 18 0 (ix s1.2)) - (gi s1.1 7 0 (ix s1.2))), s1.2 + 1)))) else none) else
  (some (.inl ((s1.1, s1.2 + 1))))) else none)) 1000 ((σ, 0))).bind (fun r1 : ST × Int32 =>
  (lp (fun s2 : ST × Int32 =>
  if (gi s2.1 0 0 8) ≤ s2.2 then
  (some (.inr ((s2.1, s2.2)))) else
  (if inb s2.2 13 then 
  (if (gi s2.1 4 0 (ix s2.2)) = x1 then
  (if inb s2.2 12 then 
  (some (.inl ((su s2.1 18 0 (ix s2.2) ((gi s2.1 18 0 (ix s2.2)) + (gi s2.1 6 0 (ix s2.2))), s2.2 + 1)))) else none) else
  (some (.inl ((s2.1, s2.2 + 1))))) else none)) 1000 ((r1.1, 0))).bind (fun r2 : ST × Int32 =>
  (lp (fun s3 : ST × Int32 =>
  if (gi s3.1 0 0 8) ≤ s3.2 then
  (some (.inr ((s3.1, s3.2)))) else
  (if inb s3.2 12 then 
  (if (gi s3.1 18 0 (ix s3.2)) ≤ (gi s3.1 17 0 (ix s3.2)) then
  (some (.inl ((s3.1, s3.2 + 1)))) else
  (some (.inl ((su s3.1 17 0 (ix s3.2) (gi s3.1 18 0 (ix s3.2)), s3.2 + 1))))) else none)) 1000 ((r2.1, 0))).bind (fun r3 : ST × Int32 =>
  if inb x1 8 then 
  (if inb (gi r3.1 0 0 18) 64 then 
  (some (su (su (su r3.1 15 0 (ix x1) ((gi r3.1 15 0 (ix x1)) + 1)) 16 0 (ix (gi r3.1 0 0 18)) x1) 0 0 18 ((gi r3.1 0 0 18) + 1))) else none) else none)))
abbrev rm_M_step : Room := { frames := 0, cells := 0, slots := 0, locals := 0 }
set_option maxRecDepth 100000 in
set_option maxHeartbeats 4000000 in
theorem ac_M_step {l : Launch} {D : va_G} {cc : Nat → ClassId} {al : Nat → Nat → Nat} {σ : ST} {h0 h : AH} {x1 : Int32} {res : ST}  (hG : SW dmM (cfM cc) al σ h0 h) (E : M_step σ x1 = some res) : AC l D vwCl (tysOf cc) NN y_M_step (Cond.code y_M_step b_M_step 3 none :: TT) rm_M_step [.ref (al 0 0), .int x1] h (fun rv h' => rv = none ∧ SW dmM (cfM cc) al res h0 h') := by
  refine AC.of (by decide) rfl (Nat.le_of_ble_eq_true rfl) (fun X M hR hI => ?_)
  unfold M_step at E
  refine ax_lv (lv' := [(0, .ref (al 0 0)), (1, .int x1)]) [0, 1] rfl ?_
  refine ax_iconst (v := 0) M d_M_step_0 (by decide) ?_
  refine ax_istore_n (lv' := [(0, .ref (al 0 0)), (1, .int x1), (2, .int 0)]) M d_M_step_1 (by decide) [1, 2, 0] rfl ?_
  refine ax_lv (lv' := [(0, .ref (al 0 0)), (1, .int x1), (2, .int 0)]) [0, 1, 2] rfl ?_
  obtain ⟨r1, l1, E⟩ := ob_b E
  refine lp_walk (fun (s1 : ST × Int32) => ∀ h : AH, SW dmM (cfM cc) al s1.1 h0 h → AW l D vwCl rm_M_step 3 X 0 0 h 2 [(0, .ref (al 0 0)), (1, .int x1), (2, .int s1.2)] []) (fun (r1 : ST × Int32) => ∀ h : AH, SW dmM (cfM cc) al r1.1 h0 h → AW l D vwCl rm_M_step 3 X 0 0 h 41 [(0, .ref (al 0 0)), (1, .int x1), (2, .int r1.2)] []) ?_ _ _ _ l1 ?_ h hG
  · intro s1 y1 E K1 K2 h hG
    refine ax_iload_n M d_M_step_2 2 rfl ?_
    refine ax_aload_n M d_M_step_3 0 rfl ?_
    refine sw_get M hG 0 0 (by decide) in_M rfl rfl 8 (by decide) wd_412 rfl d_M_step_4 ?_
    refine ax_icmp_ge (tgt := 41) M d_M_step_7 (by decide) (fun c1 => ?_) (fun c1 => ?_)
    · have E := ob_t E c1
      obtain rfl := Option.some.inj E
      refine ax_lv (lv' := [(0, .ref (al 0 0)), (1, .int x1), (2, .int s1.2)]) [0, 1, 2] rfl ?_
      exact (K2 _ rfl) h hG
    · have E := ob_f E c1
      refine ax_aload_n M d_M_step_10 0 rfl ?_
      refine sw_get M hG 0 0 (by decide) in_M rfl rfl 4 (by decide) wd_408 rfl d_M_step_11 ?_
      refine ax_iload_n M d_M_step_14 2 rfl ?_
      obtain ⟨k1, E⟩ := ob_c E
      refine sw_iald M hG 5 0 (by decide) rfl 0 rfl k1 d_M_step_15 ?_
      refine ax_iload_n M d_M_step_16 1 rfl ?_
      refine ax_icmp_ne (tgt := 35) M d_M_step_17 (by decide) (fun c2 => ?_) (fun c2 => ?_)
      · have E := ob_f E c2
        refine ax_iinc (v := s1.2 + 1) (lv' := [(0, .ref (al 0 0)), (1, .int x1), (2, .int (s1.2 + 1))]) M d_M_step_35 2 rfl rfl (by decide) [1, 2, 0] rfl ?_
        refine ax_goto (tgt := 2) M d_M_step_38 (by decide) ?_
        obtain rfl := Option.some.inj E
        refine ax_lv (lv' := [(0, .ref (al 0 0)), (1, .int x1), (2, .int (s1.2 + 1))]) [0, 1, 2] rfl ?_
        exact K1 _ rfl h hG
      · have E := ob_t E c2
        refine ax_aload_n M d_M_step_20 0 rfl ?_
        refine sw_get M hG 0 0 (by decide) in_M rfl rfl 17 (by decide) wd_421 rfl d_M_step_21 ?_
        refine ax_iload_n M d_M_step_24 2 rfl ?_
        refine ax_dup2 M d_M_step_25 rfl rfl ?_
        obtain ⟨k2, E⟩ := ob_c E
        refine sw_iald M hG 18 0 (by decide) rfl 0 rfl k2 d_M_step_26 ?_
        refine ax_aload_n M d_M_step_27 0 rfl ?_
        refine sw_get M hG 0 0 (by decide) in_M rfl rfl 6 (by decide) wd_410 rfl d_M_step_28 ?_
        refine ax_iload_n M d_M_step_31 2 rfl ?_
        refine sw_iald M hG 7 0 (by decide) rfl 0 rfl k1 d_M_step_32 ?_
        refine ax_isub M d_M_step_33 ?_
        refine sw_iast M hG 18 0 (by decide) rfl 0 rfl k2 rfl d_M_step_34 (fun h hG => ?_)
        refine ax_iinc (v := s1.2 + 1) (lv' := [(0, .ref (al 0 0)), (1, .int x1), (2, .int (s1.2 + 1))]) M d_M_step_35 2 rfl rfl (by decide) [1, 2, 0] rfl ?_
        refine ax_goto (tgt := 2) M d_M_step_38 (by decide) ?_
        obtain rfl := Option.some.inj E
        refine ax_lv (lv' := [(0, .ref (al 0 0)), (1, .int x1), (2, .int (s1.2 + 1))]) [0, 1, 2] rfl ?_
        exact K1 _ rfl h hG
  · intro h hG
    refine ax_iconst (v := 0) M d_M_step_41 (by decide) ?_
    refine ax_istore_n (lv' := [(0, .ref (al 0 0)), (1, .int x1), (2, .int 0)]) M d_M_step_42 (by decide) [1, 2, 0] rfl ?_
    refine ax_lv (lv' := [(0, .ref (al 0 0)), (1, .int x1), (2, .int 0)]) [0, 1, 2] rfl ?_
    obtain ⟨r2, l2, E⟩ := ob_b E
    refine lp_walk (fun (s2 : ST × Int32) => ∀ h : AH, SW dmM (cfM cc) al s2.1 h0 h → AW l D vwCl rm_M_step 3 X 0 0 h 43 [(0, .ref (al 0 0)), (1, .int x1), (2, .int s2.2)] []) (fun (r2 : ST × Int32) => ∀ h : AH, SW dmM (cfM cc) al r2.1 h0 h → AW l D vwCl rm_M_step 3 X 0 0 h 82 [(0, .ref (al 0 0)), (1, .int x1), (2, .int r2.2)] []) ?_ _ _ _ l2 ?_ h hG
    · intro s2 y2 E K3 K4 h hG
      refine ax_iload_n M d_M_step_43 2 rfl ?_
      refine ax_aload_n M d_M_step_44 0 rfl ?_
      refine sw_get M hG 0 0 (by decide) in_M rfl rfl 8 (by decide) wd_412 rfl d_M_step_45 ?_
      refine ax_icmp_ge (tgt := 82) M d_M_step_48 (by decide) (fun c3 => ?_) (fun c3 => ?_)
      · have E := ob_t E c3
        obtain rfl := Option.some.inj E
        refine ax_lv (lv' := [(0, .ref (al 0 0)), (1, .int x1), (2, .int s2.2)]) [0, 1, 2] rfl ?_
        exact (K4 _ rfl) h hG
      · have E := ob_f E c3
        refine ax_aload_n M d_M_step_51 0 rfl ?_
        refine sw_get M hG 0 0 (by decide) in_M rfl rfl 3 (by decide) wd_407 rfl d_M_step_52 ?_
        refine ax_iload_n M d_M_step_55 2 rfl ?_
        obtain ⟨k3, E⟩ := ob_c E
        refine sw_iald M hG 4 0 (by decide) rfl 0 rfl k3 d_M_step_56 ?_
        refine ax_iload_n M d_M_step_57 1 rfl ?_
        refine ax_icmp_ne (tgt := 76) M d_M_step_58 (by decide) (fun c4 => ?_) (fun c4 => ?_)
        · have E := ob_f E c4
          refine ax_iinc (v := s2.2 + 1) (lv' := [(0, .ref (al 0 0)), (1, .int x1), (2, .int (s2.2 + 1))]) M d_M_step_76 2 rfl rfl (by decide) [1, 2, 0] rfl ?_
          refine ax_goto (tgt := 43) M d_M_step_79 (by decide) ?_
          obtain rfl := Option.some.inj E
          refine ax_lv (lv' := [(0, .ref (al 0 0)), (1, .int x1), (2, .int (s2.2 + 1))]) [0, 1, 2] rfl ?_
          exact K3 _ rfl h hG
        · have E := ob_t E c4
          refine ax_aload_n M d_M_step_61 0 rfl ?_
          refine sw_get M hG 0 0 (by decide) in_M rfl rfl 17 (by decide) wd_421 rfl d_M_step_62 ?_
          refine ax_iload_n M d_M_step_65 2 rfl ?_
          refine ax_dup2 M d_M_step_66 rfl rfl ?_
          obtain ⟨k4, E⟩ := ob_c E
          refine sw_iald M hG 18 0 (by decide) rfl 0 rfl k4 d_M_step_67 ?_
          refine ax_aload_n M d_M_step_68 0 rfl ?_
          refine sw_get M hG 0 0 (by decide) in_M rfl rfl 5 (by decide) wd_409 rfl d_M_step_69 ?_
          refine ax_iload_n M d_M_step_72 2 rfl ?_
          refine sw_iald M hG 6 0 (by decide) rfl 0 rfl k3 d_M_step_73 ?_
          refine ax_iadd M d_M_step_74 ?_
          refine sw_iast M hG 18 0 (by decide) rfl 0 rfl k4 rfl d_M_step_75 (fun h hG => ?_)
          refine ax_iinc (v := s2.2 + 1) (lv' := [(0, .ref (al 0 0)), (1, .int x1), (2, .int (s2.2 + 1))]) M d_M_step_76 2 rfl rfl (by decide) [1, 2, 0] rfl ?_
          refine ax_goto (tgt := 43) M d_M_step_79 (by decide) ?_
          obtain rfl := Option.some.inj E
          refine ax_lv (lv' := [(0, .ref (al 0 0)), (1, .int x1), (2, .int (s2.2 + 1))]) [0, 1, 2] rfl ?_
          exact K3 _ rfl h hG
    · intro h hG
      refine ax_iconst (v := 0) M d_M_step_82 (by decide) ?_
      refine ax_istore_n (lv' := [(0, .ref (al 0 0)), (1, .int x1), (2, .int 0)]) M d_M_step_83 (by decide) [1, 2, 0] rfl ?_
      refine ax_lv (lv' := [(0, .ref (al 0 0)), (1, .int x1), (2, .int 0)]) [0, 1, 2] rfl ?_
      obtain ⟨r3, l3, E⟩ := ob_b E
      refine lp_walk (fun (s3 : ST × Int32) => ∀ h : AH, SW dmM (cfM cc) al s3.1 h0 h → AW l D vwCl rm_M_step 3 X 0 0 h 84 [(0, .ref (al 0 0)), (1, .int x1), (2, .int s3.2)] []) (fun (r3 : ST × Int32) => ∀ h : AH, SW dmM (cfM cc) al r3.1 h0 h → AW l D vwCl rm_M_step 3 X 0 0 h 125 [(0, .ref (al 0 0)), (1, .int x1), (2, .int r3.2)] []) ?_ _ _ _ l3 ?_ h hG
      · intro s3 y3 E K5 K6 h hG
        refine ax_iload_n M d_M_step_84 2 rfl ?_
        refine ax_aload_n M d_M_step_85 0 rfl ?_
        refine sw_get M hG 0 0 (by decide) in_M rfl rfl 8 (by decide) wd_412 rfl d_M_step_86 ?_
        refine ax_icmp_ge (tgt := 125) M d_M_step_89 (by decide) (fun c5 => ?_) (fun c5 => ?_)
        · have E := ob_t E c5
          obtain rfl := Option.some.inj E
          refine ax_lv (lv' := [(0, .ref (al 0 0)), (1, .int x1), (2, .int s3.2)]) [0, 1, 2] rfl ?_
          exact (K6 _ rfl) h hG
        · have E := ob_f E c5
          refine ax_aload_n M d_M_step_92 0 rfl ?_
          refine sw_get M hG 0 0 (by decide) in_M rfl rfl 17 (by decide) wd_421 rfl d_M_step_93 ?_
          refine ax_iload_n M d_M_step_96 2 rfl ?_
          obtain ⟨k5, E⟩ := ob_c E
          refine sw_iald M hG 18 0 (by decide) rfl 0 rfl k5 d_M_step_97 ?_
          refine ax_aload_n M d_M_step_98 0 rfl ?_
          refine sw_get M hG 0 0 (by decide) in_M rfl rfl 16 (by decide) wd_420 rfl d_M_step_99 ?_
          refine ax_iload_n M d_M_step_102 2 rfl ?_
          refine sw_iald M hG 17 0 (by decide) rfl 0 rfl k5 d_M_step_103 ?_
          refine ax_icmp_le (tgt := 119) M d_M_step_104 (by decide) (fun c6 => ?_) (fun c6 => ?_)
          · have E := ob_t E c6
            refine ax_iinc (v := s3.2 + 1) (lv' := [(0, .ref (al 0 0)), (1, .int x1), (2, .int (s3.2 + 1))]) M d_M_step_119 2 rfl rfl (by decide) [1, 2, 0] rfl ?_
            refine ax_goto (tgt := 84) M d_M_step_122 (by decide) ?_
            obtain rfl := Option.some.inj E
            refine ax_lv (lv' := [(0, .ref (al 0 0)), (1, .int x1), (2, .int (s3.2 + 1))]) [0, 1, 2] rfl ?_
            exact K5 _ rfl h hG
          · have E := ob_f E c6
            refine ax_aload_n M d_M_step_107 0 rfl ?_
            refine sw_get M hG 0 0 (by decide) in_M rfl rfl 16 (by decide) wd_420 rfl d_M_step_108 ?_
            refine ax_iload_n M d_M_step_111 2 rfl ?_
            refine ax_aload_n M d_M_step_112 0 rfl ?_
            refine sw_get M hG 0 0 (by decide) in_M rfl rfl 17 (by decide) wd_421 rfl d_M_step_113 ?_
            refine ax_iload_n M d_M_step_116 2 rfl ?_
            refine sw_iald M hG 18 0 (by decide) rfl 0 rfl k5 d_M_step_117 ?_
            refine sw_iast M hG 17 0 (by decide) rfl 0 rfl k5 rfl d_M_step_118 (fun h hG => ?_)
            refine ax_iinc (v := s3.2 + 1) (lv' := [(0, .ref (al 0 0)), (1, .int x1), (2, .int (s3.2 + 1))]) M d_M_step_119 2 rfl rfl (by decide) [1, 2, 0] rfl ?_
            refine ax_goto (tgt := 84) M d_M_step_122 (by decide) ?_
            obtain rfl := Option.some.inj E
            refine ax_lv (lv' := [(0, .ref (al 0 0)), (1, .int x1), (2, .int (s3.2 + 1))]) [0, 1, 2] rfl ?_
            exact K5 _ rfl h hG
      · intro h hG
        refine ax_aload_n M d_M_step_125 0 rfl ?_
        refine sw_get M hG 0 0 (by decide) in_M rfl rfl 14 (by decide) wd_418 rfl d_M_step_126 ?_
        refine ax_iload_n M d_M_step_129 1 rfl ?_
        refine ax_dup2 M d_M_step_130 rfl rfl ?_
        obtain ⟨k6, E⟩ := ob_c E
        refine sw_iald M hG 15 0 (by decide) rfl 0 rfl k6 d_M_step_131 ?_
        refine ax_iconst (v := 1) M d_M_step_132 (by decide) ?_
        refine ax_iadd M d_M_step_133 ?_
        refine sw_iast M hG 15 0 (by decide) rfl 0 rfl k6 rfl d_M_step_134 (fun h hG => ?_)
        refine ax_aload_n M d_M_step_135 0 rfl ?_
        refine sw_get M hG 0 0 (by decide) in_M rfl rfl 15 (by decide) wd_419 rfl d_M_step_136 ?_
        refine ax_aload_n M d_M_step_139 0 rfl ?_
        refine sw_get M hG 0 0 (by decide) in_M rfl rfl 18 (by decide) wd_422 rfl d_M_step_140 ?_
        refine ax_topi (gi r3.1 0 0 18) (gi_K (by decide)) ?_
        refine ax_iload_n M d_M_step_143 1 rfl ?_
        obtain ⟨k7, E⟩ := ob_c E
        refine sw_iast M hG 16 0 (by decide) rfl 0 rfl k7 rfl d_M_step_144 (fun h hG => ?_)
        refine ax_aload_n M d_M_step_145 0 rfl ?_
        refine ax_dup M d_M_step_146 rfl ?_
        refine sw_get M hG 0 0 (by decide) in_M rfl rfl 18 (by decide) wd_422 rfl d_M_step_147 ?_
        refine ax_topi (gi r3.1 0 0 18) ((gi_K (by decide)).trans (gi_K (by decide))) ?_
        refine ax_iconst (v := 1) M d_M_step_150 (by decide) ?_
        refine ax_iadd M d_M_step_151 ?_
        refine sw_put M hG 0 0 (by decide) in_M t_M tok_M nok_M rfl rfl 18 (by decide) wd_422 rfl rfl rfl (Nat.le_of_ble_eq_true rfl) rfl d_M_step_152 (fun h hG => ?_)
        obtain rfl := Option.some.inj E
        exact ax_vret M hR (by decide) (by decide) d_M_step_155 ⟨rfl, hG⟩
def M_solve (σ : ST) (x1 : Int32) : Option (Int32 × ST) :=
  if x1 < 0 then
  (some ((-1, σ))) else
  (if x1 ≤ 2 then
  ((lp (fun s1 : Int32 × Int32 =>
  if 8 ≤ s1.2 then
  (some (.inr ((s1.1, s1.2)))) else
  (if inb s1.2 8 then 
  (if (gi σ 1 0 (ix s1.2)) = 0 then
  (some (.inl ((s1.1, s1.2 + 1)))) else
  (some (.inl ((s1.1 + 1, s1.2 + 1))))) else none)) 1000 ((0, 0))).bind (fun r1 : Int32 × Int32 =>
  if r1.1 = 0 then
  (some ((-4, su σ 0 0 9 0))) else
  ((lp (fun s2 : ST × Int32 =>
  if (gi s2.1 0 0 8) < s2.2 then
  (some (.inr (.inl ((s2.1, s2.2))))) else
  ((M_balance s2.1 s2.2).bind (fun b1 => 
  (if b1.1 = 0 then
  (some (.inr (.inr (((-100) - (s2.2 - 1), b1.2))))) else
  (some (.inl ((b1.2, s2.2 + 1)))))))) 1000 ((su σ 0 0 9 0, 1))).bind (fun r2 : (ST × Int32) ⊕ (Int32 × ST) => Sum.elim (fun o1 : ST × Int32 =>
  ((M_balance o1.1 (gi o1.1 0 0 8)).bind (fun b2 => 
  ((M_repeat b2.2).bind (fun b3 => 
  (if b3.1 ≤ 64 then
  ((lp (fun s3 : ST × Int32 =>
  if 8 ≤ s3.2 then
  (some (.inr ((s3.1, s3.2)))) else
  (if inb s3.2 8 then 
  (some (.inl ((su (su (su s3.1 24 0 (ix s3.2) 0) 23 0 (ix s3.2) 0) 15 0 (ix s3.2) 0, s3.2 + 1)))) else none)) 1000 ((b3.2, 0))).bind (fun r3 : ST × Int32 =>
  (lp (fun s4 : ST × Int32 =>
  if (gi s4.1 0 0 8) ≤ s4.2 then
  (some (.inr ((s4.1, s4.2)))) else
  (if inb s4.2 13 then 
  (if inb s4.2 12 then 
  (some (.inl ((su (su s4.1 17 0 (ix s4.2) (gi s4.1 8 0 (ix s4.2))) 18 0 (ix s4.2) (gi s4.1 8 0 (ix s4.2)), s4.2 + 1)))) else none) else none)) 1000 ((r3.1, 0))).bind (fun r4 : ST × Int32 =>
  (lp (fun s5 : ST × Int32 =>
  if b3.1 ≤ (gi s5.1 0 0 18) then
  (some (.inr (.inl ((s5.1, s5.2))))) else
  ((M_pick s5.1 x1 s5.2).bind (fun b4 => 
  (if 0 ≤ b4 then
  ((M_step s5.1 b4).bind (fun b5 => 
  (some (.inl ((b5, b4)))))) else
  ((lp (fun s6 : Int32 =>
  if 8 ≤ s6 then
  (some (.inr (.inl s6))) else
  (if inb s6 8 then 
  (if (gi s5.1 1 0 (ix s6)) = 0 then
  (some (.inl (s6 + 1))) else
  (if (gi s5.1 14 0 (ix s6)) ≤ (gi s5.1 15 0 (ix s6)) then
  (some (.inl (s6 + 1))) else
  (some (.inr (.inr (((-200) - s6, s5.1))))))) else none)) 1000 0).bind (fun r6 : (Int32) ⊕ (Int32 × ST) => Sum.elim (fun o2 : Int32 =>
  ((M_step s5.1 b4).bind (fun b6 => 
  (some (.inl ((b6, b4))))))) (fun v2 : Int32 × ST => some (.inr (.inr v2))) r6)))))) 1000 ((su (su r4.1 0 0 19 0) 0 0 18 0, -1))).bind (fun r5 : (ST × Int32) ⊕ (Int32 × ST) => Sum.elim (fun o3 : ST × Int32 =>
  ((lp (fun s7 : ST × Int32 =>
  if (gi s7.1 0 0 8) ≤ s7.2 then
  (some (.inr ((s7.1, s7.2)))) else
  (if inb s7.2 13 then 
  (if inb s7.2 12 then 
  ((lp (fun s8 : ST × Int32 =>
  if (gi s8.1 8 0 (ix s7.2)) ≤ s8.2 then
  (some (.inr ((s8.1, s8.2)))) else
  (if inb ((s7.2 * 400) + s8.2) 4800 then 
  (some (.inl ((su s8.1 21 0 (ix ((s7.2 * 400) + s8.2)) 0, s8.2 + 1)))) else none)) 1000 ((su s7.1 22 0 (ix s7.2) (gi s7.1 8 0 (ix s7.2)), 0))).bind (fun r8 : ST × Int32 =>
  some (.inl ((r8.1, s7.2 + 1))))) else none) else none)) 1000 ((o3.1, 0))).bind (fun r7 : ST × Int32 =>
  some ((b3.1, su r7.1 0 0 9 1))))) (fun v3 : Int32 × ST => some v3) r5)))) else
  (some ((-3, b3.2))))))))) (fun v1 : Int32 × ST => some v1) r2)))) else
  (some ((-1, σ))))
abbrev rm_M_solve : Room := { frames := 3, cells := 0, slots := 0, locals := 82 }
set_option maxRecDepth 100000 in
set_option maxHeartbeats 4000000 in
theorem ac_M_solve {l : Launch} {D : va_G} {cc : Nat → ClassId} {al : Nat → Nat → Nat} {σ : ST} {h0 h : AH} {x1 : Int32} {res : Int32 × ST}  (hG : SW dmM (cfM cc) al σ h0 h) (E : M_solve σ x1 = some res) : AC l D vwCl (tysOf cc) NN y_M_solve (Cond.code y_M_solve b_M_solve 8 (some .int) :: TT) rm_M_solve [.ref (al 0 0), .int x1] h (fun rv h' => rv = some (.int res.1) ∧ SW dmM (cfM cc) al res.2 h0 h') := by
  refine AC.of (by decide) rfl (Nat.le_of_ble_eq_true rfl) (fun X M hR hI => ?_)
  unfold M_solve at E
  refine ax_lv (lv' := [(0, .ref (al 0 0)), (1, .int x1)]) [0, 1] rfl ?_
  refine ax_iload_n M d_M_solve_0 1 rfl ?_
  refine ax_if_lt (tgt := 9) M d_M_solve_1 (by decide) (fun c1 => ?_) (fun c1 => ?_)
  · have E := ob_t E c1
    refine ax_iconst (v := (-1)) M d_M_solve_9 (by decide) ?_
    obtain rfl := Option.some.inj E
    exact ax_iret M hR (by decide) (by decide) d_M_solve_10 ⟨rfl, hG⟩
  · have E := ob_f E c1
    refine ax_iload_n M d_M_solve_4 1 rfl ?_
    refine ax_iconst (v := 2) M d_M_solve_5 (by decide) ?_
    refine ax_icmp_le (tgt := 11) M d_M_solve_6 (by decide) (fun c2 => ?_) (fun c2 => ?_)
    · have E := ob_t E c2
      refine ax_aload_n M d_M_solve_11 0 rfl ?_
      refine ax_iconst (v := 0) M d_M_solve_12 (by decide) ?_
      refine sw_put M hG 0 0 (by decide) in_M t_M tok_M nok_M rfl rfl 9 (by decide) wd_413 rfl rfl rfl (Nat.le_of_ble_eq_true rfl) rfl d_M_solve_13 (fun h hG => ?_)
      refine ax_iconst (v := 0) M d_M_solve_16 (by decide) ?_
      refine ax_istore_n (lv' := [(0, .ref (al 0 0)), (1, .int x1), (2, .int 0)]) M d_M_solve_17 (by decide) [1, 2, 0] rfl ?_
      refine ax_iconst (v := 0) M d_M_solve_18 (by decide) ?_
      refine ax_istore_n (lv' := [(0, .ref (al 0 0)), (1, .int x1), (2, .int 0), (3, .int 0)]) M d_M_solve_19 (by decide) [1, 2, 3, 0] rfl ?_
      refine ax_lv (lv' := [(0, .ref (al 0 0)), (1, .int x1), (2, .int 0), (3, .int 0)]) [0, 1, 2, 3] rfl ?_
      obtain ⟨r1, l1, E⟩ := ob_b E
      refine lp_walk (fun (s1 : Int32 × Int32) => ∀ h : AH, SW dmM (cfM cc) al (su σ 0 0 9 0) h0 h → AW l D vwCl rm_M_solve 8 X 0 0 h 20 [(0, .ref (al 0 0)), (1, .int x1), (2, .int s1.1), (3, .int s1.2)] []) (fun (r1 : Int32 × Int32) => ∀ h : AH, SW dmM (cfM cc) al (su σ 0 0 9 0) h0 h → AW l D vwCl rm_M_solve 8 X 0 0 h 44 [(0, .ref (al 0 0)), (1, .int x1), (2, .int r1.1), (3, .int r1.2)] []) ?_ _ _ _ l1 ?_ h hG
      · intro s1 y1 E K1 K2 h hG
        refine ax_iload_n M d_M_solve_20 3 rfl ?_
        refine ax_bipush (v := 8) M d_M_solve_21 (by decide) ?_
        refine ax_icmp_ge (tgt := 44) M d_M_solve_23 (by decide) (fun c3 => ?_) (fun c3 => ?_)
        · have E := ob_t E c3
          obtain rfl := Option.some.inj E
          refine ax_lv (lv' := [(0, .ref (al 0 0)), (1, .int x1), (2, .int s1.1), (3, .int s1.2)]) [0, 1, 2, 3] rfl ?_
          exact (K2 _ rfl) h hG
        · have E := ob_f E c3
          refine ax_aload_n M d_M_solve_26 0 rfl ?_
          refine sw_get M hG 0 0 (by decide) in_M rfl rfl 0 (by decide) wd_404 rfl d_M_solve_27 ?_
          refine ax_iload_n M d_M_solve_30 3 rfl ?_
          obtain ⟨k1, E⟩ := ob_c E
          refine sw_zald M hG 1 0 (by decide) rfl 4 rfl k1 d_M_solve_31 ?_
          refine ax_topi (gi σ 1 0 (ix s1.2)) (gi_K (by decide)) ?_
          refine ax_if_eq (tgt := 38) M d_M_solve_32 (by decide) (fun c4 => ?_) (fun c4 => ?_)
          · have E := ob_t E c4
            refine ax_iinc (v := s1.2 + 1) (lv' := [(0, .ref (al 0 0)), (1, .int x1), (2, .int s1.1), (3, .int (s1.2 + 1))]) M d_M_solve_38 3 rfl rfl (by decide) [1, 2, 3, 0] rfl ?_
            refine ax_goto (tgt := 20) M d_M_solve_41 (by decide) ?_
            obtain rfl := Option.some.inj E
            refine ax_lv (lv' := [(0, .ref (al 0 0)), (1, .int x1), (2, .int s1.1), (3, .int (s1.2 + 1))]) [0, 1, 2, 3] rfl ?_
            exact K1 _ rfl h hG
          · have E := ob_f E c4
            refine ax_iinc (v := s1.1 + 1) (lv' := [(0, .ref (al 0 0)), (1, .int x1), (2, .int (s1.1 + 1)), (3, .int s1.2)]) M d_M_solve_35 2 rfl rfl (by decide) [1, 2, 0, 3] rfl ?_
            refine ax_iinc (v := s1.2 + 1) (lv' := [(0, .ref (al 0 0)), (1, .int x1), (2, .int (s1.1 + 1)), (3, .int (s1.2 + 1))]) M d_M_solve_38 3 rfl rfl (by decide) [1, 2, 3, 0] rfl ?_
            refine ax_goto (tgt := 20) M d_M_solve_41 (by decide) ?_
            obtain rfl := Option.some.inj E
            refine ax_lv (lv' := [(0, .ref (al 0 0)), (1, .int x1), (2, .int (s1.1 + 1)), (3, .int (s1.2 + 1))]) [0, 1, 2, 3] rfl ?_
            exact K1 _ rfl h hG
      · intro h hG
        refine ax_iload_n M d_M_solve_44 2 rfl ?_
        refine ax_if_ne (tgt := 51) M d_M_solve_45 (by decide) (fun c5 => ?_) (fun c5 => ?_)
        · have E := ob_f E c5
          refine ax_iconst (v := 1) M d_M_solve_51 (by decide) ?_
          refine ax_istore_n (lv' := [(0, .ref (al 0 0)), (1, .int x1), (3, .int 1)]) M d_M_solve_52 (by decide) [1, 2, 0] rfl ?_
          refine ax_lv (lv' := [(0, .ref (al 0 0)), (1, .int x1), (3, .int 1)]) [0, 1, 2] rfl ?_
          obtain ⟨r2, l2, E⟩ := ob_b E
          refine lp_walk (fun (s2 : ST × Int32) => ∀ h : AH, SW dmM (cfM cc) al s2.1 h0 h → AW l D vwCl rm_M_solve 8 X 0 0 h 53 [(0, .ref (al 0 0)), (1, .int x1), (3, .int s2.2)] []) (fun (r2 : (ST × Int32) ⊕ (Int32 × ST)) => Sum.elim (fun o1 : ST × Int32 => ∀ h : AH, SW dmM (cfM cc) al o1.1 h0 h → AW l D vwCl rm_M_solve 8 X 0 0 h 82 [(0, .ref (al 0 0)), (1, .int x1), (3, .int o1.2)] []) (fun v1 : Int32 × ST => ∀ h : AH, SW dmM (cfM cc) al v1.2 h0 h → some (Value.int v1.1) = some (.int res.1) ∧ SW dmM (cfM cc) al res.2 h0 h) r2) ?_ _ _ _ l2 ?_ h hG
          · intro s2 y2 E K3 K4 h hG
            refine ax_iload_n M d_M_solve_53 2 rfl ?_
            refine ax_aload_n M d_M_solve_54 0 rfl ?_
            refine sw_get M hG 0 0 (by decide) in_M rfl rfl 8 (by decide) wd_412 rfl d_M_solve_55 ?_
            refine ax_icmp_gt (tgt := 82) M d_M_solve_58 (by decide) (fun c6 => ?_) (fun c6 => ?_)
            · have E := ob_t E c6
              obtain rfl := Option.some.inj E
              refine ax_lv (lv' := [(0, .ref (al 0 0)), (1, .int x1), (3, .int s2.2)]) [0, 1, 2] rfl ?_
              exact (qe_l (K4 _ rfl)) h hG
            · have E := ob_f E c6
              refine ax_aload_n M d_M_solve_61 0 rfl ?_
              refine ax_iload_n M d_M_solve_62 2 rfl ?_
              obtain ⟨b1, e1, E⟩ := ob_b E
              refine ax_callV (n := 1) (C := R_M) (q := (R_M, F_M, 25)) M TT_good rfl rfl (SW.at hG 0 0 (by decide)) (ac_M_balance hG e1) lm_M_111 (by decide) (by decide) rfl rfl (Nat.le_of_ble_eq_true rfl) d_M_solve_63 (by decide) (c1 := 0) (s1 := 0) (by decide) (ax_ret_i (fun h hG => ?_))
              refine ax_if_ne (tgt := 76) M d_M_solve_66 (by decide) (fun c7 => ?_) (fun c7 => ?_)
              · have E := ob_f E c7
                refine ax_iinc (v := s2.2 + 1) (lv' := [(0, .ref (al 0 0)), (1, .int x1), (3, .int (s2.2 + 1))]) M d_M_solve_76 2 rfl rfl (by decide) [1, 2, 0] rfl ?_
                refine ax_goto (tgt := 53) M d_M_solve_79 (by decide) ?_
                obtain rfl := Option.some.inj E
                refine ax_lv (lv' := [(0, .ref (al 0 0)), (1, .int x1), (3, .int (s2.2 + 1))]) [0, 1, 2] rfl ?_
                exact K3 _ rfl h hG
              · have E := ob_t E c7
                refine ax_bipush (v := -100) M d_M_solve_69 (by decide) ?_
                refine ax_iload_n M d_M_solve_71 2 rfl ?_
                refine ax_iconst (v := 1) M d_M_solve_72 (by decide) ?_
                refine ax_isub M d_M_solve_73 ?_
                refine ax_isub M d_M_solve_74 ?_
                obtain rfl := Option.some.inj E
                exact ax_iret M hR (by decide) (by decide) d_M_solve_75 ((qe_r (K4 _ rfl)) h hG)
          · rcases r2 with o1 | v1
            · have E := se_l E
              refine qi_l ?_
              intro h hG
              refine ax_aload_n M d_M_solve_82 0 rfl ?_
              refine ax_aload_n M d_M_solve_83 0 rfl ?_
              refine sw_get M hG 0 0 (by decide) in_M rfl rfl 8 (by decide) wd_412 rfl d_M_solve_84 ?_
              obtain ⟨b2, e2, E⟩ := ob_b E
              refine ax_callV (n := 1) (C := R_M) (q := (R_M, F_M, 25)) M TT_good rfl rfl (SW.at hG 0 0 (by decide)) (ac_M_balance hG e2) lm_M_111 (by decide) (by decide) rfl rfl (Nat.le_of_ble_eq_true rfl) d_M_solve_87 (by decide) (c1 := 0) (s1 := 0) (by decide) (ax_ret_i (fun h hG => ?_))
              refine ax_istore_n (lv' := [(0, .ref (al 0 0)), (1, .int x1), (3, .int b2.1)]) M d_M_solve_90 (by decide) [1, 2, 0] rfl ?_
              refine ax_aload_n M d_M_solve_91 0 rfl ?_
              obtain ⟨b3, e3, E⟩ := ob_b E
              refine ax_callV (n := 0) (C := R_M) (q := (R_M, F_M, 25)) M TT_good rfl rfl (SW.at hG 0 0 (by decide)) (ac_M_repeat hG e3) lm_M_114 (by decide) (by decide) rfl rfl (Nat.le_of_ble_eq_true rfl) d_M_solve_92 (by decide) (c1 := 0) (s1 := 0) (by decide) (ax_ret_i (fun h hG => ?_))
              refine ax_istore (lv' := [(0, .ref (al 0 0)), (1, .int x1), (4, .int b3.1)]) M d_M_solve_95 (by decide) [1, 2, 0] rfl ?_
              refine ax_iload M d_M_solve_97 2 rfl ?_
              refine ax_bipush (v := 64) M d_M_solve_99 (by decide) ?_
              refine ax_icmp_le (tgt := 107) M d_M_solve_101 (by decide) (fun c8 => ?_) (fun c8 => ?_)
              · have E := ob_t E c8
                refine ax_iconst (v := 0) M d_M_solve_107 (by decide) ?_
                refine ax_istore (lv' := [(0, .ref (al 0 0)), (1, .int x1), (4, .int b3.1), (5, .int 0)]) M d_M_solve_108 (by decide) [1, 2, 3, 0] rfl ?_
                refine ax_lv (lv' := [(0, .ref (al 0 0)), (1, .int x1), (4, .int b3.1), (5, .int 0)]) [0, 1, 2, 3] rfl ?_
                obtain ⟨r3, l3, E⟩ := ob_b E
                refine lp_walk (fun (s3 : ST × Int32) => ∀ h : AH, SW dmM (cfM cc) al s3.1 h0 h → AW l D vwCl rm_M_solve 8 X 0 0 h 110 [(0, .ref (al 0 0)), (1, .int x1), (4, .int b3.1), (5, .int s3.2)] []) (fun (r3 : ST × Int32) => ∀ h : AH, SW dmM (cfM cc) al r3.1 h0 h → AW l D vwCl rm_M_solve 8 X 0 0 h 147 [(0, .ref (al 0 0)), (1, .int x1), (4, .int b3.1), (5, .int r3.2)] []) ?_ _ _ _ l3 ?_ h hG
                · intro s3 y3 E K5 K6 h hG
                  refine ax_iload M d_M_solve_110 3 rfl ?_
                  refine ax_bipush (v := 8) M d_M_solve_112 (by decide) ?_
                  refine ax_icmp_ge (tgt := 147) M d_M_solve_114 (by decide) (fun c9 => ?_) (fun c9 => ?_)
                  · have E := ob_t E c9
                    obtain rfl := Option.some.inj E
                    refine ax_lv (lv' := [(0, .ref (al 0 0)), (1, .int x1), (4, .int b3.1), (5, .int s3.2)]) [0, 1, 2, 3] rfl ?_
                    exact (K6 _ rfl) h hG
                  · have E := ob_f E c9
                    refine ax_aload_n M d_M_solve_117 0 rfl ?_
                    refine sw_get M hG 0 0 (by decide) in_M rfl rfl 14 (by decide) wd_418 rfl d_M_solve_118 ?_
                    refine ax_iload M d_M_solve_121 3 rfl ?_
                    refine ax_aload_n M d_M_solve_123 0 rfl ?_
                    refine sw_get M hG 0 0 (by decide) in_M rfl rfl 22 (by decide) wd_426 rfl d_M_solve_124 ?_
                    refine ax_iload M d_M_solve_127 3 rfl ?_
                    refine ax_aload_n M d_M_solve_129 0 rfl ?_
                    refine sw_get M hG 0 0 (by decide) in_M rfl rfl 23 (by decide) wd_427 rfl d_M_solve_130 ?_
                    refine ax_iload M d_M_solve_133 3 rfl ?_
                    refine ax_iconst (v := 0) M d_M_solve_135 (by decide) ?_
                    refine ax_dup_x2 M d_M_solve_136 rfl rfl rfl ?_
                    obtain ⟨k2, E⟩ := ob_c E
                    refine sw_iast M hG 24 0 (by decide) rfl 0 rfl k2 rfl d_M_solve_137 (fun h hG => ?_)
                    refine ax_dup_x2 M d_M_solve_138 rfl rfl rfl ?_
                    refine sw_iast M hG 23 0 (by decide) rfl 0 rfl k2 rfl d_M_solve_139 (fun h hG => ?_)
                    refine sw_iast M hG 15 0 (by decide) rfl 0 rfl k2 rfl d_M_solve_140 (fun h hG => ?_)
                    refine ax_iinc (v := s3.2 + 1) (lv' := [(0, .ref (al 0 0)), (1, .int x1), (4, .int b3.1), (5, .int (s3.2 + 1))]) M d_M_solve_141 3 rfl rfl (by decide) [1, 2, 3, 0] rfl ?_
                    refine ax_goto (tgt := 110) M d_M_solve_144 (by decide) ?_
                    obtain rfl := Option.some.inj E
                    refine ax_lv (lv' := [(0, .ref (al 0 0)), (1, .int x1), (4, .int b3.1), (5, .int (s3.2 + 1))]) [0, 1, 2, 3] rfl ?_
                    exact K5 _ rfl h hG
                · intro h hG
                  refine ax_iconst (v := 0) M d_M_solve_147 (by decide) ?_
                  refine ax_istore (lv' := [(0, .ref (al 0 0)), (1, .int x1), (4, .int b3.1), (5, .int 0)]) M d_M_solve_148 (by decide) [1, 2, 3, 0] rfl ?_
                  refine ax_lv (lv' := [(0, .ref (al 0 0)), (1, .int x1), (4, .int b3.1), (5, .int 0)]) [0, 1, 2, 3] rfl ?_
                  obtain ⟨r4, l4, E⟩ := ob_b E
                  refine lp_walk (fun (s4 : ST × Int32) => ∀ h : AH, SW dmM (cfM cc) al s4.1 h0 h → AW l D vwCl rm_M_solve 8 X 0 0 h 150 [(0, .ref (al 0 0)), (1, .int x1), (4, .int b3.1), (5, .int s4.2)] []) (fun (r4 : ST × Int32) => ∀ h : AH, SW dmM (cfM cc) al r4.1 h0 h → AW l D vwCl rm_M_solve 8 X 0 0 h 187 [(0, .ref (al 0 0)), (1, .int x1), (4, .int b3.1), (5, .int r4.2)] []) ?_ _ _ _ l4 ?_ h hG
                  · intro s4 y4 E K7 K8 h hG
                    refine ax_iload M d_M_solve_150 3 rfl ?_
                    refine ax_aload_n M d_M_solve_152 0 rfl ?_
                    refine sw_get M hG 0 0 (by decide) in_M rfl rfl 8 (by decide) wd_412 rfl d_M_solve_153 ?_
                    refine ax_icmp_ge (tgt := 187) M d_M_solve_156 (by decide) (fun c10 => ?_) (fun c10 => ?_)
                    · have E := ob_t E c10
                      obtain rfl := Option.some.inj E
                      refine ax_lv (lv' := [(0, .ref (al 0 0)), (1, .int x1), (4, .int b3.1), (5, .int s4.2)]) [0, 1, 2, 3] rfl ?_
                      exact (K8 _ rfl) h hG
                    · have E := ob_f E c10
                      refine ax_aload_n M d_M_solve_159 0 rfl ?_
                      refine sw_get M hG 0 0 (by decide) in_M rfl rfl 17 (by decide) wd_421 rfl d_M_solve_160 ?_
                      refine ax_iload M d_M_solve_163 3 rfl ?_
                      refine ax_aload_n M d_M_solve_165 0 rfl ?_
                      refine sw_get M hG 0 0 (by decide) in_M rfl rfl 16 (by decide) wd_420 rfl d_M_solve_166 ?_
                      refine ax_iload M d_M_solve_169 3 rfl ?_
                      refine ax_aload_n M d_M_solve_171 0 rfl ?_
                      refine sw_get M hG 0 0 (by decide) in_M rfl rfl 7 (by decide) wd_411 rfl d_M_solve_172 ?_
                      refine ax_iload M d_M_solve_175 3 rfl ?_
                      obtain ⟨k3, E⟩ := ob_c E
                      refine sw_iald M hG 8 0 (by decide) rfl 0 rfl k3 d_M_solve_177 ?_
                      refine ax_dup_x2 M d_M_solve_178 rfl rfl rfl ?_
                      obtain ⟨k4, E⟩ := ob_c E
                      refine sw_iast M hG 17 0 (by decide) rfl 0 rfl k4 rfl d_M_solve_179 (fun h hG => ?_)
                      refine sw_iast M hG 18 0 (by decide) rfl 0 rfl k4 rfl d_M_solve_180 (fun h hG => ?_)
                      refine ax_iinc (v := s4.2 + 1) (lv' := [(0, .ref (al 0 0)), (1, .int x1), (4, .int b3.1), (5, .int (s4.2 + 1))]) M d_M_solve_181 3 rfl rfl (by decide) [1, 2, 3, 0] rfl ?_
                      refine ax_goto (tgt := 150) M d_M_solve_184 (by decide) ?_
                      obtain rfl := Option.some.inj E
                      refine ax_lv (lv' := [(0, .ref (al 0 0)), (1, .int x1), (4, .int b3.1), (5, .int (s4.2 + 1))]) [0, 1, 2, 3] rfl ?_
                      exact K7 _ rfl h hG
                  · intro h hG
                    refine ax_aload_n M d_M_solve_187 0 rfl ?_
                    refine ax_aload_n M d_M_solve_188 0 rfl ?_
                    refine ax_iconst (v := 0) M d_M_solve_189 (by decide) ?_
                    refine ax_dup_x1 M d_M_solve_190 rfl rfl ?_
                    refine sw_put M hG 0 0 (by decide) in_M t_M tok_M nok_M rfl rfl 19 (by decide) wd_423 rfl rfl rfl (Nat.le_of_ble_eq_true rfl) rfl d_M_solve_191 (fun h hG => ?_)
                    refine sw_put M hG 0 0 (by decide) in_M t_M tok_M nok_M rfl rfl 18 (by decide) wd_422 rfl rfl rfl (Nat.le_of_ble_eq_true rfl) rfl d_M_solve_194 (fun h hG => ?_)
                    refine ax_iconst (v := (-1)) M d_M_solve_197 (by decide) ?_
                    refine ax_istore (lv' := [(0, .ref (al 0 0)), (1, .int x1), (4, .int b3.1), (5, .int (-1))]) M d_M_solve_198 (by decide) [1, 2, 3, 0] rfl ?_
                    refine ax_lv (lv' := [(0, .ref (al 0 0)), (1, .int x1), (4, .int b3.1), (5, .int (-1))]) [0, 1, 2, 3] rfl ?_
                    obtain ⟨r5, l6, E⟩ := ob_b E
                    refine lp_walk (fun (s5 : ST × Int32) => ∀ h : AH, SW dmM (cfM cc) al s5.1 h0 h → AW l D vwCl rm_M_solve 8 X 0 0 h 200 [(0, .ref (al 0 0)), (1, .int x1), (4, .int b3.1), (5, .int s5.2)] []) (fun (r5 : (ST × Int32) ⊕ (Int32 × ST)) => Sum.elim (fun o3 : ST × Int32 => ∀ h : AH, SW dmM (cfM cc) al o3.1 h0 h → AW l D vwCl rm_M_solve 8 X 0 0 h 282 [(0, .ref (al 0 0)), (1, .int x1), (4, .int b3.1), (5, .int o3.2)] []) (fun v3 : Int32 × ST => ∀ h : AH, SW dmM (cfM cc) al v3.2 h0 h → some (Value.int v3.1) = some (.int res.1) ∧ SW dmM (cfM cc) al res.2 h0 h) r5) ?_ _ _ _ l6 ?_ h hG
                    · intro s5 y5 E K9 K10 h hG
                      refine ax_aload_n M d_M_solve_200 0 rfl ?_
                      refine sw_get M hG 0 0 (by decide) in_M rfl rfl 18 (by decide) wd_422 rfl d_M_solve_201 ?_
                      refine ax_iload M d_M_solve_204 2 rfl ?_
                      refine ax_icmp_ge (tgt := 282) M d_M_solve_206 (by decide) (fun c11 => ?_) (fun c11 => ?_)
                      · have E := ob_t E c11
                        obtain rfl := Option.some.inj E
                        refine ax_lv (lv' := [(0, .ref (al 0 0)), (1, .int x1), (4, .int b3.1), (5, .int s5.2)]) [0, 1, 2, 3] rfl ?_
                        exact (qe_l (K10 _ rfl)) h hG
                      · have E := ob_f E c11
                        refine ax_aload_n M d_M_solve_209 0 rfl ?_
                        refine ax_iload_n M d_M_solve_210 1 rfl ?_
                        refine ax_iload M d_M_solve_211 3 rfl ?_
                        obtain ⟨b4, e4, E⟩ := ob_b E
                        refine ax_callV (n := 2) (C := R_M) (q := (R_M, F_M, 25)) M TT_good rfl rfl (SW.at hG 0 0 (by decide)) (ac_M_pick hG e4) lm_M_121 (by decide) (by decide) rfl rfl (Nat.le_of_ble_eq_true rfl) d_M_solve_213 (by decide) (c1 := 0) (s1 := 0) (by decide) (ax_ret_i (fun h hG => ?_))
                        refine ax_istore (lv' := [(0, .ref (al 0 0)), (1, .int x1), (4, .int b3.1), (5, .int b4)]) M d_M_solve_216 (by decide) [1, 2, 3, 0] rfl ?_
                        refine ax_iload M d_M_solve_218 3 rfl ?_
                        refine ax_if_ge (tgt := 273) M d_M_solve_220 (by decide) (fun c12 => ?_) (fun c12 => ?_)
                        · have E := ob_t E c12
                          refine ax_aload_n M d_M_solve_273 0 rfl ?_
                          refine ax_iload M d_M_solve_274 3 rfl ?_
                          obtain ⟨b5, e5, E⟩ := ob_b E
                          refine ax_callV (n := 1) (C := R_M) (q := (R_M, F_M, 25)) M TT_good rfl rfl (SW.at hG 0 0 (by decide)) (ac_M_step hG e5) lm_M_125 (by decide) (by decide) rfl rfl (Nat.le_of_ble_eq_true rfl) d_M_solve_276 (by decide) (c1 := 0) (s1 := 0) (by decide) (ax_ret_v (fun h hG => ?_))
                          refine ax_goto (tgt := 200) M d_M_solve_279 (by decide) ?_
                          obtain rfl := Option.some.inj E
                          refine ax_lv (lv' := [(0, .ref (al 0 0)), (1, .int x1), (4, .int b3.1), (5, .int b4)]) [0, 1, 2, 3] rfl ?_
                          exact K9 _ rfl h hG
                        · have E := ob_f E c12
                          refine ax_iconst (v := 0) M d_M_solve_223 (by decide) ?_
                          refine ax_istore (lv' := [(0, .ref (al 0 0)), (1, .int x1), (4, .int b3.1), (5, .int b4), (6, .int 0)]) M d_M_solve_224 (by decide) [1, 2, 3, 4, 0] rfl ?_
                          refine ax_lv (lv' := [(0, .ref (al 0 0)), (1, .int x1), (4, .int b3.1), (5, .int b4), (6, .int 0)]) [0, 1, 2, 3, 4] rfl ?_
                          obtain ⟨r6, l5, E⟩ := ob_b E
                          refine lp_walk (fun (s6 : Int32) => ∀ h : AH, SW dmM (cfM cc) al s5.1 h0 h → AW l D vwCl rm_M_solve 8 X 0 0 h 226 [(0, .ref (al 0 0)), (1, .int x1), (4, .int b3.1), (5, .int b4), (6, .int s6)] []) (fun (r6 : (Int32) ⊕ (Int32 × ST)) => Sum.elim (fun o2 : Int32 => ∀ h : AH, SW dmM (cfM cc) al s5.1 h0 h → AW l D vwCl rm_M_solve 8 X 0 0 h 273 [(0, .ref (al 0 0)), (1, .int x1), (4, .int b3.1), (5, .int b4), (6, .int o2)] []) (fun v2 : Int32 × ST => ∀ h : AH, SW dmM (cfM cc) al v2.2 h0 h → some (Value.int v2.1) = some (.int res.1) ∧ SW dmM (cfM cc) al res.2 h0 h) r6) ?_ _ _ _ l5 ?_ h hG
                          · intro s6 y6 E K11 K12 h hG
                            refine ax_iload M d_M_solve_226 4 rfl ?_
                            refine ax_bipush (v := 8) M d_M_solve_228 (by decide) ?_
                            refine ax_icmp_ge (tgt := 273) M d_M_solve_230 (by decide) (fun c13 => ?_) (fun c13 => ?_)
                            · have E := ob_t E c13
                              obtain rfl := Option.some.inj E
                              refine ax_lv (lv' := [(0, .ref (al 0 0)), (1, .int x1), (4, .int b3.1), (5, .int b4), (6, .int s6)]) [0, 1, 2, 3, 4] rfl ?_
                              exact (qe_l (K12 _ rfl)) h hG
                            · have E := ob_f E c13
                              refine ax_aload_n M d_M_solve_233 0 rfl ?_
                              refine sw_get M hG 0 0 (by decide) in_M rfl rfl 0 (by decide) wd_404 rfl d_M_solve_234 ?_
                              refine ax_iload M d_M_solve_237 4 rfl ?_
                              obtain ⟨k5, E⟩ := ob_c E
                              refine sw_zald M hG 1 0 (by decide) rfl 4 rfl k5 d_M_solve_239 ?_
                              refine ax_if_eq (tgt := 267) M d_M_solve_240 (by decide) (fun c14 => ?_) (fun c14 => ?_)
                              · have E := ob_t E c14
                                refine ax_iinc (v := s6 + 1) (lv' := [(0, .ref (al 0 0)), (1, .int x1), (4, .int b3.1), (5, .int b4), (6, .int (s6 + 1))]) M d_M_solve_267 4 rfl rfl (by decide) [1, 2, 3, 4, 0] rfl ?_
                                refine ax_goto (tgt := 226) M d_M_solve_270 (by decide) ?_
                                obtain rfl := Option.some.inj E
                                refine ax_lv (lv' := [(0, .ref (al 0 0)), (1, .int x1), (4, .int b3.1), (5, .int b4), (6, .int (s6 + 1))]) [0, 1, 2, 3, 4] rfl ?_
                                exact K11 _ rfl h hG
                              · have E := ob_f E c14
                                refine ax_aload_n M d_M_solve_243 0 rfl ?_
                                refine sw_get M hG 0 0 (by decide) in_M rfl rfl 14 (by decide) wd_418 rfl d_M_solve_244 ?_
                                refine ax_iload M d_M_solve_247 4 rfl ?_
                                refine sw_iald M hG 15 0 (by decide) rfl 0 rfl k5 d_M_solve_249 ?_
                                refine ax_aload_n M d_M_solve_250 0 rfl ?_
                                refine sw_get M hG 0 0 (by decide) in_M rfl rfl 13 (by decide) wd_417 rfl d_M_solve_251 ?_
                                refine ax_iload M d_M_solve_254 4 rfl ?_
                                refine sw_iald M hG 14 0 (by decide) rfl 0 rfl k5 d_M_solve_256 ?_
                                refine ax_icmp_ge (tgt := 267) M d_M_solve_257 (by decide) (fun c15 => ?_) (fun c15 => ?_)
                                · have E := ob_t E c15
                                  refine ax_iinc (v := s6 + 1) (lv' := [(0, .ref (al 0 0)), (1, .int x1), (4, .int b3.1), (5, .int b4), (6, .int (s6 + 1))]) M d_M_solve_267 4 rfl rfl (by decide) [1, 2, 3, 4, 0] rfl ?_
                                  refine ax_goto (tgt := 226) M d_M_solve_270 (by decide) ?_
                                  obtain rfl := Option.some.inj E
                                  refine ax_lv (lv' := [(0, .ref (al 0 0)), (1, .int x1), (4, .int b3.1), (5, .int b4), (6, .int (s6 + 1))]) [0, 1, 2, 3, 4] rfl ?_
                                  exact K11 _ rfl h hG
                                · have E := ob_f E c15
                                  refine ax_sipush (v := -200) M d_M_solve_260 (by decide) ?_
                                  refine ax_iload M d_M_solve_263 4 rfl ?_
                                  refine ax_isub M d_M_solve_265 ?_
                                  obtain rfl := Option.some.inj E
                                  exact ax_iret M hR (by decide) (by decide) d_M_solve_266 ((qe_r (K12 _ rfl)) h hG)
                          · rcases r6 with o2 | v2
                            · have E := se_l E
                              refine qi_l ?_
                              intro h hG
                              refine ax_aload_n M d_M_solve_273 0 rfl ?_
                              refine ax_iload M d_M_solve_274 3 rfl ?_
                              obtain ⟨b6, e6, E⟩ := ob_b E
                              refine ax_callV (n := 1) (C := R_M) (q := (R_M, F_M, 25)) M TT_good rfl rfl (SW.at hG 0 0 (by decide)) (ac_M_step hG e6) lm_M_125 (by decide) (by decide) rfl rfl (Nat.le_of_ble_eq_true rfl) d_M_solve_276 (by decide) (c1 := 0) (s1 := 0) (by decide) (ax_ret_v (fun h hG => ?_))
                              refine ax_goto (tgt := 200) M d_M_solve_279 (by decide) ?_
                              obtain rfl := Option.some.inj E
                              refine ax_lv (lv' := [(0, .ref (al 0 0)), (1, .int x1), (4, .int b3.1), (5, .int b4)]) [0, 1, 2, 3] rfl ?_
                              exact K9 _ rfl h hG
                            · have E := se_r E
                              refine qi_r ?_
                              obtain rfl := Option.some.inj E
                              exact (qe_r (K10 _ rfl))
                    · rcases r5 with o3 | v3
                      · have E := se_l E
                        refine qi_l ?_
                        intro h hG
                        refine ax_iconst (v := 0) M d_M_solve_282 (by decide) ?_
                        refine ax_istore (lv' := [(0, .ref (al 0 0)), (4, .int b3.1), (6, .int 0)]) M d_M_solve_283 (by decide) [1, 3, 0] rfl ?_
                        refine ax_lv (lv' := [(0, .ref (al 0 0)), (4, .int b3.1), (6, .int 0)]) [0, 1, 2] rfl ?_
                        obtain ⟨r7, l8, E⟩ := ob_b E
                        refine lp_walk (fun (s7 : ST × Int32) => ∀ h : AH, SW dmM (cfM cc) al s7.1 h0 h → AW l D vwCl rm_M_solve 8 X 0 0 h 285 [(0, .ref (al 0 0)), (4, .int b3.1), (6, .int s7.2)] []) (fun (r7 : ST × Int32) => ∀ h : AH, SW dmM (cfM cc) al r7.1 h0 h → AW l D vwCl rm_M_solve 8 X 0 0 h 350 [(0, .ref (al 0 0)), (4, .int b3.1), (6, .int r7.2)] []) ?_ _ _ _ l8 ?_ h hG
                        · intro s7 y7 E K13 K14 h hG
                          refine ax_iload M d_M_solve_285 2 rfl ?_
                          refine ax_aload_n M d_M_solve_287 0 rfl ?_
                          refine sw_get M hG 0 0 (by decide) in_M rfl rfl 8 (by decide) wd_412 rfl d_M_solve_288 ?_
                          refine ax_icmp_ge (tgt := 350) M d_M_solve_291 (by decide) (fun c16 => ?_) (fun c16 => ?_)
                          · have E := ob_t E c16
                            obtain rfl := Option.some.inj E
                            refine ax_lv (lv' := [(0, .ref (al 0 0)), (4, .int b3.1), (6, .int s7.2)]) [0, 1, 2] rfl ?_
                            exact (K14 _ rfl) h hG
                          · have E := ob_f E c16
                            refine ax_aload_n M d_M_solve_294 0 rfl ?_
                            refine sw_get M hG 0 0 (by decide) in_M rfl rfl 21 (by decide) wd_425 rfl d_M_solve_295 ?_
                            refine ax_iload M d_M_solve_298 2 rfl ?_
                            refine ax_aload_n M d_M_solve_300 0 rfl ?_
                            refine sw_get M hG 0 0 (by decide) in_M rfl rfl 7 (by decide) wd_411 rfl d_M_solve_301 ?_
                            refine ax_iload M d_M_solve_304 2 rfl ?_
                            obtain ⟨k6, E⟩ := ob_c E
                            refine sw_iald M hG 8 0 (by decide) rfl 0 rfl k6 d_M_solve_306 ?_
                            obtain ⟨k7, E⟩ := ob_c E
                            refine sw_iast M hG 22 0 (by decide) rfl 0 rfl k7 rfl d_M_solve_307 (fun h hG => ?_)
                            refine ax_iconst (v := 0) M d_M_solve_308 (by decide) ?_
                            refine ax_istore (lv' := [(0, .ref (al 0 0)), (4, .int b3.1), (6, .int s7.2), (7, .int 0)]) M d_M_solve_309 (by decide) [1, 2, 3, 0] rfl ?_
                            refine ax_lv (lv' := [(0, .ref (al 0 0)), (4, .int b3.1), (6, .int s7.2), (7, .int 0)]) [0, 1, 2, 3] rfl ?_
                            obtain ⟨r8, l7, E⟩ := ob_b E
                            refine lp_walk (fun (s8 : ST × Int32) => ∀ h : AH, SW dmM (cfM cc) al s8.1 h0 h → AW l D vwCl rm_M_solve 8 X 0 0 h 311 [(0, .ref (al 0 0)), (4, .int b3.1), (6, .int s7.2), (7, .int s8.2)] []) (fun (r8 : ST × Int32) => ∀ h : AH, SW dmM (cfM cc) al r8.1 h0 h → AW l D vwCl rm_M_solve 8 X 0 0 h 344 [(0, .ref (al 0 0)), (4, .int b3.1), (6, .int s7.2), (7, .int r8.2)] []) ?_ _ _ _ l7 ?_ h hG
                            · intro s8 y8 E K15 K16 h hG
                              refine ax_iload M d_M_solve_311 3 rfl ?_
                              refine ax_aload_n M d_M_solve_313 0 rfl ?_
                              refine sw_get M hG 0 0 (by decide) in_M rfl rfl 7 (by decide) wd_411 rfl d_M_solve_314 ?_
                              refine ax_iload M d_M_solve_317 2 rfl ?_
                              refine sw_iald M hG 8 0 (by decide) rfl 0 rfl k6 d_M_solve_319 ?_
                              refine ax_icmp_ge (tgt := 344) M d_M_solve_320 (by decide) (fun c17 => ?_) (fun c17 => ?_)
                              · have E := ob_t E c17
                                obtain rfl := Option.some.inj E
                                refine ax_lv (lv' := [(0, .ref (al 0 0)), (4, .int b3.1), (6, .int s7.2), (7, .int s8.2)]) [0, 1, 2, 3] rfl ?_
                                exact (K16 _ rfl) h hG
                              · have E := ob_f E c17
                                refine ax_aload_n M d_M_solve_323 0 rfl ?_
                                refine sw_get M hG 0 0 (by decide) in_M rfl rfl 20 (by decide) wd_424 rfl d_M_solve_324 ?_
                                refine ax_iload M d_M_solve_327 2 rfl ?_
                                refine ax_sipush (v := 400) M d_M_solve_329 (by decide) ?_
                                refine ax_imul M d_M_solve_332 ?_
                                refine ax_iload M d_M_solve_333 3 rfl ?_
                                refine ax_iadd M d_M_solve_335 ?_
                                refine ax_iconst (v := 0) M d_M_solve_336 (by decide) ?_
                                obtain ⟨k8, E⟩ := ob_c E
                                refine sw_iast M hG 21 0 (by decide) rfl 0 rfl k8 rfl d_M_solve_337 (fun h hG => ?_)
                                refine ax_iinc (v := s8.2 + 1) (lv' := [(0, .ref (al 0 0)), (4, .int b3.1), (6, .int s7.2), (7, .int (s8.2 + 1))]) M d_M_solve_338 3 rfl rfl (by decide) [1, 2, 3, 0] rfl ?_
                                refine ax_goto (tgt := 311) M d_M_solve_341 (by decide) ?_
                                obtain rfl := Option.some.inj E
                                refine ax_lv (lv' := [(0, .ref (al 0 0)), (4, .int b3.1), (6, .int s7.2), (7, .int (s8.2 + 1))]) [0, 1, 2, 3] rfl ?_
                                exact K15 _ rfl h hG
                            · intro h hG
                              refine ax_iinc (v := s7.2 + 1) (lv' := [(0, .ref (al 0 0)), (4, .int b3.1), (6, .int (s7.2 + 1)), (7, .int r8.2)]) M d_M_solve_344 2 rfl rfl (by decide) [1, 2, 0, 3] rfl ?_
                              refine ax_goto (tgt := 285) M d_M_solve_347 (by decide) ?_
                              obtain rfl := Option.some.inj E
                              refine ax_lv (lv' := [(0, .ref (al 0 0)), (4, .int b3.1), (6, .int (s7.2 + 1))]) [0, 1, 2] rfl ?_
                              exact K13 _ rfl h hG
                        · intro h hG
                          refine ax_aload_n M d_M_solve_350 0 rfl ?_
                          refine ax_iconst (v := 1) M d_M_solve_351 (by decide) ?_
                          refine sw_put M hG 0 0 (by decide) in_M t_M tok_M nok_M rfl rfl 9 (by decide) wd_413 rfl rfl rfl (Nat.le_of_ble_eq_true rfl) rfl d_M_solve_352 (fun h hG => ?_)
                          refine ax_iload M d_M_solve_355 1 rfl ?_
                          obtain rfl := Option.some.inj E
                          exact ax_iret M hR (by decide) (by decide) d_M_solve_357 ⟨rfl, hG⟩
                      · have E := se_r E
                        refine qi_r ?_
                        obtain rfl := Option.some.inj E
                        exact fun h hG => ⟨rfl, hG⟩
              · have E := ob_f E c8
                refine ax_bipush (v := -3) M d_M_solve_104 (by decide) ?_
                obtain rfl := Option.some.inj E
                exact ax_iret M hR (by decide) (by decide) d_M_solve_106 ⟨rfl, hG⟩
            · have E := se_r E
              refine qi_r ?_
              obtain rfl := Option.some.inj E
              exact fun h hG => ⟨rfl, hG⟩
        · have E := ob_t E c5
          refine ax_bipush (v := -4) M d_M_solve_48 (by decide) ?_
          obtain rfl := Option.some.inj E
          exact ax_iret M hR (by decide) (by decide) d_M_solve_50 ⟨rfl, hG⟩
    · have E := ob_f E c2
      refine ax_iconst (v := (-1)) M d_M_solve_9 (by decide) ?_
      obtain rfl := Option.some.inj E
      exact ax_iret M hR (by decide) (by decide) d_M_solve_10 ⟨rfl, hG⟩
def M_takeFrom (σ : ST) (x1 : Int32) : Option (Int32 × ST) :=
  (lp (fun s1 : Int32 × Int32 =>
  if inb x1 13 then 
  (if (gi σ 7 0 (ix x1)) ≤ s1.2 then
  (some (.inr ((s1.1, s1.2)))) else
  (if inb ((x1 * 400) + s1.2) 4800 then 
  (some (.inl ((s1.1 + ((gi σ 21 0 (ix ((x1 * 400) + s1.2))) * (s1.2 + 1)), s1.2 + 1)))) else none)) else none) 1000 ((0, 0))).bind (fun r1 : Int32 × Int32 =>
  if inb x1 12 then 
  (if inb x1 13 then 
  ((lp (fun s2 : ST × Int32 =>
  if (gi s2.1 22 0 (ix x1)) ≤ s2.2 then
  (some (.inr ((s2.1, s2.2)))) else
  (if inb (((x1 * 400) + s2.2) + (gi s2.1 7 0 (ix x1))) 4800 then 
  (if inb ((x1 * 400) + s2.2) 4800 then 
  (some (.inl ((su s2.1 21 0 (ix ((x1 * 400) + s2.2)) (gi s2.1 21 0 (ix (((x1 * 400) + s2.2) + (gi s2.1 7 0 (ix x1))))), s2.2 + 1)))) else none) else none)) 1000 ((su σ 22 0 (ix x1) ((gi σ 22 0 (ix x1)) - (gi σ 7 0 (ix x1))), 0))).bind (fun r2 : ST × Int32 =>
  some ((r1.1, r2.1)))) else none) else none)
abbrev rm_M_takeFrom : Room := { frames := 0, cells := 0, slots := 0, locals := 0 }
set_option maxRecDepth 100000 in
set_option maxHeartbeats 4000000 in
theorem ac_M_takeFrom {l : Launch} {D : va_G} {cc : Nat → ClassId} {al : Nat → Nat → Nat} {σ : ST} {h0 h : AH} {x1 : Int32} {res : Int32 × ST}  (hG : SW dmM (cfM cc) al σ h0 h) (E : M_takeFrom σ x1 = some res) : AC l D vwCl (tysOf cc) NN y_M_takeFrom (Cond.code y_M_takeFrom b_M_takeFrom 4 (some .int) :: TT) rm_M_takeFrom [.ref (al 0 0), .int x1] h (fun rv h' => rv = some (.int res.1) ∧ SW dmM (cfM cc) al res.2 h0 h') := by
  refine AC.of (by decide) rfl (Nat.le_of_ble_eq_true rfl) (fun X M hR hI => ?_)
  unfold M_takeFrom at E
  refine ax_lv (lv' := [(0, .ref (al 0 0)), (1, .int x1)]) [0, 1] rfl ?_
  refine ax_iconst (v := 0) M d_M_takeFrom_0 (by decide) ?_
  refine ax_istore_n (lv' := [(0, .ref (al 0 0)), (1, .int x1), (2, .int 0)]) M d_M_takeFrom_1 (by decide) [1, 2, 0] rfl ?_
  refine ax_iconst (v := 0) M d_M_takeFrom_2 (by decide) ?_
  refine ax_istore_n (lv' := [(0, .ref (al 0 0)), (1, .int x1), (2, .int 0), (3, .int 0)]) M d_M_takeFrom_3 (by decide) [1, 2, 3, 0] rfl ?_
  refine ax_lv (lv' := [(0, .ref (al 0 0)), (1, .int x1), (2, .int 0), (3, .int 0)]) [0, 1, 2, 3] rfl ?_
  obtain ⟨r1, l1, E⟩ := ob_b E
  refine lp_walk (fun (s1 : Int32 × Int32) => ∀ h : AH, SW dmM (cfM cc) al σ h0 h → AW l D vwCl rm_M_takeFrom 4 X 0 0 h 4 [(0, .ref (al 0 0)), (1, .int x1), (2, .int s1.1), (3, .int s1.2)] []) (fun (r1 : Int32 × Int32) => ∀ h : AH, SW dmM (cfM cc) al σ h0 h → AW l D vwCl rm_M_takeFrom 4 X 0 0 h 39 [(0, .ref (al 0 0)), (1, .int x1), (2, .int r1.1), (3, .int r1.2)] []) ?_ _ _ _ l1 ?_ h hG
  · intro s1 y1 E K1 K2 h hG
    refine ax_iload_n M d_M_takeFrom_4 3 rfl ?_
    refine ax_aload_n M d_M_takeFrom_5 0 rfl ?_
    refine sw_get M hG 0 0 (by decide) in_M rfl rfl 6 (by decide) wd_410 rfl d_M_takeFrom_6 ?_
    refine ax_iload_n M d_M_takeFrom_9 1 rfl ?_
    obtain ⟨k1, E⟩ := ob_c E
    refine sw_iald M hG 7 0 (by decide) rfl 0 rfl k1 d_M_takeFrom_10 ?_
    refine ax_icmp_ge (tgt := 39) M d_M_takeFrom_11 (by decide) (fun c1 => ?_) (fun c1 => ?_)
    · have E := ob_t E c1
      obtain rfl := Option.some.inj E
      refine ax_lv (lv' := [(0, .ref (al 0 0)), (1, .int x1), (2, .int s1.1), (3, .int s1.2)]) [0, 1, 2, 3] rfl ?_
      exact (K2 _ rfl) h hG
    · have E := ob_f E c1
      refine ax_iload_n M d_M_takeFrom_14 2 rfl ?_
      refine ax_aload_n M d_M_takeFrom_15 0 rfl ?_
      refine sw_get M hG 0 0 (by decide) in_M rfl rfl 20 (by decide) wd_424 rfl d_M_takeFrom_16 ?_
      refine ax_iload_n M d_M_takeFrom_19 1 rfl ?_
      refine ax_sipush (v := 400) M d_M_takeFrom_20 (by decide) ?_
      refine ax_imul M d_M_takeFrom_23 ?_
      refine ax_iload_n M d_M_takeFrom_24 3 rfl ?_
      refine ax_iadd M d_M_takeFrom_25 ?_
      obtain ⟨k2, E⟩ := ob_c E
      refine sw_iald M hG 21 0 (by decide) rfl 0 rfl k2 d_M_takeFrom_26 ?_
      refine ax_iload_n M d_M_takeFrom_27 3 rfl ?_
      refine ax_iconst (v := 1) M d_M_takeFrom_28 (by decide) ?_
      refine ax_iadd M d_M_takeFrom_29 ?_
      refine ax_imul M d_M_takeFrom_30 ?_
      refine ax_iadd M d_M_takeFrom_31 ?_
      refine ax_istore_n (lv' := [(0, .ref (al 0 0)), (1, .int x1), (2, .int (s1.1 + ((gi σ 21 0 (ix ((x1 * 400) + s1.2))) * (s1.2 + 1)))), (3, .int s1.2)]) M d_M_takeFrom_32 (by decide) [1, 2, 0, 3] rfl ?_
      refine ax_iinc (v := s1.2 + 1) (lv' := [(0, .ref (al 0 0)), (1, .int x1), (2, .int (s1.1 + ((gi σ 21 0 (ix ((x1 * 400) + s1.2))) * (s1.2 + 1)))), (3, .int (s1.2 + 1))]) M d_M_takeFrom_33 3 rfl rfl (by decide) [1, 2, 3, 0] rfl ?_
      refine ax_goto (tgt := 4) M d_M_takeFrom_36 (by decide) ?_
      obtain rfl := Option.some.inj E
      refine ax_lv (lv' := [(0, .ref (al 0 0)), (1, .int x1), (2, .int (s1.1 + ((gi σ 21 0 (ix ((x1 * 400) + s1.2))) * (s1.2 + 1)))), (3, .int (s1.2 + 1))]) [0, 1, 2, 3] rfl ?_
      exact K1 _ rfl h hG
  · intro h hG
    refine ax_aload_n M d_M_takeFrom_39 0 rfl ?_
    refine sw_get M hG 0 0 (by decide) in_M rfl rfl 21 (by decide) wd_425 rfl d_M_takeFrom_40 ?_
    refine ax_iload_n M d_M_takeFrom_43 1 rfl ?_
    refine ax_dup2 M d_M_takeFrom_44 rfl rfl ?_
    obtain ⟨k3, E⟩ := ob_c E
    refine sw_iald M hG 22 0 (by decide) rfl 0 rfl k3 d_M_takeFrom_45 ?_
    refine ax_aload_n M d_M_takeFrom_46 0 rfl ?_
    refine sw_get M hG 0 0 (by decide) in_M rfl rfl 6 (by decide) wd_410 rfl d_M_takeFrom_47 ?_
    refine ax_iload_n M d_M_takeFrom_50 1 rfl ?_
    obtain ⟨k4, E⟩ := ob_c E
    refine sw_iald M hG 7 0 (by decide) rfl 0 rfl k4 d_M_takeFrom_51 ?_
    refine ax_isub M d_M_takeFrom_52 ?_
    refine sw_iast M hG 22 0 (by decide) rfl 0 rfl k3 rfl d_M_takeFrom_53 (fun h hG => ?_)
    refine ax_iconst (v := 0) M d_M_takeFrom_54 (by decide) ?_
    refine ax_istore_n (lv' := [(0, .ref (al 0 0)), (1, .int x1), (2, .int r1.1), (3, .int 0)]) M d_M_takeFrom_55 (by decide) [1, 2, 3, 0] rfl ?_
    refine ax_lv (lv' := [(0, .ref (al 0 0)), (1, .int x1), (2, .int r1.1), (3, .int 0)]) [0, 1, 2, 3] rfl ?_
    obtain ⟨r2, l2, E⟩ := ob_b E
    refine lp_walk (fun (s2 : ST × Int32) => ∀ h : AH, SW dmM (cfM cc) al s2.1 h0 h → AW l D vwCl rm_M_takeFrom 4 X 0 0 h 56 [(0, .ref (al 0 0)), (1, .int x1), (2, .int r1.1), (3, .int s2.2)] []) (fun (r2 : ST × Int32) => ∀ h : AH, SW dmM (cfM cc) al r2.1 h0 h → AW l D vwCl rm_M_takeFrom 4 X 0 0 h 103 [(0, .ref (al 0 0)), (1, .int x1), (2, .int r1.1), (3, .int r2.2)] []) ?_ _ _ _ l2 ?_ h hG
    · intro s2 y2 E K3 K4 h hG
      refine ax_iload_n M d_M_takeFrom_56 3 rfl ?_
      refine ax_aload_n M d_M_takeFrom_57 0 rfl ?_
      refine sw_get M hG 0 0 (by decide) in_M rfl rfl 21 (by decide) wd_425 rfl d_M_takeFrom_58 ?_
      refine ax_iload_n M d_M_takeFrom_61 1 rfl ?_
      refine sw_iald M hG 22 0 (by decide) rfl 0 rfl k3 d_M_takeFrom_62 ?_
      refine ax_icmp_ge (tgt := 103) M d_M_takeFrom_63 (by decide) (fun c2 => ?_) (fun c2 => ?_)
      · have E := ob_t E c2
        obtain rfl := Option.some.inj E
        refine ax_lv (lv' := [(0, .ref (al 0 0)), (1, .int x1), (2, .int r1.1), (3, .int s2.2)]) [0, 1, 2, 3] rfl ?_
        exact (K4 _ rfl) h hG
      · have E := ob_f E c2
        refine ax_aload_n M d_M_takeFrom_66 0 rfl ?_
        refine sw_get M hG 0 0 (by decide) in_M rfl rfl 20 (by decide) wd_424 rfl d_M_takeFrom_67 ?_
        refine ax_iload_n M d_M_takeFrom_70 1 rfl ?_
        refine ax_sipush (v := 400) M d_M_takeFrom_71 (by decide) ?_
        refine ax_imul M d_M_takeFrom_74 ?_
        refine ax_iload_n M d_M_takeFrom_75 3 rfl ?_
        refine ax_iadd M d_M_takeFrom_76 ?_
        refine ax_aload_n M d_M_takeFrom_77 0 rfl ?_
        refine sw_get M hG 0 0 (by decide) in_M rfl rfl 20 (by decide) wd_424 rfl d_M_takeFrom_78 ?_
        refine ax_iload_n M d_M_takeFrom_81 1 rfl ?_
        refine ax_sipush (v := 400) M d_M_takeFrom_82 (by decide) ?_
        refine ax_imul M d_M_takeFrom_85 ?_
        refine ax_iload_n M d_M_takeFrom_86 3 rfl ?_
        refine ax_iadd M d_M_takeFrom_87 ?_
        refine ax_aload_n M d_M_takeFrom_88 0 rfl ?_
        refine sw_get M hG 0 0 (by decide) in_M rfl rfl 6 (by decide) wd_410 rfl d_M_takeFrom_89 ?_
        refine ax_iload_n M d_M_takeFrom_92 1 rfl ?_
        refine sw_iald M hG 7 0 (by decide) rfl 0 rfl k4 d_M_takeFrom_93 ?_
        refine ax_iadd M d_M_takeFrom_94 ?_
        obtain ⟨k5, E⟩ := ob_c E
        refine sw_iald M hG 21 0 (by decide) rfl 0 rfl k5 d_M_takeFrom_95 ?_
        obtain ⟨k6, E⟩ := ob_c E
        refine sw_iast M hG 21 0 (by decide) rfl 0 rfl k6 rfl d_M_takeFrom_96 (fun h hG => ?_)
        refine ax_iinc (v := s2.2 + 1) (lv' := [(0, .ref (al 0 0)), (1, .int x1), (2, .int r1.1), (3, .int (s2.2 + 1))]) M d_M_takeFrom_97 3 rfl rfl (by decide) [1, 2, 3, 0] rfl ?_
        refine ax_goto (tgt := 56) M d_M_takeFrom_100 (by decide) ?_
        obtain rfl := Option.some.inj E
        refine ax_lv (lv' := [(0, .ref (al 0 0)), (1, .int x1), (2, .int r1.1), (3, .int (s2.2 + 1))]) [0, 1, 2, 3] rfl ?_
        exact K3 _ rfl h hG
    · intro h hG
      refine ax_iload_n M d_M_takeFrom_103 2 rfl ?_
      obtain rfl := Option.some.inj E
      exact ax_iret M hR (by decide) (by decide) d_M_takeFrom_104 ⟨rfl, hG⟩
def M_fire (σ : ST) (x1 : Int32) : Option (ST) :=
  (lp (fun s1 : ST × Int32 × Int32 =>
  if (gi s1.1 0 0 8) ≤ s1.2.2 then
  (some (.inr ((s1.1, s1.2.1, s1.2.2)))) else
  (if inb s1.2.2 13 then 
  (if (gi s1.1 5 0 (ix s1.2.2)) = x1 then
  ((M_takeFrom s1.1 s1.2.2).bind (fun b1 => 
  (some (.inl ((b1.2, s1.2.1 + b1.1, s1.2.2 + 1)))))) else
  (some (.inl ((s1.1, s1.2.1, s1.2.2 + 1))))) else none)) 1000 ((σ, 0, 0))).bind (fun r1 : ST × Int32 × Int32 =>
  if inb x1 8 then 
  (if (gi r1.1 2 0 (ix x1)) = 0 then
  (if (gi r1.1 2 0 (ix x1)) = 2 then
  ((lp (fun s16 : ST × Int32 =>
  if (gi s16.1 0 0 8) ≤ s16.2 then
  (some (.inr ((s16.1, s16.2)))) else
  (if inb s16.2 13 then 
  (if (gi s16.1 4 0 (ix s16.2)) = x1 then
  ((lp (fun s17 : ST × Int32 =>
  if (gi s17.1 6 0 (ix s16.2)) ≤ s17.2 then
  (some (.inr ((s17.1, s17.2)))) else
  (if inb s16.2 12 then 
  (if inb (((s16.2 * 400) + (gi s17.1 22 0 (ix s16.2))) + s17.2) 4800 then 
  (some (.inl ((su s17.1 21 0 (ix (((s16.2 * 400) + (gi s17.1 22 0 (ix s16.2))) + s17.2)) (((gi r1.1 3 0 (ix x1)) + r1.2.1) + s17.2), s17.2 + 1)))) else none) else none)) 1000 ((s16.1, 0))).bind (fun r17 : ST × Int32 =>
  if inb s16.2 12 then 
  (some (.inl ((su r17.1 22 0 (ix s16.2) ((gi r17.1 22 0 (ix s16.2)) + (gi r17.1 6 0 (ix s16.2))), s16.2 + 1)))) else none)) else
  (some (.inl ((s16.1, s16.2 + 1))))) else none)) 1000 ((su (su r1.1 24 0 (ix x1) ((gi r1.1 24 0 (ix x1)) + r1.2.1)) 23 0 (ix x1) ((gi r1.1 3 0 (ix x1)) + r1.2.1), 0))).bind (fun r16 : ST × Int32 =>
  some (su r16.1 0 0 19 ((gi r16.1 0 0 19) + 1)))) else
  ((lp (fun s14 : ST × Int32 =>
  if (gi s14.1 0 0 8) ≤ s14.2 then
  (some (.inr ((s14.1, s14.2)))) else
  (if inb s14.2 13 then 
  (if (gi s14.1 4 0 (ix s14.2)) = x1 then
  ((lp (fun s15 : ST × Int32 =>
  if (gi s15.1 6 0 (ix s14.2)) ≤ s15.2 then
  (some (.inr ((s15.1, s15.2)))) else
  (if inb s14.2 12 then 
  (if inb (((s14.2 * 400) + (gi s15.1 22 0 (ix s14.2))) + s15.2) 4800 then 
  (some (.inl ((su s15.1 21 0 (ix (((s14.2 * 400) + (gi s15.1 22 0 (ix s14.2))) + s15.2)) (((gi r1.1 3 0 (ix x1)) + r1.2.1) + s15.2), s15.2 + 1)))) else none) else none)) 1000 ((s14.1, 0))).bind (fun r15 : ST × Int32 =>
  if inb s14.2 12 then 
  (some (.inl ((su r15.1 22 0 (ix s14.2) ((gi r15.1 22 0 (ix s14.2)) + (gi r15.1 6 0 (ix s14.2))), s14.2 + 1)))) else none)) else
  (some (.inl ((s14.1, s14.2 + 1))))) else none)) 1000 ((su (su r1.1 24 0 (ix x1) r1.2.1) 23 0 (ix x1) ((gi r1.1 3 0 (ix x1)) + r1.2.1), 0))).bind (fun r14 : ST × Int32 =>
  some (su r14.1 0 0 19 ((gi r14.1 0 0 19) + 1))))) else
  (if (gi r1.1 2 0 (ix x1)) = 1 then
  (if (gi r1.1 2 0 (ix x1)) = 2 then
  ((lp (fun s12 : ST × Int32 =>
  if (gi s12.1 0 0 8) ≤ s12.2 then
  (some (.inr ((s12.1, s12.2)))) else
  (if inb s12.2 13 then 
  (if (gi s12.1 4 0 (ix s12.2)) = x1 then
  ((lp (fun s13 : ST × Int32 =>
  if (gi s13.1 6 0 (ix s12.2)) ≤ s13.2 then
  (some (.inr ((s13.1, s13.2)))) else
  (if inb s12.2 12 then 
  (if inb (((s12.2 * 400) + (gi s13.1 22 0 (ix s12.2))) + s13.2) 4800 then 
  (some (.inl ((su s13.1 21 0 (ix (((s12.2 * 400) + (gi s13.1 22 0 (ix s12.2))) + s13.2)) (((gi r1.1 3 0 (ix x1)) * r1.2.1) + s13.2), s13.2 + 1)))) else none) else none)) 1000 ((s12.1, 0))).bind (fun r13 : ST × Int32 =>
  if inb s12.2 12 then 
  (some (.inl ((su r13.1 22 0 (ix s12.2) ((gi r13.1 22 0 (ix s12.2)) + (gi r13.1 6 0 (ix s12.2))), s12.2 + 1)))) else none)) else
  (some (.inl ((s12.1, s12.2 + 1))))) else none)) 1000 ((su (su r1.1 24 0 (ix x1) ((gi r1.1 24 0 (ix x1)) + r1.2.1)) 23 0 (ix x1) ((gi r1.1 3 0 (ix x1)) * r1.2.1), 0))).bind (fun r12 : ST × Int32 =>
  some (su r12.1 0 0 19 ((gi r12.1 0 0 19) + 1)))) else
  ((lp (fun s10 : ST × Int32 =>
  if (gi s10.1 0 0 8) ≤ s10.2 then
  (some (.inr ((s10.1, s10.2)))) else
  (if inb s10.2 13 then 
  (if (gi s10.1 4 0 (ix s10.2)) = x1 then
  ((lp (fun s11 : ST × Int32 =>
  if (gi s11.1 6 0 (ix s10.2)) ≤ s11.2 then
  (some (.inr ((s11.1, s11.2)))) else
  (if inb s10.2 12 then 
  (if inb (((s10.2 * 400) + (gi s11.1 22 0 (ix s10.2))) + s11.2) 4800 then 
  (some (.inl ((su s11.1 21 0 (ix (((s10.2 * 400) + (gi s11.1 22 0 (ix s10.2))) + s11.2)) (((gi r1.1 3 0 (ix x1)) * r1.2.1) + s11.2), s11.2 + 1)))) else none) else none)) 1000 ((s10.1, 0))).bind (fun r11 : ST × Int32 =>
  if inb s10.2 12 then 
  (some (.inl ((su r11.1 22 0 (ix s10.2) ((gi r11.1 22 0 (ix s10.2)) + (gi r11.1 6 0 (ix s10.2))), s10.2 + 1)))) else none)) else
  (some (.inl ((s10.1, s10.2 + 1))))) else none)) 1000 ((su (su r1.1 24 0 (ix x1) r1.2.1) 23 0 (ix x1) ((gi r1.1 3 0 (ix x1)) * r1.2.1), 0))).bind (fun r10 : ST × Int32 =>
  some (su r10.1 0 0 19 ((gi r10.1 0 0 19) + 1))))) else
  (if (gi r1.1 2 0 (ix x1)) = 2 then
  (if (gi r1.1 2 0 (ix x1)) = 2 then
  ((lp (fun s8 : ST × Int32 =>
  if (gi s8.1 0 0 8) ≤ s8.2 then
  (some (.inr ((s8.1, s8.2)))) else
  (if inb s8.2 13 then 
  (if (gi s8.1 4 0 (ix s8.2)) = x1 then
  ((lp (fun s9 : ST × Int32 =>
  if (gi s9.1 6 0 (ix s8.2)) ≤ s9.2 then
  (some (.inr ((s9.1, s9.2)))) else
  (if inb s8.2 12 then 
  (if inb (((s8.2 * 400) + (gi s9.1 22 0 (ix s8.2))) + s9.2) 4800 then 
  (some (.inl ((su s9.1 21 0 (ix (((s8.2 * 400) + (gi s9.1 22 0 (ix s8.2))) + s9.2)) (((gi r1.1 24 0 (ix x1)) + r1.2.1) + s9.2), s9.2 + 1)))) else none) else none)) 1000 ((s8.1, 0))).bind (fun r9 : ST × Int32 =>
  if inb s8.2 12 then 
  (some (.inl ((su r9.1 22 0 (ix s8.2) ((gi r9.1 22 0 (ix s8.2)) + (gi r9.1 6 0 (ix s8.2))), s8.2 + 1)))) else none)) else
  (some (.inl ((s8.1, s8.2 + 1))))) else none)) 1000 ((su (su r1.1 24 0 (ix x1) ((gi r1.1 24 0 (ix x1)) + r1.2.1)) 23 0 (ix x1) ((gi r1.1 24 0 (ix x1)) + r1.2.1), 0))).bind (fun r8 : ST × Int32 =>
  some (su r8.1 0 0 19 ((gi r8.1 0 0 19) + 1)))) else
  ((lp (fun s6 : ST × Int32 =>
  if (gi s6.1 0 0 8) ≤ s6.2 then
  (some (.inr ((s6.1, s6.2)))) else
  (if inb s6.2 13 then 
  (if (gi s6.1 4 0 (ix s6.2)) = x1 then
  ((lp (fun s7 : ST × Int32 =>
  if (gi s7.1 6 0 (ix s6.2)) ≤ s7.2 then
  (some (.inr ((s7.1, s7.2)))) else
  (if inb s6.2 12 then 
  (if inb (((s6.2 * 400) + (gi s7.1 22 0 (ix s6.2))) + s7.2) 4800 then 
  (some (.inl ((su s7.1 21 0 (ix (((s6.2 * 400) + (gi s7.1 22 0 (ix s6.2))) + s7.2)) (((gi r1.1 24 0 (ix x1)) + r1.2.1) + s7.2), s7.2 + 1)))) else none) else none)) 1000 ((s6.1, 0))).bind (fun r7 : ST × Int32 =>
  if inb s6.2 12 then 
  (some (.inl ((su r7.1 22 0 (ix s6.2) ((gi r7.1 22 0 (ix s6.2)) + (gi r7.1 6 0 (ix s6.2))), s6.2 + 1)))) else none)) else
  (some (.inl ((s6.1, s6.2 + 1))))) else none)) 1000 ((su (su r1.1 24 0 (ix x1) r1.2.1) 23 0 (ix x1) ((gi r1.1 24 0 (ix x1)) + r1.2.1), 0))).bind (fun r6 : ST × Int32 =>
  some (su r6.1 0 0 19 ((gi r6.1 0 0 19) + 1))))) else
  (if (gi r1.1 2 0 (ix x1)) = 2 then
  ((lp (fun s4 : ST × Int32 =>
  if (gi s4.1 0 0 8) ≤ s4.2 then
  (some (.inr ((s4.1, s4.2)))) else
  (if inb s4.2 13 then 
  (if (gi s4.1 4 0 (ix s4.2)) = x1 then
  ((lp (fun s5 : ST × Int32 =>
  if (gi s5.1 6 0 (ix s4.2)) ≤ s5.2 then
  (some (.inr ((s5.1, s5.2)))) else
  (if inb s4.2 12 then 
  (if inb (((s4.2 * 400) + (gi s5.1 22 0 (ix s4.2))) + s5.2) 4800 then 
  (some (.inl ((su s5.1 21 0 (ix (((s4.2 * 400) + (gi s5.1 22 0 (ix s4.2))) + s5.2)) ((r1.2.1 - (gi r1.1 24 0 (ix x1))) + s5.2), s5.2 + 1)))) else none) else none)) 1000 ((s4.1, 0))).bind (fun r5 : ST × Int32 =>
  if inb s4.2 12 then 
  (some (.inl ((su r5.1 22 0 (ix s4.2) ((gi r5.1 22 0 (ix s4.2)) + (gi r5.1 6 0 (ix s4.2))), s4.2 + 1)))) else none)) else
  (some (.inl ((s4.1, s4.2 + 1))))) else none)) 1000 ((su (su r1.1 24 0 (ix x1) ((gi r1.1 24 0 (ix x1)) + r1.2.1)) 23 0 (ix x1) (r1.2.1 - (gi r1.1 24 0 (ix x1))), 0))).bind (fun r4 : ST × Int32 =>
  some (su r4.1 0 0 19 ((gi r4.1 0 0 19) + 1)))) else
  ((lp (fun s2 : ST × Int32 =>
  if (gi s2.1 0 0 8) ≤ s2.2 then
  (some (.inr ((s2.1, s2.2)))) else
  (if inb s2.2 13 then 
  (if (gi s2.1 4 0 (ix s2.2)) = x1 then
  ((lp (fun s3 : ST × Int32 =>
  if (gi s3.1 6 0 (ix s2.2)) ≤ s3.2 then
  (some (.inr ((s3.1, s3.2)))) else
  (if inb s2.2 12 then 
  (if inb (((s2.2 * 400) + (gi s3.1 22 0 (ix s2.2))) + s3.2) 4800 then 
  (some (.inl ((su s3.1 21 0 (ix (((s2.2 * 400) + (gi s3.1 22 0 (ix s2.2))) + s3.2)) ((r1.2.1 - (gi r1.1 24 0 (ix x1))) + s3.2), s3.2 + 1)))) else none) else none)) 1000 ((s2.1, 0))).bind (fun r3 : ST × Int32 =>
  if inb s2.2 12 then 
  (some (.inl ((su r3.1 22 0 (ix s2.2) ((gi r3.1 22 0 (ix s2.2)) + (gi r3.1 6 0 (ix s2.2))), s2.2 + 1)))) else none)) else
  (some (.inl ((s2.1, s2.2 + 1))))) else none)) 1000 ((su (su r1.1 24 0 (ix x1) r1.2.1) 23 0 (ix x1) (r1.2.1 - (gi r1.1 24 0 (ix x1))), 0))).bind (fun r2 : ST × Int32 =>
  some (su r2.1 0 0 19 ((gi r2.1 0 0 19) + 1)))))))) else none)
abbrev rm_M_fire : Room := { frames := 1, cells := 0, slots := 0, locals := 23 }
set_option maxRecDepth 100000 in
set_option maxHeartbeats 4000000 in
theorem ac_M_fire {l : Launch} {D : va_G} {cc : Nat → ClassId} {al : Nat → Nat → Nat} {σ : ST} {h0 h : AH} {x1 : Int32} {res : ST}  (hG : SW dmM (cfM cc) al σ h0 h) (E : M_fire σ x1 = some res) : AC l D vwCl (tysOf cc) NN y_M_fire (Cond.code y_M_fire b_M_fire 6 none :: TT) rm_M_fire [.ref (al 0 0), .int x1] h (fun rv h' => rv = none ∧ SW dmM (cfM cc) al res h0 h') := by
  refine AC.of (by decide) rfl (Nat.le_of_ble_eq_true rfl) (fun X M hR hI => ?_)
  unfold M_fire at E
  refine ax_lv (lv' := [(0, .ref (al 0 0)), (1, .int x1)]) [0, 1] rfl ?_
  refine ax_iconst (v := 0) M d_M_fire_0 (by decide) ?_
  refine ax_istore_n (lv' := [(0, .ref (al 0 0)), (1, .int x1), (2, .int 0)]) M d_M_fire_1 (by decide) [1, 2, 0] rfl ?_
  refine ax_iconst (v := 0) M d_M_fire_2 (by decide) ?_
  refine ax_istore_n (lv' := [(0, .ref (al 0 0)), (1, .int x1), (2, .int 0), (3, .int 0)]) M d_M_fire_3 (by decide) [1, 2, 3, 0] rfl ?_
  refine ax_lv (lv' := [(0, .ref (al 0 0)), (1, .int x1), (2, .int 0), (3, .int 0)]) [0, 1, 2, 3] rfl ?_
  obtain ⟨r1, l1, E⟩ := ob_b E
  refine lp_walk (fun (s1 : ST × Int32 × Int32) => ∀ h : AH, SW dmM (cfM cc) al s1.1 h0 h → AW l D vwCl rm_M_fire 6 X 0 0 h 4 [(0, .ref (al 0 0)), (1, .int x1), (2, .int s1.2.1), (3, .int s1.2.2)] []) (fun (r1 : ST × Int32 × Int32) => ∀ h : AH, SW dmM (cfM cc) al r1.1 h0 h → AW l D vwCl rm_M_fire 6 X 0 0 h 36 [(0, .ref (al 0 0)), (1, .int x1), (2, .int r1.2.1), (3, .int r1.2.2)] []) ?_ _ _ _ l1 ?_ h hG
  · intro s1 y1 E K1 K2 h hG
    refine ax_iload_n M d_M_fire_4 3 rfl ?_
    refine ax_aload_n M d_M_fire_5 0 rfl ?_
    refine sw_get M hG 0 0 (by decide) in_M rfl rfl 8 (by decide) wd_412 rfl d_M_fire_6 ?_
    refine ax_icmp_ge (tgt := 36) M d_M_fire_9 (by decide) (fun c1 => ?_) (fun c1 => ?_)
    · have E := ob_t E c1
      obtain rfl := Option.some.inj E
      refine ax_lv (lv' := [(0, .ref (al 0 0)), (1, .int x1), (2, .int s1.2.1), (3, .int s1.2.2)]) [0, 1, 2, 3] rfl ?_
      exact (K2 _ rfl) h hG
    · have E := ob_f E c1
      refine ax_aload_n M d_M_fire_12 0 rfl ?_
      refine sw_get M hG 0 0 (by decide) in_M rfl rfl 4 (by decide) wd_408 rfl d_M_fire_13 ?_
      refine ax_iload_n M d_M_fire_16 3 rfl ?_
      obtain ⟨k1, E⟩ := ob_c E
      refine sw_iald M hG 5 0 (by decide) rfl 0 rfl k1 d_M_fire_17 ?_
      refine ax_iload_n M d_M_fire_18 1 rfl ?_
      refine ax_icmp_ne (tgt := 30) M d_M_fire_19 (by decide) (fun c2 => ?_) (fun c2 => ?_)
      · have E := ob_f E c2
        refine ax_iinc (v := s1.2.2 + 1) (lv' := [(0, .ref (al 0 0)), (1, .int x1), (2, .int s1.2.1), (3, .int (s1.2.2 + 1))]) M d_M_fire_30 3 rfl rfl (by decide) [1, 2, 3, 0] rfl ?_
        refine ax_goto (tgt := 4) M d_M_fire_33 (by decide) ?_
        obtain rfl := Option.some.inj E
        refine ax_lv (lv' := [(0, .ref (al 0 0)), (1, .int x1), (2, .int s1.2.1), (3, .int (s1.2.2 + 1))]) [0, 1, 2, 3] rfl ?_
        exact K1 _ rfl h hG
      · have E := ob_t E c2
        refine ax_iload_n M d_M_fire_22 2 rfl ?_
        refine ax_aload_n M d_M_fire_23 0 rfl ?_
        refine ax_iload_n M d_M_fire_24 3 rfl ?_
        obtain ⟨b1, e1, E⟩ := ob_b E
        refine ax_callV (n := 1) (C := R_M) (q := (R_M, F_M, 25)) M TT_good rfl rfl (SW.at hG 0 0 (by decide)) (ac_M_takeFrom hG e1) lm_M_129 (by decide) (by decide) rfl rfl (Nat.le_of_ble_eq_true rfl) d_M_fire_25 (by decide) (c1 := 0) (s1 := 0) (by decide) (ax_ret_i (fun h hG => ?_))
        refine ax_iadd M d_M_fire_28 ?_
        refine ax_istore_n (lv' := [(0, .ref (al 0 0)), (1, .int x1), (2, .int (s1.2.1 + b1.1)), (3, .int s1.2.2)]) M d_M_fire_29 (by decide) [1, 2, 0, 3] rfl ?_
        refine ax_iinc (v := s1.2.2 + 1) (lv' := [(0, .ref (al 0 0)), (1, .int x1), (2, .int (s1.2.1 + b1.1)), (3, .int (s1.2.2 + 1))]) M d_M_fire_30 3 rfl rfl (by decide) [1, 2, 3, 0] rfl ?_
        refine ax_goto (tgt := 4) M d_M_fire_33 (by decide) ?_
        obtain rfl := Option.some.inj E
        refine ax_lv (lv' := [(0, .ref (al 0 0)), (1, .int x1), (2, .int (s1.2.1 + b1.1)), (3, .int (s1.2.2 + 1))]) [0, 1, 2, 3] rfl ?_
        exact K1 _ rfl h hG
  · intro h hG
    refine ax_aload_n M d_M_fire_36 0 rfl ?_
    refine sw_get M hG 0 0 (by decide) in_M rfl rfl 1 (by decide) wd_405 rfl d_M_fire_37 ?_
    refine ax_iload_n M d_M_fire_40 1 rfl ?_
    obtain ⟨k2, E⟩ := ob_c E
    refine sw_iald M hG 2 0 (by decide) rfl 0 rfl k2 d_M_fire_41 ?_
    refine ax_if_ne (tgt := 56) M d_M_fire_42 (by decide) (fun c3 => ?_) (fun c3 => ?_)
    · have E := ob_f E c3
      refine ax_aload_n M d_M_fire_56 0 rfl ?_
      refine sw_get M hG 0 0 (by decide) in_M rfl rfl 1 (by decide) wd_405 rfl d_M_fire_57 ?_
      refine ax_iload_n M d_M_fire_60 1 rfl ?_
      refine sw_iald M hG 2 0 (by decide) rfl 0 rfl k2 d_M_fire_61 ?_
      refine ax_iconst (v := 1) M d_M_fire_62 (by decide) ?_
      refine ax_icmp_ne (tgt := 77) M d_M_fire_63 (by decide) (fun c4 => ?_) (fun c4 => ?_)
      · have E := ob_f E c4
        refine ax_aload_n M d_M_fire_77 0 rfl ?_
        refine sw_get M hG 0 0 (by decide) in_M rfl rfl 1 (by decide) wd_405 rfl d_M_fire_78 ?_
        refine ax_iload_n M d_M_fire_81 1 rfl ?_
        refine sw_iald M hG 2 0 (by decide) rfl 0 rfl k2 d_M_fire_82 ?_
        refine ax_iconst (v := 2) M d_M_fire_83 (by decide) ?_
        refine ax_icmp_ne (tgt := 98) M d_M_fire_84 (by decide) (fun c5 => ?_) (fun c5 => ?_)
        · have E := ob_f E c5
          refine ax_iload_n M d_M_fire_98 2 rfl ?_
          refine ax_aload_n M d_M_fire_99 0 rfl ?_
          refine sw_get M hG 0 0 (by decide) in_M rfl rfl 23 (by decide) wd_427 rfl d_M_fire_100 ?_
          refine ax_iload_n M d_M_fire_103 1 rfl ?_
          refine sw_iald M hG 24 0 (by decide) rfl 0 rfl k2 d_M_fire_104 ?_
          refine ax_isub M d_M_fire_105 ?_
          refine ax_istore_n (lv' := [(0, .ref (al 0 0)), (1, .int x1), (2, .int r1.2.1), (3, .int (r1.2.1 - (gi r1.1 24 0 (ix x1))))]) M d_M_fire_106 (by decide) [1, 2, 3, 0] rfl ?_
          refine ax_aload_n M d_M_fire_107 0 rfl ?_
          refine sw_get M hG 0 0 (by decide) in_M rfl rfl 23 (by decide) wd_427 rfl d_M_fire_108 ?_
          refine ax_iload_n M d_M_fire_111 1 rfl ?_
          refine ax_aload_n M d_M_fire_112 0 rfl ?_
          refine sw_get M hG 0 0 (by decide) in_M rfl rfl 1 (by decide) wd_405 rfl d_M_fire_113 ?_
          refine ax_iload_n M d_M_fire_116 1 rfl ?_
          refine sw_iald M hG 2 0 (by decide) rfl 0 rfl k2 d_M_fire_117 ?_
          refine ax_iconst (v := 2) M d_M_fire_118 (by decide) ?_
          refine ax_icmp_ne (tgt := 133) M d_M_fire_119 (by decide) (fun c6 => ?_) (fun c6 => ?_)
          · have E := ob_f E c6
            refine ax_iload_n M d_M_fire_133 2 rfl ?_
            refine sw_iast M hG 24 0 (by decide) rfl 0 rfl k2 rfl d_M_fire_134 (fun h hG => ?_)
            refine ax_aload_n M d_M_fire_135 0 rfl ?_
            refine sw_get M hG 0 0 (by decide) in_M rfl rfl 22 (by decide) wd_426 rfl d_M_fire_136 ?_
            refine ax_iload_n M d_M_fire_139 1 rfl ?_
            refine ax_iload_n M d_M_fire_140 3 rfl ?_
            refine sw_iast M hG 23 0 (by decide) rfl 0 rfl k2 rfl d_M_fire_141 (fun h hG => ?_)
            refine ax_iconst (v := 0) M d_M_fire_142 (by decide) ?_
            refine ax_istore (lv' := [(0, .ref (al 0 0)), (1, .int x1), (3, .int (r1.2.1 - (gi r1.1 24 0 (ix x1)))), (4, .int 0)]) M d_M_fire_143 (by decide) [1, 2, 4, 0] rfl ?_
            refine ax_lv (lv' := [(0, .ref (al 0 0)), (1, .int x1), (3, .int (r1.2.1 - (gi r1.1 24 0 (ix x1)))), (4, .int 0)]) [0, 1, 2, 3] rfl ?_
            obtain ⟨r2, l3, E⟩ := ob_b E
            refine lp_walk (fun (s2 : ST × Int32) => ∀ h : AH, SW dmM (cfM cc) al s2.1 h0 h → AW l D vwCl rm_M_fire 6 X 0 0 h 145 [(0, .ref (al 0 0)), (1, .int x1), (3, .int (r1.2.1 - (gi r1.1 24 0 (ix x1)))), (4, .int s2.2)] []) (fun (r2 : ST × Int32) => ∀ h : AH, SW dmM (cfM cc) al r2.1 h0 h → AW l D vwCl rm_M_fire 6 X 0 0 h 238 [(0, .ref (al 0 0)), (1, .int x1), (3, .int (r1.2.1 - (gi r1.1 24 0 (ix x1)))), (4, .int r2.2)] []) ?_ _ _ _ l3 ?_ h hG
            · intro s2 y2 E K3 K4 h hG
              refine ax_iload M d_M_fire_145 3 rfl ?_
              refine ax_aload_n M d_M_fire_147 0 rfl ?_
              refine sw_get M hG 0 0 (by decide) in_M rfl rfl 8 (by decide) wd_412 rfl d_M_fire_148 ?_
              refine ax_icmp_ge (tgt := 238) M d_M_fire_151 (by decide) (fun c7 => ?_) (fun c7 => ?_)
              · have E := ob_t E c7
                obtain rfl := Option.some.inj E
                refine ax_lv (lv' := [(0, .ref (al 0 0)), (1, .int x1), (3, .int (r1.2.1 - (gi r1.1 24 0 (ix x1)))), (4, .int s2.2)]) [0, 1, 2, 3] rfl ?_
                exact (K4 _ rfl) h hG
              · have E := ob_f E c7
                refine ax_aload_n M d_M_fire_154 0 rfl ?_
                refine sw_get M hG 0 0 (by decide) in_M rfl rfl 3 (by decide) wd_407 rfl d_M_fire_155 ?_
                refine ax_iload M d_M_fire_158 3 rfl ?_
                obtain ⟨k3, E⟩ := ob_c E
                refine sw_iald M hG 4 0 (by decide) rfl 0 rfl k3 d_M_fire_160 ?_
                refine ax_iload_n M d_M_fire_161 1 rfl ?_
                refine ax_icmp_eq (tgt := 168) M d_M_fire_162 (by decide) (fun c8 => ?_) (fun c8 => ?_)
                · have E := ob_t E c8
                  refine ax_iconst (v := 0) M d_M_fire_168 (by decide) ?_
                  refine ax_istore (lv' := [(0, .ref (al 0 0)), (1, .int x1), (3, .int (r1.2.1 - (gi r1.1 24 0 (ix x1)))), (4, .int s2.2), (5, .int 0)]) M d_M_fire_169 (by decide) [1, 2, 3, 4, 0] rfl ?_
                  refine ax_lv (lv' := [(0, .ref (al 0 0)), (1, .int x1), (3, .int (r1.2.1 - (gi r1.1 24 0 (ix x1)))), (4, .int s2.2), (5, .int 0)]) [0, 1, 2, 3, 4] rfl ?_
                  obtain ⟨r3, l2, E⟩ := ob_b E
                  refine lp_walk (fun (s3 : ST × Int32) => ∀ h : AH, SW dmM (cfM cc) al s3.1 h0 h → AW l D vwCl rm_M_fire 6 X 0 0 h 171 [(0, .ref (al 0 0)), (1, .int x1), (3, .int (r1.2.1 - (gi r1.1 24 0 (ix x1)))), (4, .int s2.2), (5, .int s3.2)] []) (fun (r3 : ST × Int32) => ∀ h : AH, SW dmM (cfM cc) al r3.1 h0 h → AW l D vwCl rm_M_fire 6 X 0 0 h 215 [(0, .ref (al 0 0)), (1, .int x1), (3, .int (r1.2.1 - (gi r1.1 24 0 (ix x1)))), (4, .int s2.2), (5, .int r3.2)] []) ?_ _ _ _ l2 ?_ h hG
                  · intro s3 y3 E K5 K6 h hG
                    refine ax_iload M d_M_fire_171 4 rfl ?_
                    refine ax_aload_n M d_M_fire_173 0 rfl ?_
                    refine sw_get M hG 0 0 (by decide) in_M rfl rfl 5 (by decide) wd_409 rfl d_M_fire_174 ?_
                    refine ax_iload M d_M_fire_177 3 rfl ?_
                    refine sw_iald M hG 6 0 (by decide) rfl 0 rfl k3 d_M_fire_179 ?_
                    refine ax_icmp_ge (tgt := 215) M d_M_fire_180 (by decide) (fun c9 => ?_) (fun c9 => ?_)
                    · have E := ob_t E c9
                      obtain rfl := Option.some.inj E
                      refine ax_lv (lv' := [(0, .ref (al 0 0)), (1, .int x1), (3, .int (r1.2.1 - (gi r1.1 24 0 (ix x1)))), (4, .int s2.2), (5, .int s3.2)]) [0, 1, 2, 3, 4] rfl ?_
                      exact (K6 _ rfl) h hG
                    · have E := ob_f E c9
                      refine ax_aload_n M d_M_fire_183 0 rfl ?_
                      refine sw_get M hG 0 0 (by decide) in_M rfl rfl 20 (by decide) wd_424 rfl d_M_fire_184 ?_
                      refine ax_iload M d_M_fire_187 3 rfl ?_
                      refine ax_sipush (v := 400) M d_M_fire_189 (by decide) ?_
                      refine ax_imul M d_M_fire_192 ?_
                      refine ax_aload_n M d_M_fire_193 0 rfl ?_
                      refine sw_get M hG 0 0 (by decide) in_M rfl rfl 21 (by decide) wd_425 rfl d_M_fire_194 ?_
                      refine ax_iload M d_M_fire_197 3 rfl ?_
                      obtain ⟨k4, E⟩ := ob_c E
                      refine sw_iald M hG 22 0 (by decide) rfl 0 rfl k4 d_M_fire_199 ?_
                      refine ax_iadd M d_M_fire_200 ?_
                      refine ax_iload M d_M_fire_201 4 rfl ?_
                      refine ax_iadd M d_M_fire_203 ?_
                      refine ax_iload_n M d_M_fire_204 2 rfl ?_
                      refine ax_iload M d_M_fire_205 4 rfl ?_
                      refine ax_iadd M d_M_fire_207 ?_
                      obtain ⟨k5, E⟩ := ob_c E
                      refine sw_iast M hG 21 0 (by decide) rfl 0 rfl k5 rfl d_M_fire_208 (fun h hG => ?_)
                      refine ax_iinc (v := s3.2 + 1) (lv' := [(0, .ref (al 0 0)), (1, .int x1), (3, .int (r1.2.1 - (gi r1.1 24 0 (ix x1)))), (4, .int s2.2), (5, .int (s3.2 + 1))]) M d_M_fire_209 4 rfl rfl (by decide) [1, 2, 3, 4, 0] rfl ?_
                      refine ax_goto (tgt := 171) M d_M_fire_212 (by decide) ?_
                      obtain rfl := Option.some.inj E
                      refine ax_lv (lv' := [(0, .ref (al 0 0)), (1, .int x1), (3, .int (r1.2.1 - (gi r1.1 24 0 (ix x1)))), (4, .int s2.2), (5, .int (s3.2 + 1))]) [0, 1, 2, 3, 4] rfl ?_
                      exact K5 _ rfl h hG
                  · intro h hG
                    refine ax_aload_n M d_M_fire_215 0 rfl ?_
                    refine sw_get M hG 0 0 (by decide) in_M rfl rfl 21 (by decide) wd_425 rfl d_M_fire_216 ?_
                    refine ax_iload M d_M_fire_219 3 rfl ?_
                    refine ax_dup2 M d_M_fire_221 rfl rfl ?_
                    obtain ⟨k6, E⟩ := ob_c E
                    refine sw_iald M hG 22 0 (by decide) rfl 0 rfl k6 d_M_fire_222 ?_
                    refine ax_aload_n M d_M_fire_223 0 rfl ?_
                    refine sw_get M hG 0 0 (by decide) in_M rfl rfl 5 (by decide) wd_409 rfl d_M_fire_224 ?_
                    refine ax_iload M d_M_fire_227 3 rfl ?_
                    refine sw_iald M hG 6 0 (by decide) rfl 0 rfl k3 d_M_fire_229 ?_
                    refine ax_iadd M d_M_fire_230 ?_
                    refine sw_iast M hG 22 0 (by decide) rfl 0 rfl k6 rfl d_M_fire_231 (fun h hG => ?_)
                    refine ax_iinc (v := s2.2 + 1) (lv' := [(0, .ref (al 0 0)), (1, .int x1), (3, .int (r1.2.1 - (gi r1.1 24 0 (ix x1)))), (4, .int (s2.2 + 1)), (5, .int r3.2)]) M d_M_fire_232 3 rfl rfl (by decide) [1, 2, 3, 0, 4] rfl ?_
                    refine ax_goto (tgt := 145) M d_M_fire_235 (by decide) ?_
                    obtain rfl := Option.some.inj E
                    refine ax_lv (lv' := [(0, .ref (al 0 0)), (1, .int x1), (3, .int (r1.2.1 - (gi r1.1 24 0 (ix x1)))), (4, .int (s2.2 + 1))]) [0, 1, 2, 3] rfl ?_
                    exact K3 _ rfl h hG
                · have E := ob_f E c8
                  refine ax_goto (tgt := 232) M d_M_fire_165 (by decide) ?_
                  refine ax_iinc (v := s2.2 + 1) (lv' := [(0, .ref (al 0 0)), (1, .int x1), (3, .int (r1.2.1 - (gi r1.1 24 0 (ix x1)))), (4, .int (s2.2 + 1))]) M d_M_fire_232 3 rfl rfl (by decide) [1, 2, 3, 0] rfl ?_
                  refine ax_goto (tgt := 145) M d_M_fire_235 (by decide) ?_
                  obtain rfl := Option.some.inj E
                  refine ax_lv (lv' := [(0, .ref (al 0 0)), (1, .int x1), (3, .int (r1.2.1 - (gi r1.1 24 0 (ix x1)))), (4, .int (s2.2 + 1))]) [0, 1, 2, 3] rfl ?_
                  exact K3 _ rfl h hG
            · intro h hG
              refine ax_aload_n M d_M_fire_238 0 rfl ?_
              refine ax_dup M d_M_fire_239 rfl ?_
              refine sw_get M hG 0 0 (by decide) in_M rfl rfl 19 (by decide) wd_423 rfl d_M_fire_240 ?_
              refine ax_iconst (v := 1) M d_M_fire_243 (by decide) ?_
              refine ax_iadd M d_M_fire_244 ?_
              refine sw_put M hG 0 0 (by decide) in_M t_M tok_M nok_M rfl rfl 19 (by decide) wd_423 rfl rfl rfl (Nat.le_of_ble_eq_true rfl) rfl d_M_fire_245 (fun h hG => ?_)
              obtain rfl := Option.some.inj E
              exact ax_vret M hR (by decide) (by decide) d_M_fire_248 ⟨rfl, hG⟩
          · have E := ob_t E c6
            refine ax_aload_n M d_M_fire_122 0 rfl ?_
            refine sw_get M hG 0 0 (by decide) in_M rfl rfl 23 (by decide) wd_427 rfl d_M_fire_123 ?_
            refine ax_iload_n M d_M_fire_126 1 rfl ?_
            refine sw_iald M hG 24 0 (by decide) rfl 0 rfl k2 d_M_fire_127 ?_
            refine ax_iload_n M d_M_fire_128 2 rfl ?_
            refine ax_iadd M d_M_fire_129 ?_
            refine ax_goto (tgt := 134) M d_M_fire_130 (by decide) ?_
            refine sw_iast M hG 24 0 (by decide) rfl 0 rfl k2 rfl d_M_fire_134 (fun h hG => ?_)
            refine ax_aload_n M d_M_fire_135 0 rfl ?_
            refine sw_get M hG 0 0 (by decide) in_M rfl rfl 22 (by decide) wd_426 rfl d_M_fire_136 ?_
            refine ax_iload_n M d_M_fire_139 1 rfl ?_
            refine ax_iload_n M d_M_fire_140 3 rfl ?_
            refine sw_iast M hG 23 0 (by decide) rfl 0 rfl k2 rfl d_M_fire_141 (fun h hG => ?_)
            refine ax_iconst (v := 0) M d_M_fire_142 (by decide) ?_
            refine ax_istore (lv' := [(0, .ref (al 0 0)), (1, .int x1), (3, .int (r1.2.1 - (gi r1.1 24 0 (ix x1)))), (4, .int 0)]) M d_M_fire_143 (by decide) [1, 2, 4, 0] rfl ?_
            refine ax_lv (lv' := [(0, .ref (al 0 0)), (1, .int x1), (3, .int (r1.2.1 - (gi r1.1 24 0 (ix x1)))), (4, .int 0)]) [0, 1, 2, 3] rfl ?_
            obtain ⟨r4, l5, E⟩ := ob_b E
            refine lp_walk (fun (s4 : ST × Int32) => ∀ h : AH, SW dmM (cfM cc) al s4.1 h0 h → AW l D vwCl rm_M_fire 6 X 0 0 h 145 [(0, .ref (al 0 0)), (1, .int x1), (3, .int (r1.2.1 - (gi r1.1 24 0 (ix x1)))), (4, .int s4.2)] []) (fun (r4 : ST × Int32) => ∀ h : AH, SW dmM (cfM cc) al r4.1 h0 h → AW l D vwCl rm_M_fire 6 X 0 0 h 238 [(0, .ref (al 0 0)), (1, .int x1), (3, .int (r1.2.1 - (gi r1.1 24 0 (ix x1)))), (4, .int r4.2)] []) ?_ _ _ _ l5 ?_ h hG
            · intro s4 y4 E K7 K8 h hG
              refine ax_iload M d_M_fire_145 3 rfl ?_
              refine ax_aload_n M d_M_fire_147 0 rfl ?_
              refine sw_get M hG 0 0 (by decide) in_M rfl rfl 8 (by decide) wd_412 rfl d_M_fire_148 ?_
              refine ax_icmp_ge (tgt := 238) M d_M_fire_151 (by decide) (fun c10 => ?_) (fun c10 => ?_)
              · have E := ob_t E c10
                obtain rfl := Option.some.inj E
                refine ax_lv (lv' := [(0, .ref (al 0 0)), (1, .int x1), (3, .int (r1.2.1 - (gi r1.1 24 0 (ix x1)))), (4, .int s4.2)]) [0, 1, 2, 3] rfl ?_
                exact (K8 _ rfl) h hG
              · have E := ob_f E c10
                refine ax_aload_n M d_M_fire_154 0 rfl ?_
                refine sw_get M hG 0 0 (by decide) in_M rfl rfl 3 (by decide) wd_407 rfl d_M_fire_155 ?_
                refine ax_iload M d_M_fire_158 3 rfl ?_
                obtain ⟨k7, E⟩ := ob_c E
                refine sw_iald M hG 4 0 (by decide) rfl 0 rfl k7 d_M_fire_160 ?_
                refine ax_iload_n M d_M_fire_161 1 rfl ?_
                refine ax_icmp_eq (tgt := 168) M d_M_fire_162 (by decide) (fun c11 => ?_) (fun c11 => ?_)
                · have E := ob_t E c11
                  refine ax_iconst (v := 0) M d_M_fire_168 (by decide) ?_
                  refine ax_istore (lv' := [(0, .ref (al 0 0)), (1, .int x1), (3, .int (r1.2.1 - (gi r1.1 24 0 (ix x1)))), (4, .int s4.2), (5, .int 0)]) M d_M_fire_169 (by decide) [1, 2, 3, 4, 0] rfl ?_
                  refine ax_lv (lv' := [(0, .ref (al 0 0)), (1, .int x1), (3, .int (r1.2.1 - (gi r1.1 24 0 (ix x1)))), (4, .int s4.2), (5, .int 0)]) [0, 1, 2, 3, 4] rfl ?_
                  obtain ⟨r5, l4, E⟩ := ob_b E
                  refine lp_walk (fun (s5 : ST × Int32) => ∀ h : AH, SW dmM (cfM cc) al s5.1 h0 h → AW l D vwCl rm_M_fire 6 X 0 0 h 171 [(0, .ref (al 0 0)), (1, .int x1), (3, .int (r1.2.1 - (gi r1.1 24 0 (ix x1)))), (4, .int s4.2), (5, .int s5.2)] []) (fun (r5 : ST × Int32) => ∀ h : AH, SW dmM (cfM cc) al r5.1 h0 h → AW l D vwCl rm_M_fire 6 X 0 0 h 215 [(0, .ref (al 0 0)), (1, .int x1), (3, .int (r1.2.1 - (gi r1.1 24 0 (ix x1)))), (4, .int s4.2), (5, .int r5.2)] []) ?_ _ _ _ l4 ?_ h hG
                  · intro s5 y5 E K9 K10 h hG
                    refine ax_iload M d_M_fire_171 4 rfl ?_
                    refine ax_aload_n M d_M_fire_173 0 rfl ?_
                    refine sw_get M hG 0 0 (by decide) in_M rfl rfl 5 (by decide) wd_409 rfl d_M_fire_174 ?_
                    refine ax_iload M d_M_fire_177 3 rfl ?_
                    refine sw_iald M hG 6 0 (by decide) rfl 0 rfl k7 d_M_fire_179 ?_
                    refine ax_icmp_ge (tgt := 215) M d_M_fire_180 (by decide) (fun c12 => ?_) (fun c12 => ?_)
                    · have E := ob_t E c12
                      obtain rfl := Option.some.inj E
                      refine ax_lv (lv' := [(0, .ref (al 0 0)), (1, .int x1), (3, .int (r1.2.1 - (gi r1.1 24 0 (ix x1)))), (4, .int s4.2), (5, .int s5.2)]) [0, 1, 2, 3, 4] rfl ?_
                      exact (K10 _ rfl) h hG
                    · have E := ob_f E c12
                      refine ax_aload_n M d_M_fire_183 0 rfl ?_
                      refine sw_get M hG 0 0 (by decide) in_M rfl rfl 20 (by decide) wd_424 rfl d_M_fire_184 ?_
                      refine ax_iload M d_M_fire_187 3 rfl ?_
                      refine ax_sipush (v := 400) M d_M_fire_189 (by decide) ?_
                      refine ax_imul M d_M_fire_192 ?_
                      refine ax_aload_n M d_M_fire_193 0 rfl ?_
                      refine sw_get M hG 0 0 (by decide) in_M rfl rfl 21 (by decide) wd_425 rfl d_M_fire_194 ?_
                      refine ax_iload M d_M_fire_197 3 rfl ?_
                      obtain ⟨k8, E⟩ := ob_c E
                      refine sw_iald M hG 22 0 (by decide) rfl 0 rfl k8 d_M_fire_199 ?_
                      refine ax_iadd M d_M_fire_200 ?_
                      refine ax_iload M d_M_fire_201 4 rfl ?_
                      refine ax_iadd M d_M_fire_203 ?_
                      refine ax_iload_n M d_M_fire_204 2 rfl ?_
                      refine ax_iload M d_M_fire_205 4 rfl ?_
                      refine ax_iadd M d_M_fire_207 ?_
                      obtain ⟨k9, E⟩ := ob_c E
                      refine sw_iast M hG 21 0 (by decide) rfl 0 rfl k9 rfl d_M_fire_208 (fun h hG => ?_)
                      refine ax_iinc (v := s5.2 + 1) (lv' := [(0, .ref (al 0 0)), (1, .int x1), (3, .int (r1.2.1 - (gi r1.1 24 0 (ix x1)))), (4, .int s4.2), (5, .int (s5.2 + 1))]) M d_M_fire_209 4 rfl rfl (by decide) [1, 2, 3, 4, 0] rfl ?_
                      refine ax_goto (tgt := 171) M d_M_fire_212 (by decide) ?_
                      obtain rfl := Option.some.inj E
                      refine ax_lv (lv' := [(0, .ref (al 0 0)), (1, .int x1), (3, .int (r1.2.1 - (gi r1.1 24 0 (ix x1)))), (4, .int s4.2), (5, .int (s5.2 + 1))]) [0, 1, 2, 3, 4] rfl ?_
                      exact K9 _ rfl h hG
                  · intro h hG
                    refine ax_aload_n M d_M_fire_215 0 rfl ?_
                    refine sw_get M hG 0 0 (by decide) in_M rfl rfl 21 (by decide) wd_425 rfl d_M_fire_216 ?_
                    refine ax_iload M d_M_fire_219 3 rfl ?_
                    refine ax_dup2 M d_M_fire_221 rfl rfl ?_
                    obtain ⟨k10, E⟩ := ob_c E
                    refine sw_iald M hG 22 0 (by decide) rfl 0 rfl k10 d_M_fire_222 ?_
                    refine ax_aload_n M d_M_fire_223 0 rfl ?_
                    refine sw_get M hG 0 0 (by decide) in_M rfl rfl 5 (by decide) wd_409 rfl d_M_fire_224 ?_
                    refine ax_iload M d_M_fire_227 3 rfl ?_
                    refine sw_iald M hG 6 0 (by decide) rfl 0 rfl k7 d_M_fire_229 ?_
                    refine ax_iadd M d_M_fire_230 ?_
                    refine sw_iast M hG 22 0 (by decide) rfl 0 rfl k10 rfl d_M_fire_231 (fun h hG => ?_)
                    refine ax_iinc (v := s4.2 + 1) (lv' := [(0, .ref (al 0 0)), (1, .int x1), (3, .int (r1.2.1 - (gi r1.1 24 0 (ix x1)))), (4, .int (s4.2 + 1)), (5, .int r5.2)]) M d_M_fire_232 3 rfl rfl (by decide) [1, 2, 3, 0, 4] rfl ?_
                    refine ax_goto (tgt := 145) M d_M_fire_235 (by decide) ?_
                    obtain rfl := Option.some.inj E
                    refine ax_lv (lv' := [(0, .ref (al 0 0)), (1, .int x1), (3, .int (r1.2.1 - (gi r1.1 24 0 (ix x1)))), (4, .int (s4.2 + 1))]) [0, 1, 2, 3] rfl ?_
                    exact K7 _ rfl h hG
                · have E := ob_f E c11
                  refine ax_goto (tgt := 232) M d_M_fire_165 (by decide) ?_
                  refine ax_iinc (v := s4.2 + 1) (lv' := [(0, .ref (al 0 0)), (1, .int x1), (3, .int (r1.2.1 - (gi r1.1 24 0 (ix x1)))), (4, .int (s4.2 + 1))]) M d_M_fire_232 3 rfl rfl (by decide) [1, 2, 3, 0] rfl ?_
                  refine ax_goto (tgt := 145) M d_M_fire_235 (by decide) ?_
                  obtain rfl := Option.some.inj E
                  refine ax_lv (lv' := [(0, .ref (al 0 0)), (1, .int x1), (3, .int (r1.2.1 - (gi r1.1 24 0 (ix x1)))), (4, .int (s4.2 + 1))]) [0, 1, 2, 3] rfl ?_
                  exact K7 _ rfl h hG
            · intro h hG
              refine ax_aload_n M d_M_fire_238 0 rfl ?_
              refine ax_dup M d_M_fire_239 rfl ?_
              refine sw_get M hG 0 0 (by decide) in_M rfl rfl 19 (by decide) wd_423 rfl d_M_fire_240 ?_
              refine ax_iconst (v := 1) M d_M_fire_243 (by decide) ?_
              refine ax_iadd M d_M_fire_244 ?_
              refine sw_put M hG 0 0 (by decide) in_M t_M tok_M nok_M rfl rfl 19 (by decide) wd_423 rfl rfl rfl (Nat.le_of_ble_eq_true rfl) rfl d_M_fire_245 (fun h hG => ?_)
              obtain rfl := Option.some.inj E
              exact ax_vret M hR (by decide) (by decide) d_M_fire_248 ⟨rfl, hG⟩
        · have E := ob_t E c5
          refine ax_aload_n M d_M_fire_87 0 rfl ?_
          refine sw_get M hG 0 0 (by decide) in_M rfl rfl 23 (by decide) wd_427 rfl d_M_fire_88 ?_
          refine ax_iload_n M d_M_fire_91 1 rfl ?_
          refine sw_iald M hG 24 0 (by decide) rfl 0 rfl k2 d_M_fire_92 ?_
          refine ax_iload_n M d_M_fire_93 2 rfl ?_
          refine ax_iadd M d_M_fire_94 ?_
          refine ax_goto (tgt := 106) M d_M_fire_95 (by decide) ?_
          refine ax_istore_n (lv' := [(0, .ref (al 0 0)), (1, .int x1), (2, .int r1.2.1), (3, .int ((gi r1.1 24 0 (ix x1)) + r1.2.1))]) M d_M_fire_106 (by decide) [1, 2, 3, 0] rfl ?_
          refine ax_aload_n M d_M_fire_107 0 rfl ?_
          refine sw_get M hG 0 0 (by decide) in_M rfl rfl 23 (by decide) wd_427 rfl d_M_fire_108 ?_
          refine ax_iload_n M d_M_fire_111 1 rfl ?_
          refine ax_aload_n M d_M_fire_112 0 rfl ?_
          refine sw_get M hG 0 0 (by decide) in_M rfl rfl 1 (by decide) wd_405 rfl d_M_fire_113 ?_
          refine ax_iload_n M d_M_fire_116 1 rfl ?_
          refine sw_iald M hG 2 0 (by decide) rfl 0 rfl k2 d_M_fire_117 ?_
          refine ax_iconst (v := 2) M d_M_fire_118 (by decide) ?_
          refine ax_icmp_ne (tgt := 133) M d_M_fire_119 (by decide) (fun c13 => ?_) (fun c13 => ?_)
          · have E := ob_f E c13
            refine ax_iload_n M d_M_fire_133 2 rfl ?_
            refine sw_iast M hG 24 0 (by decide) rfl 0 rfl k2 rfl d_M_fire_134 (fun h hG => ?_)
            refine ax_aload_n M d_M_fire_135 0 rfl ?_
            refine sw_get M hG 0 0 (by decide) in_M rfl rfl 22 (by decide) wd_426 rfl d_M_fire_136 ?_
            refine ax_iload_n M d_M_fire_139 1 rfl ?_
            refine ax_iload_n M d_M_fire_140 3 rfl ?_
            refine sw_iast M hG 23 0 (by decide) rfl 0 rfl k2 rfl d_M_fire_141 (fun h hG => ?_)
            refine ax_iconst (v := 0) M d_M_fire_142 (by decide) ?_
            refine ax_istore (lv' := [(0, .ref (al 0 0)), (1, .int x1), (3, .int ((gi r1.1 24 0 (ix x1)) + r1.2.1)), (4, .int 0)]) M d_M_fire_143 (by decide) [1, 2, 4, 0] rfl ?_
            refine ax_lv (lv' := [(0, .ref (al 0 0)), (1, .int x1), (3, .int ((gi r1.1 24 0 (ix x1)) + r1.2.1)), (4, .int 0)]) [0, 1, 2, 3] rfl ?_
            obtain ⟨r6, l7, E⟩ := ob_b E
            refine lp_walk (fun (s6 : ST × Int32) => ∀ h : AH, SW dmM (cfM cc) al s6.1 h0 h → AW l D vwCl rm_M_fire 6 X 0 0 h 145 [(0, .ref (al 0 0)), (1, .int x1), (3, .int ((gi r1.1 24 0 (ix x1)) + r1.2.1)), (4, .int s6.2)] []) (fun (r6 : ST × Int32) => ∀ h : AH, SW dmM (cfM cc) al r6.1 h0 h → AW l D vwCl rm_M_fire 6 X 0 0 h 238 [(0, .ref (al 0 0)), (1, .int x1), (3, .int ((gi r1.1 24 0 (ix x1)) + r1.2.1)), (4, .int r6.2)] []) ?_ _ _ _ l7 ?_ h hG
            · intro s6 y6 E K11 K12 h hG
              refine ax_iload M d_M_fire_145 3 rfl ?_
              refine ax_aload_n M d_M_fire_147 0 rfl ?_
              refine sw_get M hG 0 0 (by decide) in_M rfl rfl 8 (by decide) wd_412 rfl d_M_fire_148 ?_
              refine ax_icmp_ge (tgt := 238) M d_M_fire_151 (by decide) (fun c14 => ?_) (fun c14 => ?_)
              · have E := ob_t E c14
                obtain rfl := Option.some.inj E
                refine ax_lv (lv' := [(0, .ref (al 0 0)), (1, .int x1), (3, .int ((gi r1.1 24 0 (ix x1)) + r1.2.1)), (4, .int s6.2)]) [0, 1, 2, 3] rfl ?_
                exact (K12 _ rfl) h hG
              · have E := ob_f E c14
                refine ax_aload_n M d_M_fire_154 0 rfl ?_
                refine sw_get M hG 0 0 (by decide) in_M rfl rfl 3 (by decide) wd_407 rfl d_M_fire_155 ?_
                refine ax_iload M d_M_fire_158 3 rfl ?_
                obtain ⟨k11, E⟩ := ob_c E
                refine sw_iald M hG 4 0 (by decide) rfl 0 rfl k11 d_M_fire_160 ?_
                refine ax_iload_n M d_M_fire_161 1 rfl ?_
                refine ax_icmp_eq (tgt := 168) M d_M_fire_162 (by decide) (fun c15 => ?_) (fun c15 => ?_)
                · have E := ob_t E c15
                  refine ax_iconst (v := 0) M d_M_fire_168 (by decide) ?_
                  refine ax_istore (lv' := [(0, .ref (al 0 0)), (1, .int x1), (3, .int ((gi r1.1 24 0 (ix x1)) + r1.2.1)), (4, .int s6.2), (5, .int 0)]) M d_M_fire_169 (by decide) [1, 2, 3, 4, 0] rfl ?_
                  refine ax_lv (lv' := [(0, .ref (al 0 0)), (1, .int x1), (3, .int ((gi r1.1 24 0 (ix x1)) + r1.2.1)), (4, .int s6.2), (5, .int 0)]) [0, 1, 2, 3, 4] rfl ?_
                  obtain ⟨r7, l6, E⟩ := ob_b E
                  refine lp_walk (fun (s7 : ST × Int32) => ∀ h : AH, SW dmM (cfM cc) al s7.1 h0 h → AW l D vwCl rm_M_fire 6 X 0 0 h 171 [(0, .ref (al 0 0)), (1, .int x1), (3, .int ((gi r1.1 24 0 (ix x1)) + r1.2.1)), (4, .int s6.2), (5, .int s7.2)] []) (fun (r7 : ST × Int32) => ∀ h : AH, SW dmM (cfM cc) al r7.1 h0 h → AW l D vwCl rm_M_fire 6 X 0 0 h 215 [(0, .ref (al 0 0)), (1, .int x1), (3, .int ((gi r1.1 24 0 (ix x1)) + r1.2.1)), (4, .int s6.2), (5, .int r7.2)] []) ?_ _ _ _ l6 ?_ h hG
                  · intro s7 y7 E K13 K14 h hG
                    refine ax_iload M d_M_fire_171 4 rfl ?_
                    refine ax_aload_n M d_M_fire_173 0 rfl ?_
                    refine sw_get M hG 0 0 (by decide) in_M rfl rfl 5 (by decide) wd_409 rfl d_M_fire_174 ?_
                    refine ax_iload M d_M_fire_177 3 rfl ?_
                    refine sw_iald M hG 6 0 (by decide) rfl 0 rfl k11 d_M_fire_179 ?_
                    refine ax_icmp_ge (tgt := 215) M d_M_fire_180 (by decide) (fun c16 => ?_) (fun c16 => ?_)
                    · have E := ob_t E c16
                      obtain rfl := Option.some.inj E
                      refine ax_lv (lv' := [(0, .ref (al 0 0)), (1, .int x1), (3, .int ((gi r1.1 24 0 (ix x1)) + r1.2.1)), (4, .int s6.2), (5, .int s7.2)]) [0, 1, 2, 3, 4] rfl ?_
                      exact (K14 _ rfl) h hG
                    · have E := ob_f E c16
                      refine ax_aload_n M d_M_fire_183 0 rfl ?_
                      refine sw_get M hG 0 0 (by decide) in_M rfl rfl 20 (by decide) wd_424 rfl d_M_fire_184 ?_
                      refine ax_iload M d_M_fire_187 3 rfl ?_
                      refine ax_sipush (v := 400) M d_M_fire_189 (by decide) ?_
                      refine ax_imul M d_M_fire_192 ?_
                      refine ax_aload_n M d_M_fire_193 0 rfl ?_
                      refine sw_get M hG 0 0 (by decide) in_M rfl rfl 21 (by decide) wd_425 rfl d_M_fire_194 ?_
                      refine ax_iload M d_M_fire_197 3 rfl ?_
                      obtain ⟨k12, E⟩ := ob_c E
                      refine sw_iald M hG 22 0 (by decide) rfl 0 rfl k12 d_M_fire_199 ?_
                      refine ax_iadd M d_M_fire_200 ?_
                      refine ax_iload M d_M_fire_201 4 rfl ?_
                      refine ax_iadd M d_M_fire_203 ?_
                      refine ax_iload_n M d_M_fire_204 2 rfl ?_
                      refine ax_iload M d_M_fire_205 4 rfl ?_
                      refine ax_iadd M d_M_fire_207 ?_
                      obtain ⟨k13, E⟩ := ob_c E
                      refine sw_iast M hG 21 0 (by decide) rfl 0 rfl k13 rfl d_M_fire_208 (fun h hG => ?_)
                      refine ax_iinc (v := s7.2 + 1) (lv' := [(0, .ref (al 0 0)), (1, .int x1), (3, .int ((gi r1.1 24 0 (ix x1)) + r1.2.1)), (4, .int s6.2), (5, .int (s7.2 + 1))]) M d_M_fire_209 4 rfl rfl (by decide) [1, 2, 3, 4, 0] rfl ?_
                      refine ax_goto (tgt := 171) M d_M_fire_212 (by decide) ?_
                      obtain rfl := Option.some.inj E
                      refine ax_lv (lv' := [(0, .ref (al 0 0)), (1, .int x1), (3, .int ((gi r1.1 24 0 (ix x1)) + r1.2.1)), (4, .int s6.2), (5, .int (s7.2 + 1))]) [0, 1, 2, 3, 4] rfl ?_
                      exact K13 _ rfl h hG
                  · intro h hG
                    refine ax_aload_n M d_M_fire_215 0 rfl ?_
                    refine sw_get M hG 0 0 (by decide) in_M rfl rfl 21 (by decide) wd_425 rfl d_M_fire_216 ?_
                    refine ax_iload M d_M_fire_219 3 rfl ?_
                    refine ax_dup2 M d_M_fire_221 rfl rfl ?_
                    obtain ⟨k14, E⟩ := ob_c E
                    refine sw_iald M hG 22 0 (by decide) rfl 0 rfl k14 d_M_fire_222 ?_
                    refine ax_aload_n M d_M_fire_223 0 rfl ?_
                    refine sw_get M hG 0 0 (by decide) in_M rfl rfl 5 (by decide) wd_409 rfl d_M_fire_224 ?_
                    refine ax_iload M d_M_fire_227 3 rfl ?_
                    refine sw_iald M hG 6 0 (by decide) rfl 0 rfl k11 d_M_fire_229 ?_
                    refine ax_iadd M d_M_fire_230 ?_
                    refine sw_iast M hG 22 0 (by decide) rfl 0 rfl k14 rfl d_M_fire_231 (fun h hG => ?_)
                    refine ax_iinc (v := s6.2 + 1) (lv' := [(0, .ref (al 0 0)), (1, .int x1), (3, .int ((gi r1.1 24 0 (ix x1)) + r1.2.1)), (4, .int (s6.2 + 1)), (5, .int r7.2)]) M d_M_fire_232 3 rfl rfl (by decide) [1, 2, 3, 0, 4] rfl ?_
                    refine ax_goto (tgt := 145) M d_M_fire_235 (by decide) ?_
                    obtain rfl := Option.some.inj E
                    refine ax_lv (lv' := [(0, .ref (al 0 0)), (1, .int x1), (3, .int ((gi r1.1 24 0 (ix x1)) + r1.2.1)), (4, .int (s6.2 + 1))]) [0, 1, 2, 3] rfl ?_
                    exact K11 _ rfl h hG
                · have E := ob_f E c15
                  refine ax_goto (tgt := 232) M d_M_fire_165 (by decide) ?_
                  refine ax_iinc (v := s6.2 + 1) (lv' := [(0, .ref (al 0 0)), (1, .int x1), (3, .int ((gi r1.1 24 0 (ix x1)) + r1.2.1)), (4, .int (s6.2 + 1))]) M d_M_fire_232 3 rfl rfl (by decide) [1, 2, 3, 0] rfl ?_
                  refine ax_goto (tgt := 145) M d_M_fire_235 (by decide) ?_
                  obtain rfl := Option.some.inj E
                  refine ax_lv (lv' := [(0, .ref (al 0 0)), (1, .int x1), (3, .int ((gi r1.1 24 0 (ix x1)) + r1.2.1)), (4, .int (s6.2 + 1))]) [0, 1, 2, 3] rfl ?_
                  exact K11 _ rfl h hG
            · intro h hG
              refine ax_aload_n M d_M_fire_238 0 rfl ?_
              refine ax_dup M d_M_fire_239 rfl ?_
              refine sw_get M hG 0 0 (by decide) in_M rfl rfl 19 (by decide) wd_423 rfl d_M_fire_240 ?_
              refine ax_iconst (v := 1) M d_M_fire_243 (by decide) ?_
              refine ax_iadd M d_M_fire_244 ?_
              refine sw_put M hG 0 0 (by decide) in_M t_M tok_M nok_M rfl rfl 19 (by decide) wd_423 rfl rfl rfl (Nat.le_of_ble_eq_true rfl) rfl d_M_fire_245 (fun h hG => ?_)
              obtain rfl := Option.some.inj E
              exact ax_vret M hR (by decide) (by decide) d_M_fire_248 ⟨rfl, hG⟩
          · have E := ob_t E c13
            refine ax_aload_n M d_M_fire_122 0 rfl ?_
            refine sw_get M hG 0 0 (by decide) in_M rfl rfl 23 (by decide) wd_427 rfl d_M_fire_123 ?_
            refine ax_iload_n M d_M_fire_126 1 rfl ?_
            refine sw_iald M hG 24 0 (by decide) rfl 0 rfl k2 d_M_fire_127 ?_
            refine ax_iload_n M d_M_fire_128 2 rfl ?_
            refine ax_iadd M d_M_fire_129 ?_
            refine ax_goto (tgt := 134) M d_M_fire_130 (by decide) ?_
            refine sw_iast M hG 24 0 (by decide) rfl 0 rfl k2 rfl d_M_fire_134 (fun h hG => ?_)
            refine ax_aload_n M d_M_fire_135 0 rfl ?_
            refine sw_get M hG 0 0 (by decide) in_M rfl rfl 22 (by decide) wd_426 rfl d_M_fire_136 ?_
            refine ax_iload_n M d_M_fire_139 1 rfl ?_
            refine ax_iload_n M d_M_fire_140 3 rfl ?_
            refine sw_iast M hG 23 0 (by decide) rfl 0 rfl k2 rfl d_M_fire_141 (fun h hG => ?_)
            refine ax_iconst (v := 0) M d_M_fire_142 (by decide) ?_
            refine ax_istore (lv' := [(0, .ref (al 0 0)), (1, .int x1), (3, .int ((gi r1.1 24 0 (ix x1)) + r1.2.1)), (4, .int 0)]) M d_M_fire_143 (by decide) [1, 2, 4, 0] rfl ?_
            refine ax_lv (lv' := [(0, .ref (al 0 0)), (1, .int x1), (3, .int ((gi r1.1 24 0 (ix x1)) + r1.2.1)), (4, .int 0)]) [0, 1, 2, 3] rfl ?_
            obtain ⟨r8, l9, E⟩ := ob_b E
            refine lp_walk (fun (s8 : ST × Int32) => ∀ h : AH, SW dmM (cfM cc) al s8.1 h0 h → AW l D vwCl rm_M_fire 6 X 0 0 h 145 [(0, .ref (al 0 0)), (1, .int x1), (3, .int ((gi r1.1 24 0 (ix x1)) + r1.2.1)), (4, .int s8.2)] []) (fun (r8 : ST × Int32) => ∀ h : AH, SW dmM (cfM cc) al r8.1 h0 h → AW l D vwCl rm_M_fire 6 X 0 0 h 238 [(0, .ref (al 0 0)), (1, .int x1), (3, .int ((gi r1.1 24 0 (ix x1)) + r1.2.1)), (4, .int r8.2)] []) ?_ _ _ _ l9 ?_ h hG
            · intro s8 y8 E K15 K16 h hG
              refine ax_iload M d_M_fire_145 3 rfl ?_
              refine ax_aload_n M d_M_fire_147 0 rfl ?_
              refine sw_get M hG 0 0 (by decide) in_M rfl rfl 8 (by decide) wd_412 rfl d_M_fire_148 ?_
              refine ax_icmp_ge (tgt := 238) M d_M_fire_151 (by decide) (fun c17 => ?_) (fun c17 => ?_)
              · have E := ob_t E c17
                obtain rfl := Option.some.inj E
                refine ax_lv (lv' := [(0, .ref (al 0 0)), (1, .int x1), (3, .int ((gi r1.1 24 0 (ix x1)) + r1.2.1)), (4, .int s8.2)]) [0, 1, 2, 3] rfl ?_
                exact (K16 _ rfl) h hG
              · have E := ob_f E c17
                refine ax_aload_n M d_M_fire_154 0 rfl ?_
                refine sw_get M hG 0 0 (by decide) in_M rfl rfl 3 (by decide) wd_407 rfl d_M_fire_155 ?_
                refine ax_iload M d_M_fire_158 3 rfl ?_
                obtain ⟨k15, E⟩ := ob_c E
                refine sw_iald M hG 4 0 (by decide) rfl 0 rfl k15 d_M_fire_160 ?_
                refine ax_iload_n M d_M_fire_161 1 rfl ?_
                refine ax_icmp_eq (tgt := 168) M d_M_fire_162 (by decide) (fun c18 => ?_) (fun c18 => ?_)
                · have E := ob_t E c18
                  refine ax_iconst (v := 0) M d_M_fire_168 (by decide) ?_
                  refine ax_istore (lv' := [(0, .ref (al 0 0)), (1, .int x1), (3, .int ((gi r1.1 24 0 (ix x1)) + r1.2.1)), (4, .int s8.2), (5, .int 0)]) M d_M_fire_169 (by decide) [1, 2, 3, 4, 0] rfl ?_
                  refine ax_lv (lv' := [(0, .ref (al 0 0)), (1, .int x1), (3, .int ((gi r1.1 24 0 (ix x1)) + r1.2.1)), (4, .int s8.2), (5, .int 0)]) [0, 1, 2, 3, 4] rfl ?_
                  obtain ⟨r9, l8, E⟩ := ob_b E
                  refine lp_walk (fun (s9 : ST × Int32) => ∀ h : AH, SW dmM (cfM cc) al s9.1 h0 h → AW l D vwCl rm_M_fire 6 X 0 0 h 171 [(0, .ref (al 0 0)), (1, .int x1), (3, .int ((gi r1.1 24 0 (ix x1)) + r1.2.1)), (4, .int s8.2), (5, .int s9.2)] []) (fun (r9 : ST × Int32) => ∀ h : AH, SW dmM (cfM cc) al r9.1 h0 h → AW l D vwCl rm_M_fire 6 X 0 0 h 215 [(0, .ref (al 0 0)), (1, .int x1), (3, .int ((gi r1.1 24 0 (ix x1)) + r1.2.1)), (4, .int s8.2), (5, .int r9.2)] []) ?_ _ _ _ l8 ?_ h hG
                  · intro s9 y9 E K17 K18 h hG
                    refine ax_iload M d_M_fire_171 4 rfl ?_
                    refine ax_aload_n M d_M_fire_173 0 rfl ?_
                    refine sw_get M hG 0 0 (by decide) in_M rfl rfl 5 (by decide) wd_409 rfl d_M_fire_174 ?_
                    refine ax_iload M d_M_fire_177 3 rfl ?_
                    refine sw_iald M hG 6 0 (by decide) rfl 0 rfl k15 d_M_fire_179 ?_
                    refine ax_icmp_ge (tgt := 215) M d_M_fire_180 (by decide) (fun c19 => ?_) (fun c19 => ?_)
                    · have E := ob_t E c19
                      obtain rfl := Option.some.inj E
                      refine ax_lv (lv' := [(0, .ref (al 0 0)), (1, .int x1), (3, .int ((gi r1.1 24 0 (ix x1)) + r1.2.1)), (4, .int s8.2), (5, .int s9.2)]) [0, 1, 2, 3, 4] rfl ?_
                      exact (K18 _ rfl) h hG
                    · have E := ob_f E c19
                      refine ax_aload_n M d_M_fire_183 0 rfl ?_
                      refine sw_get M hG 0 0 (by decide) in_M rfl rfl 20 (by decide) wd_424 rfl d_M_fire_184 ?_
                      refine ax_iload M d_M_fire_187 3 rfl ?_
                      refine ax_sipush (v := 400) M d_M_fire_189 (by decide) ?_
                      refine ax_imul M d_M_fire_192 ?_
                      refine ax_aload_n M d_M_fire_193 0 rfl ?_
                      refine sw_get M hG 0 0 (by decide) in_M rfl rfl 21 (by decide) wd_425 rfl d_M_fire_194 ?_
                      refine ax_iload M d_M_fire_197 3 rfl ?_
                      obtain ⟨k16, E⟩ := ob_c E
                      refine sw_iald M hG 22 0 (by decide) rfl 0 rfl k16 d_M_fire_199 ?_
                      refine ax_iadd M d_M_fire_200 ?_
                      refine ax_iload M d_M_fire_201 4 rfl ?_
                      refine ax_iadd M d_M_fire_203 ?_
                      refine ax_iload_n M d_M_fire_204 2 rfl ?_
                      refine ax_iload M d_M_fire_205 4 rfl ?_
                      refine ax_iadd M d_M_fire_207 ?_
                      obtain ⟨k17, E⟩ := ob_c E
                      refine sw_iast M hG 21 0 (by decide) rfl 0 rfl k17 rfl d_M_fire_208 (fun h hG => ?_)
                      refine ax_iinc (v := s9.2 + 1) (lv' := [(0, .ref (al 0 0)), (1, .int x1), (3, .int ((gi r1.1 24 0 (ix x1)) + r1.2.1)), (4, .int s8.2), (5, .int (s9.2 + 1))]) M d_M_fire_209 4 rfl rfl (by decide) [1, 2, 3, 4, 0] rfl ?_
                      refine ax_goto (tgt := 171) M d_M_fire_212 (by decide) ?_
                      obtain rfl := Option.some.inj E
                      refine ax_lv (lv' := [(0, .ref (al 0 0)), (1, .int x1), (3, .int ((gi r1.1 24 0 (ix x1)) + r1.2.1)), (4, .int s8.2), (5, .int (s9.2 + 1))]) [0, 1, 2, 3, 4] rfl ?_
                      exact K17 _ rfl h hG
                  · intro h hG
                    refine ax_aload_n M d_M_fire_215 0 rfl ?_
                    refine sw_get M hG 0 0 (by decide) in_M rfl rfl 21 (by decide) wd_425 rfl d_M_fire_216 ?_
                    refine ax_iload M d_M_fire_219 3 rfl ?_
                    refine ax_dup2 M d_M_fire_221 rfl rfl ?_
                    obtain ⟨k18, E⟩ := ob_c E
                    refine sw_iald M hG 22 0 (by decide) rfl 0 rfl k18 d_M_fire_222 ?_
                    refine ax_aload_n M d_M_fire_223 0 rfl ?_
                    refine sw_get M hG 0 0 (by decide) in_M rfl rfl 5 (by decide) wd_409 rfl d_M_fire_224 ?_
                    refine ax_iload M d_M_fire_227 3 rfl ?_
                    refine sw_iald M hG 6 0 (by decide) rfl 0 rfl k15 d_M_fire_229 ?_
                    refine ax_iadd M d_M_fire_230 ?_
                    refine sw_iast M hG 22 0 (by decide) rfl 0 rfl k18 rfl d_M_fire_231 (fun h hG => ?_)
                    refine ax_iinc (v := s8.2 + 1) (lv' := [(0, .ref (al 0 0)), (1, .int x1), (3, .int ((gi r1.1 24 0 (ix x1)) + r1.2.1)), (4, .int (s8.2 + 1)), (5, .int r9.2)]) M d_M_fire_232 3 rfl rfl (by decide) [1, 2, 3, 0, 4] rfl ?_
                    refine ax_goto (tgt := 145) M d_M_fire_235 (by decide) ?_
                    obtain rfl := Option.some.inj E
                    refine ax_lv (lv' := [(0, .ref (al 0 0)), (1, .int x1), (3, .int ((gi r1.1 24 0 (ix x1)) + r1.2.1)), (4, .int (s8.2 + 1))]) [0, 1, 2, 3] rfl ?_
                    exact K15 _ rfl h hG
                · have E := ob_f E c18
                  refine ax_goto (tgt := 232) M d_M_fire_165 (by decide) ?_
                  refine ax_iinc (v := s8.2 + 1) (lv' := [(0, .ref (al 0 0)), (1, .int x1), (3, .int ((gi r1.1 24 0 (ix x1)) + r1.2.1)), (4, .int (s8.2 + 1))]) M d_M_fire_232 3 rfl rfl (by decide) [1, 2, 3, 0] rfl ?_
                  refine ax_goto (tgt := 145) M d_M_fire_235 (by decide) ?_
                  obtain rfl := Option.some.inj E
                  refine ax_lv (lv' := [(0, .ref (al 0 0)), (1, .int x1), (3, .int ((gi r1.1 24 0 (ix x1)) + r1.2.1)), (4, .int (s8.2 + 1))]) [0, 1, 2, 3] rfl ?_
                  exact K15 _ rfl h hG
            · intro h hG
              refine ax_aload_n M d_M_fire_238 0 rfl ?_
              refine ax_dup M d_M_fire_239 rfl ?_
              refine sw_get M hG 0 0 (by decide) in_M rfl rfl 19 (by decide) wd_423 rfl d_M_fire_240 ?_
              refine ax_iconst (v := 1) M d_M_fire_243 (by decide) ?_
              refine ax_iadd M d_M_fire_244 ?_
              refine sw_put M hG 0 0 (by decide) in_M t_M tok_M nok_M rfl rfl 19 (by decide) wd_423 rfl rfl rfl (Nat.le_of_ble_eq_true rfl) rfl d_M_fire_245 (fun h hG => ?_)
              obtain rfl := Option.some.inj E
              exact ax_vret M hR (by decide) (by decide) d_M_fire_248 ⟨rfl, hG⟩
      · have E := ob_t E c4
        refine ax_aload_n M d_M_fire_66 0 rfl ?_
        refine sw_get M hG 0 0 (by decide) in_M rfl rfl 2 (by decide) wd_406 rfl d_M_fire_67 ?_
        refine ax_iload_n M d_M_fire_70 1 rfl ?_
        refine sw_iald M hG 3 0 (by decide) rfl 0 rfl k2 d_M_fire_71 ?_
        refine ax_iload_n M d_M_fire_72 2 rfl ?_
        refine ax_imul M d_M_fire_73 ?_
        refine ax_goto (tgt := 106) M d_M_fire_74 (by decide) ?_
        refine ax_istore_n (lv' := [(0, .ref (al 0 0)), (1, .int x1), (2, .int r1.2.1), (3, .int ((gi r1.1 3 0 (ix x1)) * r1.2.1))]) M d_M_fire_106 (by decide) [1, 2, 3, 0] rfl ?_
        refine ax_aload_n M d_M_fire_107 0 rfl ?_
        refine sw_get M hG 0 0 (by decide) in_M rfl rfl 23 (by decide) wd_427 rfl d_M_fire_108 ?_
        refine ax_iload_n M d_M_fire_111 1 rfl ?_
        refine ax_aload_n M d_M_fire_112 0 rfl ?_
        refine sw_get M hG 0 0 (by decide) in_M rfl rfl 1 (by decide) wd_405 rfl d_M_fire_113 ?_
        refine ax_iload_n M d_M_fire_116 1 rfl ?_
        refine sw_iald M hG 2 0 (by decide) rfl 0 rfl k2 d_M_fire_117 ?_
        refine ax_iconst (v := 2) M d_M_fire_118 (by decide) ?_
        refine ax_icmp_ne (tgt := 133) M d_M_fire_119 (by decide) (fun c20 => ?_) (fun c20 => ?_)
        · have E := ob_f E c20
          refine ax_iload_n M d_M_fire_133 2 rfl ?_
          refine sw_iast M hG 24 0 (by decide) rfl 0 rfl k2 rfl d_M_fire_134 (fun h hG => ?_)
          refine ax_aload_n M d_M_fire_135 0 rfl ?_
          refine sw_get M hG 0 0 (by decide) in_M rfl rfl 22 (by decide) wd_426 rfl d_M_fire_136 ?_
          refine ax_iload_n M d_M_fire_139 1 rfl ?_
          refine ax_iload_n M d_M_fire_140 3 rfl ?_
          refine sw_iast M hG 23 0 (by decide) rfl 0 rfl k2 rfl d_M_fire_141 (fun h hG => ?_)
          refine ax_iconst (v := 0) M d_M_fire_142 (by decide) ?_
          refine ax_istore (lv' := [(0, .ref (al 0 0)), (1, .int x1), (3, .int ((gi r1.1 3 0 (ix x1)) * r1.2.1)), (4, .int 0)]) M d_M_fire_143 (by decide) [1, 2, 4, 0] rfl ?_
          refine ax_lv (lv' := [(0, .ref (al 0 0)), (1, .int x1), (3, .int ((gi r1.1 3 0 (ix x1)) * r1.2.1)), (4, .int 0)]) [0, 1, 2, 3] rfl ?_
          obtain ⟨r10, l11, E⟩ := ob_b E
          refine lp_walk (fun (s10 : ST × Int32) => ∀ h : AH, SW dmM (cfM cc) al s10.1 h0 h → AW l D vwCl rm_M_fire 6 X 0 0 h 145 [(0, .ref (al 0 0)), (1, .int x1), (3, .int ((gi r1.1 3 0 (ix x1)) * r1.2.1)), (4, .int s10.2)] []) (fun (r10 : ST × Int32) => ∀ h : AH, SW dmM (cfM cc) al r10.1 h0 h → AW l D vwCl rm_M_fire 6 X 0 0 h 238 [(0, .ref (al 0 0)), (1, .int x1), (3, .int ((gi r1.1 3 0 (ix x1)) * r1.2.1)), (4, .int r10.2)] []) ?_ _ _ _ l11 ?_ h hG
          · intro s10 y10 E K19 K20 h hG
            refine ax_iload M d_M_fire_145 3 rfl ?_
            refine ax_aload_n M d_M_fire_147 0 rfl ?_
            refine sw_get M hG 0 0 (by decide) in_M rfl rfl 8 (by decide) wd_412 rfl d_M_fire_148 ?_
            refine ax_icmp_ge (tgt := 238) M d_M_fire_151 (by decide) (fun c21 => ?_) (fun c21 => ?_)
            · have E := ob_t E c21
              obtain rfl := Option.some.inj E
              refine ax_lv (lv' := [(0, .ref (al 0 0)), (1, .int x1), (3, .int ((gi r1.1 3 0 (ix x1)) * r1.2.1)), (4, .int s10.2)]) [0, 1, 2, 3] rfl ?_
              exact (K20 _ rfl) h hG
            · have E := ob_f E c21
              refine ax_aload_n M d_M_fire_154 0 rfl ?_
              refine sw_get M hG 0 0 (by decide) in_M rfl rfl 3 (by decide) wd_407 rfl d_M_fire_155 ?_
              refine ax_iload M d_M_fire_158 3 rfl ?_
              obtain ⟨k19, E⟩ := ob_c E
              refine sw_iald M hG 4 0 (by decide) rfl 0 rfl k19 d_M_fire_160 ?_
              refine ax_iload_n M d_M_fire_161 1 rfl ?_
              refine ax_icmp_eq (tgt := 168) M d_M_fire_162 (by decide) (fun c22 => ?_) (fun c22 => ?_)
              · have E := ob_t E c22
                refine ax_iconst (v := 0) M d_M_fire_168 (by decide) ?_
                refine ax_istore (lv' := [(0, .ref (al 0 0)), (1, .int x1), (3, .int ((gi r1.1 3 0 (ix x1)) * r1.2.1)), (4, .int s10.2), (5, .int 0)]) M d_M_fire_169 (by decide) [1, 2, 3, 4, 0] rfl ?_
                refine ax_lv (lv' := [(0, .ref (al 0 0)), (1, .int x1), (3, .int ((gi r1.1 3 0 (ix x1)) * r1.2.1)), (4, .int s10.2), (5, .int 0)]) [0, 1, 2, 3, 4] rfl ?_
                obtain ⟨r11, l10, E⟩ := ob_b E
                refine lp_walk (fun (s11 : ST × Int32) => ∀ h : AH, SW dmM (cfM cc) al s11.1 h0 h → AW l D vwCl rm_M_fire 6 X 0 0 h 171 [(0, .ref (al 0 0)), (1, .int x1), (3, .int ((gi r1.1 3 0 (ix x1)) * r1.2.1)), (4, .int s10.2), (5, .int s11.2)] []) (fun (r11 : ST × Int32) => ∀ h : AH, SW dmM (cfM cc) al r11.1 h0 h → AW l D vwCl rm_M_fire 6 X 0 0 h 215 [(0, .ref (al 0 0)), (1, .int x1), (3, .int ((gi r1.1 3 0 (ix x1)) * r1.2.1)), (4, .int s10.2), (5, .int r11.2)] []) ?_ _ _ _ l10 ?_ h hG
                · intro s11 y11 E K21 K22 h hG
                  refine ax_iload M d_M_fire_171 4 rfl ?_
                  refine ax_aload_n M d_M_fire_173 0 rfl ?_
                  refine sw_get M hG 0 0 (by decide) in_M rfl rfl 5 (by decide) wd_409 rfl d_M_fire_174 ?_
                  refine ax_iload M d_M_fire_177 3 rfl ?_
                  refine sw_iald M hG 6 0 (by decide) rfl 0 rfl k19 d_M_fire_179 ?_
                  refine ax_icmp_ge (tgt := 215) M d_M_fire_180 (by decide) (fun c23 => ?_) (fun c23 => ?_)
                  · have E := ob_t E c23
                    obtain rfl := Option.some.inj E
                    refine ax_lv (lv' := [(0, .ref (al 0 0)), (1, .int x1), (3, .int ((gi r1.1 3 0 (ix x1)) * r1.2.1)), (4, .int s10.2), (5, .int s11.2)]) [0, 1, 2, 3, 4] rfl ?_
                    exact (K22 _ rfl) h hG
                  · have E := ob_f E c23
                    refine ax_aload_n M d_M_fire_183 0 rfl ?_
                    refine sw_get M hG 0 0 (by decide) in_M rfl rfl 20 (by decide) wd_424 rfl d_M_fire_184 ?_
                    refine ax_iload M d_M_fire_187 3 rfl ?_
                    refine ax_sipush (v := 400) M d_M_fire_189 (by decide) ?_
                    refine ax_imul M d_M_fire_192 ?_
                    refine ax_aload_n M d_M_fire_193 0 rfl ?_
                    refine sw_get M hG 0 0 (by decide) in_M rfl rfl 21 (by decide) wd_425 rfl d_M_fire_194 ?_
                    refine ax_iload M d_M_fire_197 3 rfl ?_
                    obtain ⟨k20, E⟩ := ob_c E
                    refine sw_iald M hG 22 0 (by decide) rfl 0 rfl k20 d_M_fire_199 ?_
                    refine ax_iadd M d_M_fire_200 ?_
                    refine ax_iload M d_M_fire_201 4 rfl ?_
                    refine ax_iadd M d_M_fire_203 ?_
                    refine ax_iload_n M d_M_fire_204 2 rfl ?_
                    refine ax_iload M d_M_fire_205 4 rfl ?_
                    refine ax_iadd M d_M_fire_207 ?_
                    obtain ⟨k21, E⟩ := ob_c E
                    refine sw_iast M hG 21 0 (by decide) rfl 0 rfl k21 rfl d_M_fire_208 (fun h hG => ?_)
                    refine ax_iinc (v := s11.2 + 1) (lv' := [(0, .ref (al 0 0)), (1, .int x1), (3, .int ((gi r1.1 3 0 (ix x1)) * r1.2.1)), (4, .int s10.2), (5, .int (s11.2 + 1))]) M d_M_fire_209 4 rfl rfl (by decide) [1, 2, 3, 4, 0] rfl ?_
                    refine ax_goto (tgt := 171) M d_M_fire_212 (by decide) ?_
                    obtain rfl := Option.some.inj E
                    refine ax_lv (lv' := [(0, .ref (al 0 0)), (1, .int x1), (3, .int ((gi r1.1 3 0 (ix x1)) * r1.2.1)), (4, .int s10.2), (5, .int (s11.2 + 1))]) [0, 1, 2, 3, 4] rfl ?_
                    exact K21 _ rfl h hG
                · intro h hG
                  refine ax_aload_n M d_M_fire_215 0 rfl ?_
                  refine sw_get M hG 0 0 (by decide) in_M rfl rfl 21 (by decide) wd_425 rfl d_M_fire_216 ?_
                  refine ax_iload M d_M_fire_219 3 rfl ?_
                  refine ax_dup2 M d_M_fire_221 rfl rfl ?_
                  obtain ⟨k22, E⟩ := ob_c E
                  refine sw_iald M hG 22 0 (by decide) rfl 0 rfl k22 d_M_fire_222 ?_
                  refine ax_aload_n M d_M_fire_223 0 rfl ?_
                  refine sw_get M hG 0 0 (by decide) in_M rfl rfl 5 (by decide) wd_409 rfl d_M_fire_224 ?_
                  refine ax_iload M d_M_fire_227 3 rfl ?_
                  refine sw_iald M hG 6 0 (by decide) rfl 0 rfl k19 d_M_fire_229 ?_
                  refine ax_iadd M d_M_fire_230 ?_
                  refine sw_iast M hG 22 0 (by decide) rfl 0 rfl k22 rfl d_M_fire_231 (fun h hG => ?_)
                  refine ax_iinc (v := s10.2 + 1) (lv' := [(0, .ref (al 0 0)), (1, .int x1), (3, .int ((gi r1.1 3 0 (ix x1)) * r1.2.1)), (4, .int (s10.2 + 1)), (5, .int r11.2)]) M d_M_fire_232 3 rfl rfl (by decide) [1, 2, 3, 0, 4] rfl ?_
                  refine ax_goto (tgt := 145) M d_M_fire_235 (by decide) ?_
                  obtain rfl := Option.some.inj E
                  refine ax_lv (lv' := [(0, .ref (al 0 0)), (1, .int x1), (3, .int ((gi r1.1 3 0 (ix x1)) * r1.2.1)), (4, .int (s10.2 + 1))]) [0, 1, 2, 3] rfl ?_
                  exact K19 _ rfl h hG
              · have E := ob_f E c22
                refine ax_goto (tgt := 232) M d_M_fire_165 (by decide) ?_
                refine ax_iinc (v := s10.2 + 1) (lv' := [(0, .ref (al 0 0)), (1, .int x1), (3, .int ((gi r1.1 3 0 (ix x1)) * r1.2.1)), (4, .int (s10.2 + 1))]) M d_M_fire_232 3 rfl rfl (by decide) [1, 2, 3, 0] rfl ?_
                refine ax_goto (tgt := 145) M d_M_fire_235 (by decide) ?_
                obtain rfl := Option.some.inj E
                refine ax_lv (lv' := [(0, .ref (al 0 0)), (1, .int x1), (3, .int ((gi r1.1 3 0 (ix x1)) * r1.2.1)), (4, .int (s10.2 + 1))]) [0, 1, 2, 3] rfl ?_
                exact K19 _ rfl h hG
          · intro h hG
            refine ax_aload_n M d_M_fire_238 0 rfl ?_
            refine ax_dup M d_M_fire_239 rfl ?_
            refine sw_get M hG 0 0 (by decide) in_M rfl rfl 19 (by decide) wd_423 rfl d_M_fire_240 ?_
            refine ax_iconst (v := 1) M d_M_fire_243 (by decide) ?_
            refine ax_iadd M d_M_fire_244 ?_
            refine sw_put M hG 0 0 (by decide) in_M t_M tok_M nok_M rfl rfl 19 (by decide) wd_423 rfl rfl rfl (Nat.le_of_ble_eq_true rfl) rfl d_M_fire_245 (fun h hG => ?_)
            obtain rfl := Option.some.inj E
            exact ax_vret M hR (by decide) (by decide) d_M_fire_248 ⟨rfl, hG⟩
        · have E := ob_t E c20
          refine ax_aload_n M d_M_fire_122 0 rfl ?_
          refine sw_get M hG 0 0 (by decide) in_M rfl rfl 23 (by decide) wd_427 rfl d_M_fire_123 ?_
          refine ax_iload_n M d_M_fire_126 1 rfl ?_
          refine sw_iald M hG 24 0 (by decide) rfl 0 rfl k2 d_M_fire_127 ?_
          refine ax_iload_n M d_M_fire_128 2 rfl ?_
          refine ax_iadd M d_M_fire_129 ?_
          refine ax_goto (tgt := 134) M d_M_fire_130 (by decide) ?_
          refine sw_iast M hG 24 0 (by decide) rfl 0 rfl k2 rfl d_M_fire_134 (fun h hG => ?_)
          refine ax_aload_n M d_M_fire_135 0 rfl ?_
          refine sw_get M hG 0 0 (by decide) in_M rfl rfl 22 (by decide) wd_426 rfl d_M_fire_136 ?_
          refine ax_iload_n M d_M_fire_139 1 rfl ?_
          refine ax_iload_n M d_M_fire_140 3 rfl ?_
          refine sw_iast M hG 23 0 (by decide) rfl 0 rfl k2 rfl d_M_fire_141 (fun h hG => ?_)
          refine ax_iconst (v := 0) M d_M_fire_142 (by decide) ?_
          refine ax_istore (lv' := [(0, .ref (al 0 0)), (1, .int x1), (3, .int ((gi r1.1 3 0 (ix x1)) * r1.2.1)), (4, .int 0)]) M d_M_fire_143 (by decide) [1, 2, 4, 0] rfl ?_
          refine ax_lv (lv' := [(0, .ref (al 0 0)), (1, .int x1), (3, .int ((gi r1.1 3 0 (ix x1)) * r1.2.1)), (4, .int 0)]) [0, 1, 2, 3] rfl ?_
          obtain ⟨r12, l13, E⟩ := ob_b E
          refine lp_walk (fun (s12 : ST × Int32) => ∀ h : AH, SW dmM (cfM cc) al s12.1 h0 h → AW l D vwCl rm_M_fire 6 X 0 0 h 145 [(0, .ref (al 0 0)), (1, .int x1), (3, .int ((gi r1.1 3 0 (ix x1)) * r1.2.1)), (4, .int s12.2)] []) (fun (r12 : ST × Int32) => ∀ h : AH, SW dmM (cfM cc) al r12.1 h0 h → AW l D vwCl rm_M_fire 6 X 0 0 h 238 [(0, .ref (al 0 0)), (1, .int x1), (3, .int ((gi r1.1 3 0 (ix x1)) * r1.2.1)), (4, .int r12.2)] []) ?_ _ _ _ l13 ?_ h hG
          · intro s12 y12 E K23 K24 h hG
            refine ax_iload M d_M_fire_145 3 rfl ?_
            refine ax_aload_n M d_M_fire_147 0 rfl ?_
            refine sw_get M hG 0 0 (by decide) in_M rfl rfl 8 (by decide) wd_412 rfl d_M_fire_148 ?_
            refine ax_icmp_ge (tgt := 238) M d_M_fire_151 (by decide) (fun c24 => ?_) (fun c24 => ?_)
            · have E := ob_t E c24
              obtain rfl := Option.some.inj E
              refine ax_lv (lv' := [(0, .ref (al 0 0)), (1, .int x1), (3, .int ((gi r1.1 3 0 (ix x1)) * r1.2.1)), (4, .int s12.2)]) [0, 1, 2, 3] rfl ?_
              exact (K24 _ rfl) h hG
            · have E := ob_f E c24
              refine ax_aload_n M d_M_fire_154 0 rfl ?_
              refine sw_get M hG 0 0 (by decide) in_M rfl rfl 3 (by decide) wd_407 rfl d_M_fire_155 ?_
              refine ax_iload M d_M_fire_158 3 rfl ?_
              obtain ⟨k23, E⟩ := ob_c E
              refine sw_iald M hG 4 0 (by decide) rfl 0 rfl k23 d_M_fire_160 ?_
              refine ax_iload_n M d_M_fire_161 1 rfl ?_
              refine ax_icmp_eq (tgt := 168) M d_M_fire_162 (by decide) (fun c25 => ?_) (fun c25 => ?_)
              · have E := ob_t E c25
                refine ax_iconst (v := 0) M d_M_fire_168 (by decide) ?_
                refine ax_istore (lv' := [(0, .ref (al 0 0)), (1, .int x1), (3, .int ((gi r1.1 3 0 (ix x1)) * r1.2.1)), (4, .int s12.2), (5, .int 0)]) M d_M_fire_169 (by decide) [1, 2, 3, 4, 0] rfl ?_
                refine ax_lv (lv' := [(0, .ref (al 0 0)), (1, .int x1), (3, .int ((gi r1.1 3 0 (ix x1)) * r1.2.1)), (4, .int s12.2), (5, .int 0)]) [0, 1, 2, 3, 4] rfl ?_
                obtain ⟨r13, l12, E⟩ := ob_b E
                refine lp_walk (fun (s13 : ST × Int32) => ∀ h : AH, SW dmM (cfM cc) al s13.1 h0 h → AW l D vwCl rm_M_fire 6 X 0 0 h 171 [(0, .ref (al 0 0)), (1, .int x1), (3, .int ((gi r1.1 3 0 (ix x1)) * r1.2.1)), (4, .int s12.2), (5, .int s13.2)] []) (fun (r13 : ST × Int32) => ∀ h : AH, SW dmM (cfM cc) al r13.1 h0 h → AW l D vwCl rm_M_fire 6 X 0 0 h 215 [(0, .ref (al 0 0)), (1, .int x1), (3, .int ((gi r1.1 3 0 (ix x1)) * r1.2.1)), (4, .int s12.2), (5, .int r13.2)] []) ?_ _ _ _ l12 ?_ h hG
                · intro s13 y13 E K25 K26 h hG
                  refine ax_iload M d_M_fire_171 4 rfl ?_
                  refine ax_aload_n M d_M_fire_173 0 rfl ?_
                  refine sw_get M hG 0 0 (by decide) in_M rfl rfl 5 (by decide) wd_409 rfl d_M_fire_174 ?_
                  refine ax_iload M d_M_fire_177 3 rfl ?_
                  refine sw_iald M hG 6 0 (by decide) rfl 0 rfl k23 d_M_fire_179 ?_
                  refine ax_icmp_ge (tgt := 215) M d_M_fire_180 (by decide) (fun c26 => ?_) (fun c26 => ?_)
                  · have E := ob_t E c26
                    obtain rfl := Option.some.inj E
                    refine ax_lv (lv' := [(0, .ref (al 0 0)), (1, .int x1), (3, .int ((gi r1.1 3 0 (ix x1)) * r1.2.1)), (4, .int s12.2), (5, .int s13.2)]) [0, 1, 2, 3, 4] rfl ?_
                    exact (K26 _ rfl) h hG
                  · have E := ob_f E c26
                    refine ax_aload_n M d_M_fire_183 0 rfl ?_
                    refine sw_get M hG 0 0 (by decide) in_M rfl rfl 20 (by decide) wd_424 rfl d_M_fire_184 ?_
                    refine ax_iload M d_M_fire_187 3 rfl ?_
                    refine ax_sipush (v := 400) M d_M_fire_189 (by decide) ?_
                    refine ax_imul M d_M_fire_192 ?_
                    refine ax_aload_n M d_M_fire_193 0 rfl ?_
                    refine sw_get M hG 0 0 (by decide) in_M rfl rfl 21 (by decide) wd_425 rfl d_M_fire_194 ?_
                    refine ax_iload M d_M_fire_197 3 rfl ?_
                    obtain ⟨k24, E⟩ := ob_c E
                    refine sw_iald M hG 22 0 (by decide) rfl 0 rfl k24 d_M_fire_199 ?_
                    refine ax_iadd M d_M_fire_200 ?_
                    refine ax_iload M d_M_fire_201 4 rfl ?_
                    refine ax_iadd M d_M_fire_203 ?_
                    refine ax_iload_n M d_M_fire_204 2 rfl ?_
                    refine ax_iload M d_M_fire_205 4 rfl ?_
                    refine ax_iadd M d_M_fire_207 ?_
                    obtain ⟨k25, E⟩ := ob_c E
                    refine sw_iast M hG 21 0 (by decide) rfl 0 rfl k25 rfl d_M_fire_208 (fun h hG => ?_)
                    refine ax_iinc (v := s13.2 + 1) (lv' := [(0, .ref (al 0 0)), (1, .int x1), (3, .int ((gi r1.1 3 0 (ix x1)) * r1.2.1)), (4, .int s12.2), (5, .int (s13.2 + 1))]) M d_M_fire_209 4 rfl rfl (by decide) [1, 2, 3, 4, 0] rfl ?_
                    refine ax_goto (tgt := 171) M d_M_fire_212 (by decide) ?_
                    obtain rfl := Option.some.inj E
                    refine ax_lv (lv' := [(0, .ref (al 0 0)), (1, .int x1), (3, .int ((gi r1.1 3 0 (ix x1)) * r1.2.1)), (4, .int s12.2), (5, .int (s13.2 + 1))]) [0, 1, 2, 3, 4] rfl ?_
                    exact K25 _ rfl h hG
                · intro h hG
                  refine ax_aload_n M d_M_fire_215 0 rfl ?_
                  refine sw_get M hG 0 0 (by decide) in_M rfl rfl 21 (by decide) wd_425 rfl d_M_fire_216 ?_
                  refine ax_iload M d_M_fire_219 3 rfl ?_
                  refine ax_dup2 M d_M_fire_221 rfl rfl ?_
                  obtain ⟨k26, E⟩ := ob_c E
                  refine sw_iald M hG 22 0 (by decide) rfl 0 rfl k26 d_M_fire_222 ?_
                  refine ax_aload_n M d_M_fire_223 0 rfl ?_
                  refine sw_get M hG 0 0 (by decide) in_M rfl rfl 5 (by decide) wd_409 rfl d_M_fire_224 ?_
                  refine ax_iload M d_M_fire_227 3 rfl ?_
                  refine sw_iald M hG 6 0 (by decide) rfl 0 rfl k23 d_M_fire_229 ?_
                  refine ax_iadd M d_M_fire_230 ?_
                  refine sw_iast M hG 22 0 (by decide) rfl 0 rfl k26 rfl d_M_fire_231 (fun h hG => ?_)
                  refine ax_iinc (v := s12.2 + 1) (lv' := [(0, .ref (al 0 0)), (1, .int x1), (3, .int ((gi r1.1 3 0 (ix x1)) * r1.2.1)), (4, .int (s12.2 + 1)), (5, .int r13.2)]) M d_M_fire_232 3 rfl rfl (by decide) [1, 2, 3, 0, 4] rfl ?_
                  refine ax_goto (tgt := 145) M d_M_fire_235 (by decide) ?_
                  obtain rfl := Option.some.inj E
                  refine ax_lv (lv' := [(0, .ref (al 0 0)), (1, .int x1), (3, .int ((gi r1.1 3 0 (ix x1)) * r1.2.1)), (4, .int (s12.2 + 1))]) [0, 1, 2, 3] rfl ?_
                  exact K23 _ rfl h hG
              · have E := ob_f E c25
                refine ax_goto (tgt := 232) M d_M_fire_165 (by decide) ?_
                refine ax_iinc (v := s12.2 + 1) (lv' := [(0, .ref (al 0 0)), (1, .int x1), (3, .int ((gi r1.1 3 0 (ix x1)) * r1.2.1)), (4, .int (s12.2 + 1))]) M d_M_fire_232 3 rfl rfl (by decide) [1, 2, 3, 0] rfl ?_
                refine ax_goto (tgt := 145) M d_M_fire_235 (by decide) ?_
                obtain rfl := Option.some.inj E
                refine ax_lv (lv' := [(0, .ref (al 0 0)), (1, .int x1), (3, .int ((gi r1.1 3 0 (ix x1)) * r1.2.1)), (4, .int (s12.2 + 1))]) [0, 1, 2, 3] rfl ?_
                exact K23 _ rfl h hG
          · intro h hG
            refine ax_aload_n M d_M_fire_238 0 rfl ?_
            refine ax_dup M d_M_fire_239 rfl ?_
            refine sw_get M hG 0 0 (by decide) in_M rfl rfl 19 (by decide) wd_423 rfl d_M_fire_240 ?_
            refine ax_iconst (v := 1) M d_M_fire_243 (by decide) ?_
            refine ax_iadd M d_M_fire_244 ?_
            refine sw_put M hG 0 0 (by decide) in_M t_M tok_M nok_M rfl rfl 19 (by decide) wd_423 rfl rfl rfl (Nat.le_of_ble_eq_true rfl) rfl d_M_fire_245 (fun h hG => ?_)
            obtain rfl := Option.some.inj E
            exact ax_vret M hR (by decide) (by decide) d_M_fire_248 ⟨rfl, hG⟩
    · have E := ob_t E c3
      refine ax_aload_n M d_M_fire_45 0 rfl ?_
      refine sw_get M hG 0 0 (by decide) in_M rfl rfl 2 (by decide) wd_406 rfl d_M_fire_46 ?_
      refine ax_iload_n M d_M_fire_49 1 rfl ?_
      refine sw_iald M hG 3 0 (by decide) rfl 0 rfl k2 d_M_fire_50 ?_
      refine ax_iload_n M d_M_fire_51 2 rfl ?_
      refine ax_iadd M d_M_fire_52 ?_
      refine ax_goto (tgt := 106) M d_M_fire_53 (by decide) ?_
      refine ax_istore_n (lv' := [(0, .ref (al 0 0)), (1, .int x1), (2, .int r1.2.1), (3, .int ((gi r1.1 3 0 (ix x1)) + r1.2.1))]) M d_M_fire_106 (by decide) [1, 2, 3, 0] rfl ?_
      refine ax_aload_n M d_M_fire_107 0 rfl ?_
      refine sw_get M hG 0 0 (by decide) in_M rfl rfl 23 (by decide) wd_427 rfl d_M_fire_108 ?_
      refine ax_iload_n M d_M_fire_111 1 rfl ?_
      refine ax_aload_n M d_M_fire_112 0 rfl ?_
      refine sw_get M hG 0 0 (by decide) in_M rfl rfl 1 (by decide) wd_405 rfl d_M_fire_113 ?_
      refine ax_iload_n M d_M_fire_116 1 rfl ?_
      refine sw_iald M hG 2 0 (by decide) rfl 0 rfl k2 d_M_fire_117 ?_
      refine ax_iconst (v := 2) M d_M_fire_118 (by decide) ?_
      refine ax_icmp_ne (tgt := 133) M d_M_fire_119 (by decide) (fun c27 => ?_) (fun c27 => ?_)
      · have E := ob_f E c27
        refine ax_iload_n M d_M_fire_133 2 rfl ?_
        refine sw_iast M hG 24 0 (by decide) rfl 0 rfl k2 rfl d_M_fire_134 (fun h hG => ?_)
        refine ax_aload_n M d_M_fire_135 0 rfl ?_
        refine sw_get M hG 0 0 (by decide) in_M rfl rfl 22 (by decide) wd_426 rfl d_M_fire_136 ?_
        refine ax_iload_n M d_M_fire_139 1 rfl ?_
        refine ax_iload_n M d_M_fire_140 3 rfl ?_
        refine sw_iast M hG 23 0 (by decide) rfl 0 rfl k2 rfl d_M_fire_141 (fun h hG => ?_)
        refine ax_iconst (v := 0) M d_M_fire_142 (by decide) ?_
        refine ax_istore (lv' := [(0, .ref (al 0 0)), (1, .int x1), (3, .int ((gi r1.1 3 0 (ix x1)) + r1.2.1)), (4, .int 0)]) M d_M_fire_143 (by decide) [1, 2, 4, 0] rfl ?_
        refine ax_lv (lv' := [(0, .ref (al 0 0)), (1, .int x1), (3, .int ((gi r1.1 3 0 (ix x1)) + r1.2.1)), (4, .int 0)]) [0, 1, 2, 3] rfl ?_
        obtain ⟨r14, l15, E⟩ := ob_b E
        refine lp_walk (fun (s14 : ST × Int32) => ∀ h : AH, SW dmM (cfM cc) al s14.1 h0 h → AW l D vwCl rm_M_fire 6 X 0 0 h 145 [(0, .ref (al 0 0)), (1, .int x1), (3, .int ((gi r1.1 3 0 (ix x1)) + r1.2.1)), (4, .int s14.2)] []) (fun (r14 : ST × Int32) => ∀ h : AH, SW dmM (cfM cc) al r14.1 h0 h → AW l D vwCl rm_M_fire 6 X 0 0 h 238 [(0, .ref (al 0 0)), (1, .int x1), (3, .int ((gi r1.1 3 0 (ix x1)) + r1.2.1)), (4, .int r14.2)] []) ?_ _ _ _ l15 ?_ h hG
        · intro s14 y14 E K27 K28 h hG
          refine ax_iload M d_M_fire_145 3 rfl ?_
          refine ax_aload_n M d_M_fire_147 0 rfl ?_
          refine sw_get M hG 0 0 (by decide) in_M rfl rfl 8 (by decide) wd_412 rfl d_M_fire_148 ?_
          refine ax_icmp_ge (tgt := 238) M d_M_fire_151 (by decide) (fun c28 => ?_) (fun c28 => ?_)
          · have E := ob_t E c28
            obtain rfl := Option.some.inj E
            refine ax_lv (lv' := [(0, .ref (al 0 0)), (1, .int x1), (3, .int ((gi r1.1 3 0 (ix x1)) + r1.2.1)), (4, .int s14.2)]) [0, 1, 2, 3] rfl ?_
            exact (K28 _ rfl) h hG
          · have E := ob_f E c28
            refine ax_aload_n M d_M_fire_154 0 rfl ?_
            refine sw_get M hG 0 0 (by decide) in_M rfl rfl 3 (by decide) wd_407 rfl d_M_fire_155 ?_
            refine ax_iload M d_M_fire_158 3 rfl ?_
            obtain ⟨k27, E⟩ := ob_c E
            refine sw_iald M hG 4 0 (by decide) rfl 0 rfl k27 d_M_fire_160 ?_
            refine ax_iload_n M d_M_fire_161 1 rfl ?_
            refine ax_icmp_eq (tgt := 168) M d_M_fire_162 (by decide) (fun c29 => ?_) (fun c29 => ?_)
            · have E := ob_t E c29
              refine ax_iconst (v := 0) M d_M_fire_168 (by decide) ?_
              refine ax_istore (lv' := [(0, .ref (al 0 0)), (1, .int x1), (3, .int ((gi r1.1 3 0 (ix x1)) + r1.2.1)), (4, .int s14.2), (5, .int 0)]) M d_M_fire_169 (by decide) [1, 2, 3, 4, 0] rfl ?_
              refine ax_lv (lv' := [(0, .ref (al 0 0)), (1, .int x1), (3, .int ((gi r1.1 3 0 (ix x1)) + r1.2.1)), (4, .int s14.2), (5, .int 0)]) [0, 1, 2, 3, 4] rfl ?_
              obtain ⟨r15, l14, E⟩ := ob_b E
              refine lp_walk (fun (s15 : ST × Int32) => ∀ h : AH, SW dmM (cfM cc) al s15.1 h0 h → AW l D vwCl rm_M_fire 6 X 0 0 h 171 [(0, .ref (al 0 0)), (1, .int x1), (3, .int ((gi r1.1 3 0 (ix x1)) + r1.2.1)), (4, .int s14.2), (5, .int s15.2)] []) (fun (r15 : ST × Int32) => ∀ h : AH, SW dmM (cfM cc) al r15.1 h0 h → AW l D vwCl rm_M_fire 6 X 0 0 h 215 [(0, .ref (al 0 0)), (1, .int x1), (3, .int ((gi r1.1 3 0 (ix x1)) + r1.2.1)), (4, .int s14.2), (5, .int r15.2)] []) ?_ _ _ _ l14 ?_ h hG
              · intro s15 y15 E K29 K30 h hG
                refine ax_iload M d_M_fire_171 4 rfl ?_
                refine ax_aload_n M d_M_fire_173 0 rfl ?_
                refine sw_get M hG 0 0 (by decide) in_M rfl rfl 5 (by decide) wd_409 rfl d_M_fire_174 ?_
                refine ax_iload M d_M_fire_177 3 rfl ?_
                refine sw_iald M hG 6 0 (by decide) rfl 0 rfl k27 d_M_fire_179 ?_
                refine ax_icmp_ge (tgt := 215) M d_M_fire_180 (by decide) (fun c30 => ?_) (fun c30 => ?_)
                · have E := ob_t E c30
                  obtain rfl := Option.some.inj E
                  refine ax_lv (lv' := [(0, .ref (al 0 0)), (1, .int x1), (3, .int ((gi r1.1 3 0 (ix x1)) + r1.2.1)), (4, .int s14.2), (5, .int s15.2)]) [0, 1, 2, 3, 4] rfl ?_
                  exact (K30 _ rfl) h hG
                · have E := ob_f E c30
                  refine ax_aload_n M d_M_fire_183 0 rfl ?_
                  refine sw_get M hG 0 0 (by decide) in_M rfl rfl 20 (by decide) wd_424 rfl d_M_fire_184 ?_
                  refine ax_iload M d_M_fire_187 3 rfl ?_
                  refine ax_sipush (v := 400) M d_M_fire_189 (by decide) ?_
                  refine ax_imul M d_M_fire_192 ?_
                  refine ax_aload_n M d_M_fire_193 0 rfl ?_
                  refine sw_get M hG 0 0 (by decide) in_M rfl rfl 21 (by decide) wd_425 rfl d_M_fire_194 ?_
                  refine ax_iload M d_M_fire_197 3 rfl ?_
                  obtain ⟨k28, E⟩ := ob_c E
                  refine sw_iald M hG 22 0 (by decide) rfl 0 rfl k28 d_M_fire_199 ?_
                  refine ax_iadd M d_M_fire_200 ?_
                  refine ax_iload M d_M_fire_201 4 rfl ?_
                  refine ax_iadd M d_M_fire_203 ?_
                  refine ax_iload_n M d_M_fire_204 2 rfl ?_
                  refine ax_iload M d_M_fire_205 4 rfl ?_
                  refine ax_iadd M d_M_fire_207 ?_
                  obtain ⟨k29, E⟩ := ob_c E
                  refine sw_iast M hG 21 0 (by decide) rfl 0 rfl k29 rfl d_M_fire_208 (fun h hG => ?_)
                  refine ax_iinc (v := s15.2 + 1) (lv' := [(0, .ref (al 0 0)), (1, .int x1), (3, .int ((gi r1.1 3 0 (ix x1)) + r1.2.1)), (4, .int s14.2), (5, .int (s15.2 + 1))]) M d_M_fire_209 4 rfl rfl (by decide) [1, 2, 3, 4, 0] rfl ?_
                  refine ax_goto (tgt := 171) M d_M_fire_212 (by decide) ?_
                  obtain rfl := Option.some.inj E
                  refine ax_lv (lv' := [(0, .ref (al 0 0)), (1, .int x1), (3, .int ((gi r1.1 3 0 (ix x1)) + r1.2.1)), (4, .int s14.2), (5, .int (s15.2 + 1))]) [0, 1, 2, 3, 4] rfl ?_
                  exact K29 _ rfl h hG
              · intro h hG
                refine ax_aload_n M d_M_fire_215 0 rfl ?_
                refine sw_get M hG 0 0 (by decide) in_M rfl rfl 21 (by decide) wd_425 rfl d_M_fire_216 ?_
                refine ax_iload M d_M_fire_219 3 rfl ?_
                refine ax_dup2 M d_M_fire_221 rfl rfl ?_
                obtain ⟨k30, E⟩ := ob_c E
                refine sw_iald M hG 22 0 (by decide) rfl 0 rfl k30 d_M_fire_222 ?_
                refine ax_aload_n M d_M_fire_223 0 rfl ?_
                refine sw_get M hG 0 0 (by decide) in_M rfl rfl 5 (by decide) wd_409 rfl d_M_fire_224 ?_
                refine ax_iload M d_M_fire_227 3 rfl ?_
                refine sw_iald M hG 6 0 (by decide) rfl 0 rfl k27 d_M_fire_229 ?_
                refine ax_iadd M d_M_fire_230 ?_
                refine sw_iast M hG 22 0 (by decide) rfl 0 rfl k30 rfl d_M_fire_231 (fun h hG => ?_)
                refine ax_iinc (v := s14.2 + 1) (lv' := [(0, .ref (al 0 0)), (1, .int x1), (3, .int ((gi r1.1 3 0 (ix x1)) + r1.2.1)), (4, .int (s14.2 + 1)), (5, .int r15.2)]) M d_M_fire_232 3 rfl rfl (by decide) [1, 2, 3, 0, 4] rfl ?_
                refine ax_goto (tgt := 145) M d_M_fire_235 (by decide) ?_
                obtain rfl := Option.some.inj E
                refine ax_lv (lv' := [(0, .ref (al 0 0)), (1, .int x1), (3, .int ((gi r1.1 3 0 (ix x1)) + r1.2.1)), (4, .int (s14.2 + 1))]) [0, 1, 2, 3] rfl ?_
                exact K27 _ rfl h hG
            · have E := ob_f E c29
              refine ax_goto (tgt := 232) M d_M_fire_165 (by decide) ?_
              refine ax_iinc (v := s14.2 + 1) (lv' := [(0, .ref (al 0 0)), (1, .int x1), (3, .int ((gi r1.1 3 0 (ix x1)) + r1.2.1)), (4, .int (s14.2 + 1))]) M d_M_fire_232 3 rfl rfl (by decide) [1, 2, 3, 0] rfl ?_
              refine ax_goto (tgt := 145) M d_M_fire_235 (by decide) ?_
              obtain rfl := Option.some.inj E
              refine ax_lv (lv' := [(0, .ref (al 0 0)), (1, .int x1), (3, .int ((gi r1.1 3 0 (ix x1)) + r1.2.1)), (4, .int (s14.2 + 1))]) [0, 1, 2, 3] rfl ?_
              exact K27 _ rfl h hG
        · intro h hG
          refine ax_aload_n M d_M_fire_238 0 rfl ?_
          refine ax_dup M d_M_fire_239 rfl ?_
          refine sw_get M hG 0 0 (by decide) in_M rfl rfl 19 (by decide) wd_423 rfl d_M_fire_240 ?_
          refine ax_iconst (v := 1) M d_M_fire_243 (by decide) ?_
          refine ax_iadd M d_M_fire_244 ?_
          refine sw_put M hG 0 0 (by decide) in_M t_M tok_M nok_M rfl rfl 19 (by decide) wd_423 rfl rfl rfl (Nat.le_of_ble_eq_true rfl) rfl d_M_fire_245 (fun h hG => ?_)
          obtain rfl := Option.some.inj E
          exact ax_vret M hR (by decide) (by decide) d_M_fire_248 ⟨rfl, hG⟩
      · have E := ob_t E c27
        refine ax_aload_n M d_M_fire_122 0 rfl ?_
        refine sw_get M hG 0 0 (by decide) in_M rfl rfl 23 (by decide) wd_427 rfl d_M_fire_123 ?_
        refine ax_iload_n M d_M_fire_126 1 rfl ?_
        refine sw_iald M hG 24 0 (by decide) rfl 0 rfl k2 d_M_fire_127 ?_
        refine ax_iload_n M d_M_fire_128 2 rfl ?_
        refine ax_iadd M d_M_fire_129 ?_
        refine ax_goto (tgt := 134) M d_M_fire_130 (by decide) ?_
        refine sw_iast M hG 24 0 (by decide) rfl 0 rfl k2 rfl d_M_fire_134 (fun h hG => ?_)
        refine ax_aload_n M d_M_fire_135 0 rfl ?_
        refine sw_get M hG 0 0 (by decide) in_M rfl rfl 22 (by decide) wd_426 rfl d_M_fire_136 ?_
        refine ax_iload_n M d_M_fire_139 1 rfl ?_
        refine ax_iload_n M d_M_fire_140 3 rfl ?_
        refine sw_iast M hG 23 0 (by decide) rfl 0 rfl k2 rfl d_M_fire_141 (fun h hG => ?_)
        refine ax_iconst (v := 0) M d_M_fire_142 (by decide) ?_
        refine ax_istore (lv' := [(0, .ref (al 0 0)), (1, .int x1), (3, .int ((gi r1.1 3 0 (ix x1)) + r1.2.1)), (4, .int 0)]) M d_M_fire_143 (by decide) [1, 2, 4, 0] rfl ?_
        refine ax_lv (lv' := [(0, .ref (al 0 0)), (1, .int x1), (3, .int ((gi r1.1 3 0 (ix x1)) + r1.2.1)), (4, .int 0)]) [0, 1, 2, 3] rfl ?_
        obtain ⟨r16, l17, E⟩ := ob_b E
        refine lp_walk (fun (s16 : ST × Int32) => ∀ h : AH, SW dmM (cfM cc) al s16.1 h0 h → AW l D vwCl rm_M_fire 6 X 0 0 h 145 [(0, .ref (al 0 0)), (1, .int x1), (3, .int ((gi r1.1 3 0 (ix x1)) + r1.2.1)), (4, .int s16.2)] []) (fun (r16 : ST × Int32) => ∀ h : AH, SW dmM (cfM cc) al r16.1 h0 h → AW l D vwCl rm_M_fire 6 X 0 0 h 238 [(0, .ref (al 0 0)), (1, .int x1), (3, .int ((gi r1.1 3 0 (ix x1)) + r1.2.1)), (4, .int r16.2)] []) ?_ _ _ _ l17 ?_ h hG
        · intro s16 y16 E K31 K32 h hG
          refine ax_iload M d_M_fire_145 3 rfl ?_
          refine ax_aload_n M d_M_fire_147 0 rfl ?_
          refine sw_get M hG 0 0 (by decide) in_M rfl rfl 8 (by decide) wd_412 rfl d_M_fire_148 ?_
          refine ax_icmp_ge (tgt := 238) M d_M_fire_151 (by decide) (fun c31 => ?_) (fun c31 => ?_)
          · have E := ob_t E c31
            obtain rfl := Option.some.inj E
            refine ax_lv (lv' := [(0, .ref (al 0 0)), (1, .int x1), (3, .int ((gi r1.1 3 0 (ix x1)) + r1.2.1)), (4, .int s16.2)]) [0, 1, 2, 3] rfl ?_
            exact (K32 _ rfl) h hG
          · have E := ob_f E c31
            refine ax_aload_n M d_M_fire_154 0 rfl ?_
            refine sw_get M hG 0 0 (by decide) in_M rfl rfl 3 (by decide) wd_407 rfl d_M_fire_155 ?_
            refine ax_iload M d_M_fire_158 3 rfl ?_
            obtain ⟨k31, E⟩ := ob_c E
            refine sw_iald M hG 4 0 (by decide) rfl 0 rfl k31 d_M_fire_160 ?_
            refine ax_iload_n M d_M_fire_161 1 rfl ?_
            refine ax_icmp_eq (tgt := 168) M d_M_fire_162 (by decide) (fun c32 => ?_) (fun c32 => ?_)
            · have E := ob_t E c32
              refine ax_iconst (v := 0) M d_M_fire_168 (by decide) ?_
              refine ax_istore (lv' := [(0, .ref (al 0 0)), (1, .int x1), (3, .int ((gi r1.1 3 0 (ix x1)) + r1.2.1)), (4, .int s16.2), (5, .int 0)]) M d_M_fire_169 (by decide) [1, 2, 3, 4, 0] rfl ?_
              refine ax_lv (lv' := [(0, .ref (al 0 0)), (1, .int x1), (3, .int ((gi r1.1 3 0 (ix x1)) + r1.2.1)), (4, .int s16.2), (5, .int 0)]) [0, 1, 2, 3, 4] rfl ?_
              obtain ⟨r17, l16, E⟩ := ob_b E
              refine lp_walk (fun (s17 : ST × Int32) => ∀ h : AH, SW dmM (cfM cc) al s17.1 h0 h → AW l D vwCl rm_M_fire 6 X 0 0 h 171 [(0, .ref (al 0 0)), (1, .int x1), (3, .int ((gi r1.1 3 0 (ix x1)) + r1.2.1)), (4, .int s16.2), (5, .int s17.2)] []) (fun (r17 : ST × Int32) => ∀ h : AH, SW dmM (cfM cc) al r17.1 h0 h → AW l D vwCl rm_M_fire 6 X 0 0 h 215 [(0, .ref (al 0 0)), (1, .int x1), (3, .int ((gi r1.1 3 0 (ix x1)) + r1.2.1)), (4, .int s16.2), (5, .int r17.2)] []) ?_ _ _ _ l16 ?_ h hG
              · intro s17 y17 E K33 K34 h hG
                refine ax_iload M d_M_fire_171 4 rfl ?_
                refine ax_aload_n M d_M_fire_173 0 rfl ?_
                refine sw_get M hG 0 0 (by decide) in_M rfl rfl 5 (by decide) wd_409 rfl d_M_fire_174 ?_
                refine ax_iload M d_M_fire_177 3 rfl ?_
                refine sw_iald M hG 6 0 (by decide) rfl 0 rfl k31 d_M_fire_179 ?_
                refine ax_icmp_ge (tgt := 215) M d_M_fire_180 (by decide) (fun c33 => ?_) (fun c33 => ?_)
                · have E := ob_t E c33
                  obtain rfl := Option.some.inj E
                  refine ax_lv (lv' := [(0, .ref (al 0 0)), (1, .int x1), (3, .int ((gi r1.1 3 0 (ix x1)) + r1.2.1)), (4, .int s16.2), (5, .int s17.2)]) [0, 1, 2, 3, 4] rfl ?_
                  exact (K34 _ rfl) h hG
                · have E := ob_f E c33
                  refine ax_aload_n M d_M_fire_183 0 rfl ?_
                  refine sw_get M hG 0 0 (by decide) in_M rfl rfl 20 (by decide) wd_424 rfl d_M_fire_184 ?_
                  refine ax_iload M d_M_fire_187 3 rfl ?_
                  refine ax_sipush (v := 400) M d_M_fire_189 (by decide) ?_
                  refine ax_imul M d_M_fire_192 ?_
                  refine ax_aload_n M d_M_fire_193 0 rfl ?_
                  refine sw_get M hG 0 0 (by decide) in_M rfl rfl 21 (by decide) wd_425 rfl d_M_fire_194 ?_
                  refine ax_iload M d_M_fire_197 3 rfl ?_
                  obtain ⟨k32, E⟩ := ob_c E
                  refine sw_iald M hG 22 0 (by decide) rfl 0 rfl k32 d_M_fire_199 ?_
                  refine ax_iadd M d_M_fire_200 ?_
                  refine ax_iload M d_M_fire_201 4 rfl ?_
                  refine ax_iadd M d_M_fire_203 ?_
                  refine ax_iload_n M d_M_fire_204 2 rfl ?_
                  refine ax_iload M d_M_fire_205 4 rfl ?_
                  refine ax_iadd M d_M_fire_207 ?_
                  obtain ⟨k33, E⟩ := ob_c E
                  refine sw_iast M hG 21 0 (by decide) rfl 0 rfl k33 rfl d_M_fire_208 (fun h hG => ?_)
                  refine ax_iinc (v := s17.2 + 1) (lv' := [(0, .ref (al 0 0)), (1, .int x1), (3, .int ((gi r1.1 3 0 (ix x1)) + r1.2.1)), (4, .int s16.2), (5, .int (s17.2 + 1))]) M d_M_fire_209 4 rfl rfl (by decide) [1, 2, 3, 4, 0] rfl ?_
                  refine ax_goto (tgt := 171) M d_M_fire_212 (by decide) ?_
                  obtain rfl := Option.some.inj E
                  refine ax_lv (lv' := [(0, .ref (al 0 0)), (1, .int x1), (3, .int ((gi r1.1 3 0 (ix x1)) + r1.2.1)), (4, .int s16.2), (5, .int (s17.2 + 1))]) [0, 1, 2, 3, 4] rfl ?_
                  exact K33 _ rfl h hG
              · intro h hG
                refine ax_aload_n M d_M_fire_215 0 rfl ?_
                refine sw_get M hG 0 0 (by decide) in_M rfl rfl 21 (by decide) wd_425 rfl d_M_fire_216 ?_
                refine ax_iload M d_M_fire_219 3 rfl ?_
                refine ax_dup2 M d_M_fire_221 rfl rfl ?_
                obtain ⟨k34, E⟩ := ob_c E
                refine sw_iald M hG 22 0 (by decide) rfl 0 rfl k34 d_M_fire_222 ?_
                refine ax_aload_n M d_M_fire_223 0 rfl ?_
                refine sw_get M hG 0 0 (by decide) in_M rfl rfl 5 (by decide) wd_409 rfl d_M_fire_224 ?_
                refine ax_iload M d_M_fire_227 3 rfl ?_
                refine sw_iald M hG 6 0 (by decide) rfl 0 rfl k31 d_M_fire_229 ?_
                refine ax_iadd M d_M_fire_230 ?_
                refine sw_iast M hG 22 0 (by decide) rfl 0 rfl k34 rfl d_M_fire_231 (fun h hG => ?_)
                refine ax_iinc (v := s16.2 + 1) (lv' := [(0, .ref (al 0 0)), (1, .int x1), (3, .int ((gi r1.1 3 0 (ix x1)) + r1.2.1)), (4, .int (s16.2 + 1)), (5, .int r17.2)]) M d_M_fire_232 3 rfl rfl (by decide) [1, 2, 3, 0, 4] rfl ?_
                refine ax_goto (tgt := 145) M d_M_fire_235 (by decide) ?_
                obtain rfl := Option.some.inj E
                refine ax_lv (lv' := [(0, .ref (al 0 0)), (1, .int x1), (3, .int ((gi r1.1 3 0 (ix x1)) + r1.2.1)), (4, .int (s16.2 + 1))]) [0, 1, 2, 3] rfl ?_
                exact K31 _ rfl h hG
            · have E := ob_f E c32
              refine ax_goto (tgt := 232) M d_M_fire_165 (by decide) ?_
              refine ax_iinc (v := s16.2 + 1) (lv' := [(0, .ref (al 0 0)), (1, .int x1), (3, .int ((gi r1.1 3 0 (ix x1)) + r1.2.1)), (4, .int (s16.2 + 1))]) M d_M_fire_232 3 rfl rfl (by decide) [1, 2, 3, 0] rfl ?_
              refine ax_goto (tgt := 145) M d_M_fire_235 (by decide) ?_
              obtain rfl := Option.some.inj E
              refine ax_lv (lv' := [(0, .ref (al 0 0)), (1, .int x1), (3, .int ((gi r1.1 3 0 (ix x1)) + r1.2.1)), (4, .int (s16.2 + 1))]) [0, 1, 2, 3] rfl ?_
              exact K31 _ rfl h hG
        · intro h hG
          refine ax_aload_n M d_M_fire_238 0 rfl ?_
          refine ax_dup M d_M_fire_239 rfl ?_
          refine sw_get M hG 0 0 (by decide) in_M rfl rfl 19 (by decide) wd_423 rfl d_M_fire_240 ?_
          refine ax_iconst (v := 1) M d_M_fire_243 (by decide) ?_
          refine ax_iadd M d_M_fire_244 ?_
          refine sw_put M hG 0 0 (by decide) in_M t_M tok_M nok_M rfl rfl 19 (by decide) wd_423 rfl rfl rfl (Nat.le_of_ble_eq_true rfl) rfl d_M_fire_245 (fun h hG => ?_)
          obtain rfl := Option.some.inj E
          exact ax_vret M hR (by decide) (by decide) d_M_fire_248 ⟨rfl, hG⟩
