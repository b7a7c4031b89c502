def M_cut (σ : ST) (x1 : Int32) (x2 : Int32) (x3 : Int32) : Option (Int32) :=
  (lp (fun s1 : Int64 × Int32 =>
  if x3 < s1.2 then
  (some (.inr ((s1.1, s1.2)))) else
  (if inb s1.2 8 then 
  (if (gi σ 1 0 (ix s1.2)) = 0 then
  (some (.inl ((s1.1, s1.2 + 1)))) else
  ((M_gcd ((gi σ 14 0 (ix s1.2)).toInt64) s1.1).bind (fun b1 => 
  (some (.inl ((b1, s1.2 + 1))))))) else none)) 1000 ((0, x1))).bind (fun r1 : Int64 × Int32 =>
  (lp (fun s2 : Int32 × Int32 =>
  if (gi σ 0 0 8) ≤ s2.2 then
  (some (.inr ((s2.1, s2.2)))) else
  (if inb s2.2 13 then 
  (if (gi σ 4 0 (ix s2.2)) < x1 then
  (some (.inl ((s2.1, s2.2 + 1)))) else
  (if x2 < (gi σ 4 0 (ix s2.2)) then
  (some (.inl ((s2.1, s2.2 + 1)))) else
  (if (gi σ 5 0 (ix s2.2)) ≤ x2 then
  (some (.inl ((s2.1, s2.2 + 1)))) else
  (if x3 < (gi σ 5 0 (ix s2.2)) then
  (some (.inl ((s2.1, s2.2 + 1)))) else
  (if inb (gi σ 4 0 (ix s2.2)) 8 then 
  (if ¬ r1.1.toInt32 = 0 then 
  (some (.inl ((s2.1 + (((gi σ 6 0 (ix s2.2)) * (gi σ 14 0 (ix (gi σ 4 0 (ix s2.2))))) / r1.1.toInt32), s2.2 + 1)))) else none) else none))))) else none)) 1000 ((0, 0))).bind (fun r2 : Int32 × Int32 =>
  some r2.1))
abbrev rm_M_cut : Room := { frames := 1, cells := 0, slots := 0, locals := 29 }
set_option maxRecDepth 100000 in
set_option maxHeartbeats 4000000 in
theorem ac_M_cut {l : Launch} {D : va_G} {cc : Nat → ClassId} {al : Nat → Nat → Nat} {σ : ST} {h0 h : AH} {x1 : Int32} {x2 : Int32} {x3 : Int32} {res : Int32}  (hG : SW dmM (cfM cc) al σ h0 h) (E : M_cut σ x1 x2 x3 = some res) : AC l D vwCl (tysOf cc) NN y_M_cut (Cond.code y_M_cut b_M_cut 8 (some .int) :: TT) rm_M_cut [.ref (al 0 0), .int x1, .int x2, .int x3] h (fun rv h' => rv = some (.int res) ∧ SW dmM (cfM cc) al σ h0 h') := by
  refine AC.of (by decide) rfl (Nat.le_of_ble_eq_true rfl) (fun X M hR hI => ?_)
  unfold M_cut at E
  refine ax_lv (lv' := [(0, .ref (al 0 0)), (1, .int x1), (2, .int x2), (3, .int x3)]) [0, 1, 2, 3] rfl ?_
  refine ax_lconst (v := 0) M d_M_cut_0 (by decide) ?_
  refine ax_lstore (lv' := [(0, .ref (al 0 0)), (1, .int x1), (2, .int x2), (3, .int x3), (4, .long 0)]) M d_M_cut_1 (by decide) [1, 2, 3, 4, 0] rfl ?_
  refine ax_iload_n M d_M_cut_3 1 rfl ?_
  refine ax_istore (lv' := [(0, .ref (al 0 0)), (1, .int x1), (2, .int x2), (3, .int x3), (4, .long 0), (6, .int x1)]) M d_M_cut_4 (by decide) [1, 2, 3, 4, 5, 0] rfl ?_
  refine ax_lv (lv' := [(0, .ref (al 0 0)), (1, .int x1), (2, .int x2), (3, .int x3), (4, .long 0), (6, .int x1)]) [0, 1, 2, 3, 4, 5] rfl ?_
  obtain ⟨r1, l1, E⟩ := ob_b E
  refine lp_walk (fun (s1 : Int64 × Int32) => ∀ h : AH, SW dmM (cfM cc) al σ h0 h → AW l D vwCl rm_M_cut 8 X 0 0 h 6 [(0, .ref (al 0 0)), (1, .int x1), (2, .int x2), (3, .int x3), (4, .long s1.1), (6, .int s1.2)] []) (fun (r1 : Int64 × Int32) => ∀ h : AH, SW dmM (cfM cc) al σ h0 h → AW l D vwCl rm_M_cut 8 X 0 0 h 43 [(0, .ref (al 0 0)), (1, .int x1), (2, .int x2), (3, .int x3), (4, .long r1.1), (6, .int r1.2)] []) ?_ _ _ _ l1 ?_ h hG
  · intro s1 y1 E K1 K2 h hG
    refine ax_iload M d_M_cut_6 5 rfl ?_
    refine ax_iload_n M d_M_cut_8 3 rfl ?_
    refine ax_icmp_gt (tgt := 43) M d_M_cut_9 (by decide) (fun c1 => ?_) (fun c1 => ?_)
    · have E := ob_t E c1
      obtain rfl := Option.some.inj E
      refine ax_lv (lv' := [(0, .ref (al 0 0)), (1, .int x1), (2, .int x2), (3, .int x3), (4, .long s1.1), (6, .int s1.2)]) [0, 1, 2, 3, 4, 5] rfl ?_
      exact (K2 _ rfl) h hG
    · have E := ob_f E c1
      refine ax_aload_n M d_M_cut_12 0 rfl ?_
      refine sw_get M hG 0 0 (by decide) in_M rfl rfl 0 (by decide) wd_404 rfl d_M_cut_13 ?_
      refine ax_iload M d_M_cut_16 5 rfl ?_
      obtain ⟨k1, E⟩ := ob_c E
      refine sw_zald M hG 1 0 (by decide) rfl 4 rfl k1 d_M_cut_18 ?_
      refine ax_if_eq (tgt := 37) M d_M_cut_19 (by decide) (fun c2 => ?_) (fun c2 => ?_)
      · have E := ob_t E c2
        refine ax_iinc (v := s1.2 + 1) (lv' := [(0, .ref (al 0 0)), (1, .int x1), (2, .int x2), (3, .int x3), (4, .long s1.1), (6, .int (s1.2 + 1))]) M d_M_cut_37 5 rfl rfl (by decide) [1, 2, 3, 4, 5, 0] rfl ?_
        refine ax_goto (tgt := 6) M d_M_cut_40 (by decide) ?_
        obtain rfl := Option.some.inj E
        refine ax_lv (lv' := [(0, .ref (al 0 0)), (1, .int x1), (2, .int x2), (3, .int x3), (4, .long s1.1), (6, .int (s1.2 + 1))]) [0, 1, 2, 3, 4, 5] rfl ?_
        exact K1 _ rfl h hG
      · have E := ob_f E c2
        refine ax_aload_n M d_M_cut_22 0 rfl ?_
        refine sw_get M hG 0 0 (by decide) in_M rfl rfl 13 (by decide) wd_417 rfl d_M_cut_23 ?_
        refine ax_iload M d_M_cut_26 5 rfl ?_
        refine sw_iald M hG 14 0 (by decide) rfl 0 rfl k1 d_M_cut_28 ?_
        refine ax_i2l M d_M_cut_29 rfl ?_
        refine ax_lload M d_M_cut_30 4 rfl ?_
        obtain ⟨b1, e1, E⟩ := ob_b E
        refine ax_callS (n := 2) M TT_good (ac_M_gcd hG e1) lm_M_87 (by decide) (by decide) rfl rfl (Nat.le_of_ble_eq_true rfl) d_M_cut_32 (by decide) (c1 := 0) (s1 := 0) (by decide) (ax_ret_l (fun h hG => ?_))
        refine ax_lstore (lv' := [(0, .ref (al 0 0)), (1, .int x1), (2, .int x2), (3, .int x3), (4, .long b1), (6, .int s1.2)]) M d_M_cut_35 (by decide) [1, 2, 3, 4, 0, 5] rfl ?_
        refine ax_iinc (v := s1.2 + 1) (lv' := [(0, .ref (al 0 0)), (1, .int x1), (2, .int x2), (3, .int x3), (4, .long b1), (6, .int (s1.2 + 1))]) M d_M_cut_37 5 rfl rfl (by decide) [1, 2, 3, 4, 5, 0] rfl ?_
        refine ax_goto (tgt := 6) M d_M_cut_40 (by decide) ?_
        obtain rfl := Option.some.inj E
        refine ax_lv (lv' := [(0, .ref (al 0 0)), (1, .int x1), (2, .int x2), (3, .int x3), (4, .long b1), (6, .int (s1.2 + 1))]) [0, 1, 2, 3, 4, 5] rfl ?_
        exact K1 _ rfl h hG
  · intro h hG
    refine ax_iconst (v := 0) M d_M_cut_43 (by decide) ?_
    refine ax_istore (lv' := [(0, .ref (al 0 0)), (1, .int x1), (2, .int x2), (3, .int x3), (4, .long r1.1), (6, .int 0)]) M d_M_cut_44 (by decide) [1, 2, 3, 4, 5, 0] rfl ?_
    refine ax_iconst (v := 0) M d_M_cut_46 (by decide) ?_
    refine ax_istore (lv' := [(0, .ref (al 0 0)), (1, .int x1), (2, .int x2), (3, .int x3), (4, .long r1.1), (6, .int 0), (7, .int 0)]) M d_M_cut_47 (by decide) [1, 2, 3, 4, 5, 6, 0] rfl ?_
    refine ax_lv (lv' := [(0, .ref (al 0 0)), (1, .int x1), (2, .int x2), (3, .int x3), (4, .long r1.1), (6, .int 0), (7, .int 0)]) [0, 1, 2, 3, 4, 5, 6] rfl ?_
    obtain ⟨r2, l2, E⟩ := ob_b E
    refine lp_walk (fun (s2 : Int32 × Int32) => ∀ h : AH, SW dmM (cfM cc) al σ h0 h → AW l D vwCl rm_M_cut 8 X 0 0 h 49 [(0, .ref (al 0 0)), (1, .int x1), (2, .int x2), (3, .int x3), (4, .long r1.1), (6, .int s2.1), (7, .int s2.2)] []) (fun (r2 : Int32 × Int32) => ∀ h : AH, SW dmM (cfM cc) al σ h0 h → AW l D vwCl rm_M_cut 8 X 0 0 h 137 [(0, .ref (al 0 0)), (1, .int x1), (2, .int x2), (3, .int x3), (4, .long r1.1), (6, .int r2.1), (7, .int r2.2)] []) ?_ _ _ _ l2 ?_ h hG
    · intro s2 y2 E K3 K4 h hG
      refine ax_iload M d_M_cut_49 6 rfl ?_
      refine ax_aload_n M d_M_cut_51 0 rfl ?_
      refine sw_get M hG 0 0 (by decide) in_M rfl rfl 8 (by decide) wd_412 rfl d_M_cut_52 ?_
      refine ax_icmp_ge (tgt := 137) M d_M_cut_55 (by decide) (fun c3 => ?_) (fun c3 => ?_)
      · have E := ob_t E c3
        obtain rfl := Option.some.inj E
        refine ax_lv (lv' := [(0, .ref (al 0 0)), (1, .int x1), (2, .int x2), (3, .int x3), (4, .long r1.1), (6, .int s2.1), (7, .int s2.2)]) [0, 1, 2, 3, 4, 5, 6] rfl ?_
        exact (K4 _ rfl) h hG
      · have E := ob_f E c3
        refine ax_aload_n M d_M_cut_58 0 rfl ?_
        refine sw_get M hG 0 0 (by decide) in_M rfl rfl 3 (by decide) wd_407 rfl d_M_cut_59 ?_
        refine ax_iload M d_M_cut_62 6 rfl ?_
        obtain ⟨k2, E⟩ := ob_c E
        refine sw_iald M hG 4 0 (by decide) rfl 0 rfl k2 d_M_cut_64 ?_
        refine ax_iload_n M d_M_cut_65 1 rfl ?_
        refine ax_icmp_lt (tgt := 131) M d_M_cut_66 (by decide) (fun c4 => ?_) (fun c4 => ?_)
        · have E := ob_t E c4
          refine ax_iinc (v := s2.2 + 1) (lv' := [(0, .ref (al 0 0)), (1, .int x1), (2, .int x2), (3, .int x3), (4, .long r1.1), (6, .int s2.1), (7, .int (s2.2 + 1))]) M d_M_cut_131 6 rfl rfl (by decide) [1, 2, 3, 4, 5, 6, 0] rfl ?_
          refine ax_goto (tgt := 49) M d_M_cut_134 (by decide) ?_
          obtain rfl := Option.some.inj E
          refine ax_lv (lv' := [(0, .ref (al 0 0)), (1, .int x1), (2, .int x2), (3, .int x3), (4, .long r1.1), (6, .int s2.1), (7, .int (s2.2 + 1))]) [0, 1, 2, 3, 4, 5, 6] rfl ?_
          exact K3 _ rfl h hG
        · have E := ob_f E c4
          refine ax_aload_n M d_M_cut_69 0 rfl ?_
          refine sw_get M hG 0 0 (by decide) in_M rfl rfl 3 (by decide) wd_407 rfl d_M_cut_70 ?_
          refine ax_iload M d_M_cut_73 6 rfl ?_
          refine sw_iald M hG 4 0 (by decide) rfl 0 rfl k2 d_M_cut_75 ?_
          refine ax_iload_n M d_M_cut_76 2 rfl ?_
          refine ax_icmp_gt (tgt := 131) M d_M_cut_77 (by decide) (fun c5 => ?_) (fun c5 => ?_)
          · have E := ob_t E c5
            refine ax_iinc (v := s2.2 + 1) (lv' := [(0, .ref (al 0 0)), (1, .int x1), (2, .int x2), (3, .int x3), (4, .long r1.1), (6, .int s2.1), (7, .int (s2.2 + 1))]) M d_M_cut_131 6 rfl rfl (by decide) [1, 2, 3, 4, 5, 6, 0] rfl ?_
            refine ax_goto (tgt := 49) M d_M_cut_134 (by decide) ?_
            obtain rfl := Option.some.inj E
            refine ax_lv (lv' := [(0, .ref (al 0 0)), (1, .int x1), (2, .int x2), (3, .int x3), (4, .long r1.1), (6, .int s2.1), (7, .int (s2.2 + 1))]) [0, 1, 2, 3, 4, 5, 6] rfl ?_
            exact K3 _ rfl h hG
          · have E := ob_f E c5
            refine ax_aload_n M d_M_cut_80 0 rfl ?_
            refine sw_get M hG 0 0 (by decide) in_M rfl rfl 4 (by decide) wd_408 rfl d_M_cut_81 ?_
            refine ax_iload M d_M_cut_84 6 rfl ?_
            refine sw_iald M hG 5 0 (by decide) rfl 0 rfl k2 d_M_cut_86 ?_
            refine ax_iload_n M d_M_cut_87 2 rfl ?_
            refine ax_icmp_le (tgt := 131) M d_M_cut_88 (by decide) (fun c6 => ?_) (fun c6 => ?_)
            · have E := ob_t E c6
              refine ax_iinc (v := s2.2 + 1) (lv' := [(0, .ref (al 0 0)), (1, .int x1), (2, .int x2), (3, .int x3), (4, .long r1.1), (6, .int s2.1), (7, .int (s2.2 + 1))]) M d_M_cut_131 6 rfl rfl (by decide) [1, 2, 3, 4, 5, 6, 0] rfl ?_
              refine ax_goto (tgt := 49) M d_M_cut_134 (by decide) ?_
              obtain rfl := Option.some.inj E
              refine ax_lv (lv' := [(0, .ref (al 0 0)), (1, .int x1), (2, .int x2), (3, .int x3), (4, .long r1.1), (6, .int s2.1), (7, .int (s2.2 + 1))]) [0, 1, 2, 3, 4, 5, 6] rfl ?_
              exact K3 _ rfl h hG
            · have E := ob_f E c6
              refine ax_aload_n M d_M_cut_91 0 rfl ?_
              refine sw_get M hG 0 0 (by decide) in_M rfl rfl 4 (by decide) wd_408 rfl d_M_cut_92 ?_
              refine ax_iload M d_M_cut_95 6 rfl ?_
              refine sw_iald M hG 5 0 (by decide) rfl 0 rfl k2 d_M_cut_97 ?_
              refine ax_iload_n M d_M_cut_98 3 rfl ?_
              refine ax_icmp_gt (tgt := 131) M d_M_cut_99 (by decide) (fun c7 => ?_) (fun c7 => ?_)
              · have E := ob_t E c7
                refine ax_iinc (v := s2.2 + 1) (lv' := [(0, .ref (al 0 0)), (1, .int x1), (2, .int x2), (3, .int x3), (4, .long r1.1), (6, .int s2.1), (7, .int (s2.2 + 1))]) M d_M_cut_131 6 rfl rfl (by decide) [1, 2, 3, 4, 5, 6, 0] rfl ?_
                refine ax_goto (tgt := 49) M d_M_cut_134 (by decide) ?_
                obtain rfl := Option.some.inj E
                refine ax_lv (lv' := [(0, .ref (al 0 0)), (1, .int x1), (2, .int x2), (3, .int x3), (4, .long r1.1), (6, .int s2.1), (7, .int (s2.2 + 1))]) [0, 1, 2, 3, 4, 5, 6] rfl ?_
                exact K3 _ rfl h hG
              · have E := ob_f E c7
                refine ax_iload M d_M_cut_102 5 rfl ?_
                refine ax_aload_n M d_M_cut_104 0 rfl ?_
                refine sw_get M hG 0 0 (by decide) in_M rfl rfl 5 (by decide) wd_409 rfl d_M_cut_105 ?_
                refine ax_iload M d_M_cut_108 6 rfl ?_
                refine sw_iald M hG 6 0 (by decide) rfl 0 rfl k2 d_M_cut_110 ?_
                refine ax_aload_n M d_M_cut_111 0 rfl ?_
                refine sw_get M hG 0 0 (by decide) in_M rfl rfl 13 (by decide) wd_417 rfl d_M_cut_112 ?_
                refine ax_aload_n M d_M_cut_115 0 rfl ?_
                refine sw_get M hG 0 0 (by decide) in_M rfl rfl 3 (by decide) wd_407 rfl d_M_cut_116 ?_
                refine ax_iload M d_M_cut_119 6 rfl ?_
                refine sw_iald M hG 4 0 (by decide) rfl 0 rfl k2 d_M_cut_121 ?_
                obtain ⟨k3, E⟩ := ob_c E
                refine sw_iald M hG 14 0 (by decide) rfl 0 rfl k3 d_M_cut_122 ?_
                refine ax_imul M d_M_cut_123 ?_
                refine ax_lload M d_M_cut_124 4 rfl ?_
                refine ax_l2i M d_M_cut_126 rfl ?_
                obtain ⟨k4, E⟩ := ob_c E
                refine ax_idiv M d_M_cut_127 k4 ?_
                refine ax_iadd M d_M_cut_128 ?_
                refine ax_istore (lv' := [(0, .ref (al 0 0)), (1, .int x1), (2, .int x2), (3, .int x3), (4, .long r1.1), (6, .int (s2.1 + (((gi σ 6 0 (ix s2.2)) * (gi σ 14 0 (ix (gi σ 4 0 (ix s2.2))))) / r1.1.toInt32))), (7, .int s2.2)]) M d_M_cut_129 (by decide) [1, 2, 3, 4, 5, 0, 6] rfl ?_
                refine ax_iinc (v := s2.2 + 1) (lv' := [(0, .ref (al 0 0)), (1, .int x1), (2, .int x2), (3, .int x3), (4, .long r1.1), (6, .int (s2.1 + (((gi σ 6 0 (ix s2.2)) * (gi σ 14 0 (ix (gi σ 4 0 (ix s2.2))))) / r1.1.toInt32))), (7, .int (s2.2 + 1))]) M d_M_cut_131 6 rfl rfl (by decide) [1, 2, 3, 4, 5, 6, 0] rfl ?_
                refine ax_goto (tgt := 49) M d_M_cut_134 (by decide) ?_
                obtain rfl := Option.some.inj E
                refine ax_lv (lv' := [(0, .ref (al 0 0)), (1, .int x1), (2, .int x2), (3, .int x3), (4, .long r1.1), (6, .int (s2.1 + (((gi σ 6 0 (ix s2.2)) * (gi σ 14 0 (ix (gi σ 4 0 (ix s2.2))))) / r1.1.toInt32))), (7, .int (s2.2 + 1))]) [0, 1, 2, 3, 4, 5, 6] rfl ?_
                exact K3 _ rfl h hG
    · intro h hG
      refine ax_iload M d_M_cut_137 5 rfl ?_
      obtain rfl := Option.some.inj E
      exact ax_iret M hR (by decide) (by decide) d_M_cut_139 ⟨rfl, hG⟩
def M_nested (σ : ST) : Option (Int32 × ST) :=
  if (gi σ 0 0 9) = 0 then
  (some ((-4, σ))) else
  ((lp (fun s1 : Int32 =>
  if (gi σ 0 0 8) ≤ s1 then
  (some (.inr (.inl s1))) else
  (if inb s1 13 then 
  (if (gi σ 4 0 (ix s1)) = (gi σ 5 0 (ix s1)) then
  (some (.inl (s1 + 1))) else
  (if (gi σ 5 0 (ix s1)) < (gi σ 4 0 (ix s1)) then
  (some (.inr (.inr ((-4, σ))))) else
  (if (gi σ 8 0 (ix s1)) ≤ 0 then
  (some (.inl (s1 + 1))) else
  (some (.inr (.inr ((-4, σ)))))))) else none)) 1000 0).bind (fun r1 : (Int32) ⊕ (Int32 × ST) => Sum.elim (fun o1 : Int32 =>
  ((lp (fun s2 : Int32 =>
  if inb s2 8 then 
  (if (gi σ 1 0 (ix s2)) = 0 then
  (some (.inl (s2 + 1))) else
  (some (.inr s2))) else none) 1000 0).bind (fun r2 : Int32 =>
  (lp (fun s3 : Int32 =>
  if inb s3 8 then 
  (if (gi σ 1 0 (ix s3)) = 0 then
  (some (.inl (s3 + -1))) else
  (some (.inr s3))) else none) 1000 7).bind (fun r3 : Int32 =>
  (lp (fun s4 : ST × Int32 =>
  if ((r3 - r2) + 1) < s4.2 then
  (some (.inr ((s4.1, s4.2)))) else
  ((lp (fun s5 : ST × Int32 =>
  if r3 < ((s5.2 + s4.2) - 1) then
  (some (.inr ((s5.1, s5.2)))) else
  ((lp (fun s6 : Int32 × Int32 =>
  if ((s5.2 + s4.2) - 1) ≤ s6.2 then
  (some (.inr ((s6.1, s6.2)))) else
  (if inb s5.2 8 then 
  (if (gi s5.1 1 0 (ix s5.2)) = 0 then
  (some (.inr ((s6.1, s6.2)))) else
  (if inb ((s5.2 + s4.2) - 1) 8 then 
  (if (gi s5.1 1 0 (ix ((s5.2 + s4.2) - 1))) = 0 then
  (some (.inr ((s6.1, s6.2)))) else
  (if inb s6.2 8 then 
  (if (gi s5.1 1 0 (ix s6.2)) = 0 then
  (some (.inl ((s6.1, s6.2 + 1)))) else
  ((lp (fun s7 : Int32 =>
  if inb s7 8 then 
  (if (gi s5.1 1 0 (ix s7)) = 0 then
  (some (.inl (s7 + 1))) else
  (some (.inr s7))) else none) 1000 (s6.2 + 1)).bind (fun r7 : Int32 =>
  if inb ((s5.2 * 8) + s6.2) 64 then 
  (if inb ((r7 * 8) + ((s5.2 + s4.2) - 1)) 64 then 
  ((M_cut s5.1 s5.2 s6.2 ((s5.2 + s4.2) - 1)).bind (fun b1 => 
  (if s6.1 < 0 then
  (some (.inl ((((gi s5.1 25 0 (ix ((s5.2 * 8) + s6.2))) + (gi s5.1 25 0 (ix ((r7 * 8) + ((s5.2 + s4.2) - 1))))) + b1, s6.2 + 1)))) else
  (if s6.1 ≤ (((gi s5.1 25 0 (ix ((s5.2 * 8) + s6.2))) + (gi s5.1 25 0 (ix ((r7 * 8) + ((s5.2 + s4.2) - 1))))) + b1) then
  (some (.inl ((s6.1, s6.2 + 1)))) else
  (some (.inl ((((gi s5.1 25 0 (ix ((s5.2 * 8) + s6.2))) + (gi s5.1 25 0 (ix ((r7 * 8) + ((s5.2 + s4.2) - 1))))) + b1, s6.2 + 1)))))))) else none) else none))) else none)) else none)) else none)) 1000 ((-1, s5.2))).bind (fun r6 : Int32 × Int32 =>
  if 0 ≤ r6.1 then
  (if inb ((s5.2 * 8) + ((s5.2 + s4.2) - 1)) 64 then 
  (some (.inl ((su s5.1 25 0 (ix ((s5.2 * 8) + ((s5.2 + s4.2) - 1))) r6.1, s5.2 + 1)))) else none) else
  (if inb ((s5.2 * 8) + ((s5.2 + s4.2) - 1)) 64 then 
  (some (.inl ((su s5.1 25 0 (ix ((s5.2 * 8) + ((s5.2 + s4.2) - 1))) 0, s5.2 + 1)))) else none)))) 1000 ((s4.1, r2))).bind (fun r5 : ST × Int32 =>
  some (.inl ((r5.1, s4.2 + 1)))))) 1000 ((σ, 1))).bind (fun r4 : ST × Int32 =>
  if inb ((r2 * 8) + r3) 64 then 
  (some ((gi r4.1 25 0 (ix ((r2 * 8) + r3)), r4.1))) else none))))) (fun v1 : Int32 × ST => some v1) r1))
abbrev rm_M_nested : Room := { frames := 2, cells := 0, slots := 0, locals := 56 }
set_option maxRecDepth 100000 in
set_option maxHeartbeats 4000000 in
theorem ac_M_nested {l : Launch} {D : va_G} {cc : Nat → ClassId} {al : Nat → Nat → Nat} {σ : ST} {h0 h : AH}  {res : Int32 × ST}  (hG : SW dmM (cfM cc) al σ h0 h) (E : M_nested σ = some res) : AC l D vwCl (tysOf cc) NN y_M_nested (Cond.code y_M_nested b_M_nested 10 (some .int) :: TT) rm_M_nested [.ref (al 0 0)] h (fun rv h' => rv = some (.int res.1) ∧ SW dmM (cfM cc) al res.2 h0 h') := by
  refine AC.of (by decide) rfl (Nat.le_of_ble_eq_true rfl) (fun X M hR hI => ?_)
  unfold M_nested at E
  refine ax_lv (lv' := [(0, .ref (al 0 0))]) [0] rfl ?_
  refine ax_aload_n M d_M_nested_0 0 rfl ?_
  refine sw_get M hG 0 0 (by decide) in_M rfl rfl 9 (by decide) wd_413 rfl d_M_nested_1 ?_
  refine ax_if_ne (tgt := 10) M d_M_nested_4 (by decide) (fun c1 => ?_) (fun c1 => ?_)
  · have E := ob_f E c1
    refine ax_iconst (v := 0) M d_M_nested_10 (by decide) ?_
    refine ax_istore_n (lv' := [(0, .ref (al 0 0)), (1, .int 0)]) M d_M_nested_11 (by decide) [1, 0] rfl ?_
    refine ax_lv (lv' := [(0, .ref (al 0 0)), (1, .int 0)]) [0, 1] rfl ?_
    obtain ⟨r1, l1, E⟩ := ob_b E
    refine lp_walk (fun (s1 : Int32) => ∀ h : AH, SW dmM (cfM cc) al σ h0 h → AW l D vwCl rm_M_nested 10 X 0 0 h 12 [(0, .ref (al 0 0)), (1, .int s1)] []) (fun (r1 : (Int32) ⊕ (Int32 × ST)) => Sum.elim (fun o1 : Int32 => ∀ h : AH, SW dmM (cfM cc) al σ h0 h → AW l D vwCl rm_M_nested 10 X 0 0 h 68 [(0, .ref (al 0 0)), (1, .int o1)] []) (fun v1 : Int32 × ST => ∀ h : AH, SW dmM (cfM cc) al v1.2 h0 h → some (Value.int v1.1) = some (.int res.1) ∧ SW dmM (cfM cc) al res.2 h0 h) r1) ?_ _ _ _ l1 ?_ h hG
    · intro s1 y1 E K1 K2 h hG
      refine ax_iload_n M d_M_nested_12 1 rfl ?_
      refine ax_aload_n M d_M_nested_13 0 rfl ?_
      refine sw_get M hG 0 0 (by decide) in_M rfl rfl 8 (by decide) wd_412 rfl d_M_nested_14 ?_
      refine ax_icmp_ge (tgt := 68) M d_M_nested_17 (by decide) (fun c2 => ?_) (fun c2 => ?_)
      · have E := ob_t E c2
        obtain rfl := Option.some.inj E
        refine ax_lv (lv' := [(0, .ref (al 0 0)), (1, .int s1)]) [0, 1] rfl ?_
        exact (qe_l (K2 _ rfl)) h hG
      · have E := ob_f E c2
        refine ax_aload_n M d_M_nested_20 0 rfl ?_
        refine sw_get M hG 0 0 (by decide) in_M rfl rfl 3 (by decide) wd_407 rfl d_M_nested_21 ?_
        refine ax_iload_n M d_M_nested_24 1 rfl ?_
        obtain ⟨k1, E⟩ := ob_c E
        refine sw_iald M hG 4 0 (by decide) rfl 0 rfl k1 d_M_nested_25 ?_
        refine ax_aload_n M d_M_nested_26 0 rfl ?_
        refine sw_get M hG 0 0 (by decide) in_M rfl rfl 4 (by decide) wd_408 rfl d_M_nested_27 ?_
        refine ax_iload_n M d_M_nested_30 1 rfl ?_
        refine sw_iald M hG 5 0 (by decide) rfl 0 rfl k1 d_M_nested_31 ?_
        refine ax_icmp_eq (tgt := 62) M d_M_nested_32 (by decide) (fun c3 => ?_) (fun c3 => ?_)
        · have E := ob_t E c3
          refine ax_iinc (v := s1 + 1) (lv' := [(0, .ref (al 0 0)), (1, .int (s1 + 1))]) M d_M_nested_62 1 rfl rfl (by decide) [1, 0] rfl ?_
          refine ax_goto (tgt := 12) M d_M_nested_65 (by decide) ?_
          obtain rfl := Option.some.inj E
          refine ax_lv (lv' := [(0, .ref (al 0 0)), (1, .int (s1 + 1))]) [0, 1] rfl ?_
          exact K1 _ rfl h hG
        · have E := ob_f E c3
          refine ax_aload_n M d_M_nested_35 0 rfl ?_
          refine sw_get M hG 0 0 (by decide) in_M rfl rfl 3 (by decide) wd_407 rfl d_M_nested_36 ?_
          refine ax_iload_n M d_M_nested_39 1 rfl ?_
          refine sw_iald M hG 4 0 (by decide) rfl 0 rfl k1 d_M_nested_40 ?_
          refine ax_aload_n M d_M_nested_41 0 rfl ?_
          refine sw_get M hG 0 0 (by decide) in_M rfl rfl 4 (by decide) wd_408 rfl d_M_nested_42 ?_
          refine ax_iload_n M d_M_nested_45 1 rfl ?_
          refine sw_iald M hG 5 0 (by decide) rfl 0 rfl k1 d_M_nested_46 ?_
          refine ax_icmp_gt (tgt := 59) M d_M_nested_47 (by decide) (fun c4 => ?_) (fun c4 => ?_)
          · have E := ob_t E c4
            refine ax_bipush (v := -4) M d_M_nested_59 (by decide) ?_
            obtain rfl := Option.some.inj E
            exact ax_iret M hR (by decide) (by decide) d_M_nested_61 ((qe_r (K2 _ rfl)) h hG)
          · have E := ob_f E c4
            refine ax_aload_n M d_M_nested_50 0 rfl ?_
            refine sw_get M hG 0 0 (by decide) in_M rfl rfl 7 (by decide) wd_411 rfl d_M_nested_51 ?_
            refine ax_iload_n M d_M_nested_54 1 rfl ?_
            refine sw_iald M hG 8 0 (by decide) rfl 0 rfl k1 d_M_nested_55 ?_
            refine ax_if_le (tgt := 62) M d_M_nested_56 (by decide) (fun c5 => ?_) (fun c5 => ?_)
            · have E := ob_t E c5
              refine ax_iinc (v := s1 + 1) (lv' := [(0, .ref (al 0 0)), (1, .int (s1 + 1))]) M d_M_nested_62 1 rfl rfl (by decide) [1, 0] rfl ?_
              refine ax_goto (tgt := 12) M d_M_nested_65 (by decide) ?_
              obtain rfl := Option.some.inj E
              refine ax_lv (lv' := [(0, .ref (al 0 0)), (1, .int (s1 + 1))]) [0, 1] rfl ?_
              exact K1 _ rfl h hG
            · have E := ob_f E c5
              refine ax_bipush (v := -4) M d_M_nested_59 (by decide) ?_
              obtain rfl := Option.some.inj E
              exact ax_iret M hR (by decide) (by decide) d_M_nested_61 ((qe_r (K2 _ rfl)) h hG)
    · rcases r1 with o1 | v1
      · have E := se_l E
        refine qi_l ?_
        intro h hG
        refine ax_iconst (v := 0) M d_M_nested_68 (by decide) ?_
        refine ax_istore_n (lv' := [(0, .ref (al 0 0)), (1, .int 0)]) M d_M_nested_69 (by decide) [1, 0] rfl ?_
        refine ax_bipush (v := 7) M d_M_nested_70 (by decide) ?_
        refine ax_istore_n (lv' := [(0, .ref (al 0 0)), (1, .int 0), (2, .int 7)]) M d_M_nested_72 (by decide) [1, 2, 0] rfl ?_
        refine ax_lv (lv' := [(0, .ref (al 0 0)), (1, .int 0), (2, .int 7)]) [0, 1, 2] rfl ?_
        obtain ⟨r2, l2, E⟩ := ob_b E
        refine lp_walk (fun (s2 : Int32) => ∀ h : AH, SW dmM (cfM cc) al σ h0 h → AW l D vwCl rm_M_nested 10 X 0 0 h 73 [(0, .ref (al 0 0)), (1, .int s2), (2, .int 7)] []) (fun (r2 : Int32) => ∀ h : AH, SW dmM (cfM cc) al σ h0 h → AW l D vwCl rm_M_nested 10 X 0 0 h 88 [(0, .ref (al 0 0)), (1, .int r2), (2, .int 7)] []) ?_ _ _ _ l2 ?_ h hG
        · intro s2 y2 E K3 K4 h hG
          refine ax_aload_n M d_M_nested_73 0 rfl ?_
          refine sw_get M hG 0 0 (by decide) in_M rfl rfl 0 (by decide) wd_404 rfl d_M_nested_74 ?_
          refine ax_iload_n M d_M_nested_77 1 rfl ?_
          obtain ⟨k2, E⟩ := ob_c E
          refine sw_zald M hG 1 0 (by decide) rfl 4 rfl k2 d_M_nested_78 ?_
          refine ax_if_ne (tgt := 88) M d_M_nested_79 (by decide) (fun c6 => ?_) (fun c6 => ?_)
          · have E := ob_f E c6
            obtain rfl := Option.some.inj E
            refine ax_lv (lv' := [(0, .ref (al 0 0)), (1, .int s2), (2, .int 7)]) [0, 1, 2] rfl ?_
            exact (K4 _ rfl) h hG
          · have E := ob_t E c6
            refine ax_iinc (v := s2 + 1) (lv' := [(0, .ref (al 0 0)), (1, .int (s2 + 1)), (2, .int 7)]) M d_M_nested_82 1 rfl rfl (by decide) [1, 0, 2] rfl ?_
            refine ax_goto (tgt := 73) M d_M_nested_85 (by decide) ?_
            obtain rfl := Option.some.inj E
            refine ax_lv (lv' := [(0, .ref (al 0 0)), (1, .int (s2 + 1)), (2, .int 7)]) [0, 1, 2] rfl ?_
            exact K3 _ rfl h hG
        · intro h hG
          refine ax_lv (lv' := [(0, .ref (al 0 0)), (1, .int r2), (2, .int 7)]) [0, 1, 2] rfl ?_
          obtain ⟨r3, l3, E⟩ := ob_b E
          refine lp_walk (fun (s3 : Int32) => ∀ h : AH, SW dmM (cfM cc) al σ h0 h → AW l D vwCl rm_M_nested 10 X 0 0 h 88 [(0, .ref (al 0 0)), (1, .int r2), (2, .int s3)] []) (fun (r3 : Int32) => ∀ h : AH, SW dmM (cfM cc) al σ h0 h → AW l D vwCl rm_M_nested 10 X 0 0 h 103 [(0, .ref (al 0 0)), (1, .int r2), (2, .int r3)] []) ?_ _ _ _ l3 ?_ h hG
          · intro s3 y3 E K5 K6 h hG
            refine ax_aload_n M d_M_nested_88 0 rfl ?_
            refine sw_get M hG 0 0 (by decide) in_M rfl rfl 0 (by decide) wd_404 rfl d_M_nested_89 ?_
            refine ax_iload_n M d_M_nested_92 2 rfl ?_
            obtain ⟨k3, E⟩ := ob_c E
            refine sw_zald M hG 1 0 (by decide) rfl 4 rfl k3 d_M_nested_93 ?_
            refine ax_if_ne (tgt := 103) M d_M_nested_94 (by decide) (fun c7 => ?_) (fun c7 => ?_)
            · have E := ob_f E c7
              obtain rfl := Option.some.inj E
              refine ax_lv (lv' := [(0, .ref (al 0 0)), (1, .int r2), (2, .int s3)]) [0, 1, 2] rfl ?_
              exact (K6 _ rfl) h hG
            · have E := ob_t E c7
              refine ax_iinc (v := s3 + -1) (lv' := [(0, .ref (al 0 0)), (1, .int r2), (2, .int (s3 + -1))]) M d_M_nested_97 2 rfl rfl (by decide) [1, 2, 0] rfl ?_
              refine ax_goto (tgt := 88) M d_M_nested_100 (by decide) ?_
              obtain rfl := Option.some.inj E
              refine ax_lv (lv' := [(0, .ref (al 0 0)), (1, .int r2), (2, .int (s3 + -1))]) [0, 1, 2] rfl ?_
              exact K5 _ rfl h hG
          · intro h hG
            refine ax_iconst (v := 1) M d_M_nested_103 (by decide) ?_
            refine ax_istore_n (lv' := [(0, .ref (al 0 0)), (1, .int r2), (2, .int r3), (3, .int 1)]) M d_M_nested_104 (by decide) [1, 2, 3, 0] rfl ?_
            refine ax_lv (lv' := [(0, .ref (al 0 0)), (1, .int r2), (2, .int r3), (3, .int 1)]) [0, 1, 2, 3] rfl ?_
            obtain ⟨r4, l7, E⟩ := ob_b E
            refine lp_walk (fun (s4 : ST × Int32) => ∀ h : AH, SW dmM (cfM cc) al s4.1 h0 h → AW l D vwCl rm_M_nested 10 X 0 0 h 105 [(0, .ref (al 0 0)), (1, .int r2), (2, .int r3), (3, .int s4.2)] []) (fun (r4 : ST × Int32) => ∀ h : AH, SW dmM (cfM cc) al r4.1 h0 h → AW l D vwCl rm_M_nested 10 X 0 0 h 302 [(0, .ref (al 0 0)), (1, .int r2), (2, .int r3), (3, .int r4.2)] []) ?_ _ _ _ l7 ?_ h hG
            · intro s4 y4 E K7 K8 h hG
              refine ax_iload_n M d_M_nested_105 3 rfl ?_
              refine ax_iload_n M d_M_nested_106 2 rfl ?_
              refine ax_iload_n M d_M_nested_107 1 rfl ?_
              refine ax_isub M d_M_nested_108 ?_
              refine ax_iconst (v := 1) M d_M_nested_109 (by decide) ?_
              refine ax_iadd M d_M_nested_110 ?_
              refine ax_icmp_gt (tgt := 302) M d_M_nested_111 (by decide) (fun c8 => ?_) (fun c8 => ?_)
              · have E := ob_t E c8
                obtain rfl := Option.some.inj E
                refine ax_lv (lv' := [(0, .ref (al 0 0)), (1, .int r2), (2, .int r3), (3, .int s4.2)]) [0, 1, 2, 3] rfl ?_
                exact (K8 _ rfl) h hG
              · have E := ob_f E c8
                refine ax_iload_n M d_M_nested_114 1 rfl ?_
                refine ax_istore (lv' := [(0, .ref (al 0 0)), (1, .int r2), (2, .int r3), (3, .int s4.2), (4, .int r2)]) M d_M_nested_115 (by decide) [1, 2, 3, 4, 0] rfl ?_
                refine ax_lv (lv' := [(0, .ref (al 0 0)), (1, .int r2), (2, .int r3), (3, .int s4.2), (4, .int r2)]) [0, 1, 2, 3, 4] rfl ?_
                obtain ⟨r5, l6, E⟩ := ob_b E
                refine lp_walk (fun (s5 : ST × Int32) => ∀ h : AH, SW dmM (cfM cc) al s5.1 h0 h → AW l D vwCl rm_M_nested 10 X 0 0 h 117 [(0, .ref (al 0 0)), (1, .int r2), (2, .int r3), (3, .int s4.2), (4, .int s5.2)] []) (fun (r5 : ST × Int32) => ∀ h : AH, SW dmM (cfM cc) al r5.1 h0 h → AW l D vwCl rm_M_nested 10 X 0 0 h 296 [(0, .ref (al 0 0)), (1, .int r2), (2, .int r3), (3, .int s4.2), (4, .int r5.2)] []) ?_ _ _ _ l6 ?_ h hG
                · intro s5 y5 E K9 K10 h hG
                  refine ax_iload M d_M_nested_117 4 rfl ?_
                  refine ax_iload_n M d_M_nested_119 3 rfl ?_
                  refine ax_iadd M d_M_nested_120 ?_
                  refine ax_iconst (v := 1) M d_M_nested_121 (by decide) ?_
                  refine ax_isub M d_M_nested_122 ?_
                  refine ax_iload_n M d_M_nested_123 2 rfl ?_
                  refine ax_icmp_gt (tgt := 296) M d_M_nested_124 (by decide) (fun c9 => ?_) (fun c9 => ?_)
                  · have E := ob_t E c9
                    obtain rfl := Option.some.inj E
                    refine ax_lv (lv' := [(0, .ref (al 0 0)), (1, .int r2), (2, .int r3), (3, .int s4.2), (4, .int s5.2)]) [0, 1, 2, 3, 4] rfl ?_
                    exact (K10 _ rfl) h hG
                  · have E := ob_f E c9
                    refine ax_iload M d_M_nested_127 4 rfl ?_
                    refine ax_iload_n M d_M_nested_129 3 rfl ?_
                    refine ax_iadd M d_M_nested_130 ?_
                    refine ax_iconst (v := 1) M d_M_nested_131 (by decide) ?_
                    refine ax_isub M d_M_nested_132 ?_
                    refine ax_istore (lv' := [(0, .ref (al 0 0)), (1, .int r2), (2, .int r3), (3, .int s4.2), (4, .int s5.2), (5, .int ((s5.2 + s4.2) - 1))]) M d_M_nested_133 (by decide) [1, 2, 3, 4, 5, 0] rfl ?_
                    refine ax_iconst (v := (-1)) M d_M_nested_135 (by decide) ?_
                    refine ax_istore (lv' := [(0, .ref (al 0 0)), (1, .int r2), (2, .int r3), (3, .int s4.2), (4, .int s5.2), (5, .int ((s5.2 + s4.2) - 1)), (6, .int (-1))]) M d_M_nested_136 (by decide) [1, 2, 3, 4, 5, 6, 0] rfl ?_
                    refine ax_iload M d_M_nested_138 4 rfl ?_
                    refine ax_istore (lv' := [(0, .ref (al 0 0)), (1, .int r2), (2, .int r3), (3, .int s4.2), (4, .int s5.2), (5, .int ((s5.2 + s4.2) - 1)), (6, .int (-1)), (7, .int s5.2)]) M d_M_nested_140 (by decide) [1, 2, 3, 4, 5, 6, 7, 0] rfl ?_
                    refine ax_lv (lv' := [(0, .ref (al 0 0)), (1, .int r2), (2, .int r3), (3, .int s4.2), (4, .int s5.2), (5, .int ((s5.2 + s4.2) - 1)), (6, .int (-1)), (7, .int s5.2)]) [0, 1, 2, 3, 4, 5, 6, 7] rfl ?_
                    obtain ⟨r6, l5, E⟩ := ob_b E
                    refine lp_walk (fun (s6 : Int32 × Int32) => ∀ h : AH, SW dmM (cfM cc) al s5.1 h0 h → AW l D vwCl rm_M_nested 10 X 0 0 h 142 [(0, .ref (al 0 0)), (1, .int r2), (2, .int r3), (3, .int s4.2), (4, .int s5.2), (5, .int ((s5.2 + s4.2) - 1)), (6, .int s6.1), (7, .int s6.2)] []) (fun (r6 : Int32 × Int32) => ∀ h : AH, SW dmM (cfM cc) al s5.1 h0 h → AW l D vwCl rm_M_nested 10 X 0 0 h 266 [(0, .ref (al 0 0)), (1, .int r2), (2, .int r3), (3, .int s4.2), (4, .int s5.2), (5, .int ((s5.2 + s4.2) - 1)), (6, .int r6.1), (7, .int r6.2)] []) ?_ _ _ _ l5 ?_ h hG
                    · intro s6 y6 E K11 K12 h hG
                      refine ax_iload M d_M_nested_142 7 rfl ?_
                      refine ax_iload M d_M_nested_144 5 rfl ?_
                      refine ax_icmp_ge (tgt := 266) M d_M_nested_146 (by decide) (fun c10 => ?_) (fun c10 => ?_)
                      · have E := ob_t E c10
                        obtain rfl := Option.some.inj E
                        refine ax_lv (lv' := [(0, .ref (al 0 0)), (1, .int r2), (2, .int r3), (3, .int s4.2), (4, .int s5.2), (5, .int ((s5.2 + s4.2) - 1)), (6, .int s6.1), (7, .int s6.2)]) [0, 1, 2, 3, 4, 5, 6, 7] rfl ?_
                        exact (K12 _ rfl) h hG
                      · have E := ob_f E c10
                        refine ax_aload_n M d_M_nested_149 0 rfl ?_
                        refine sw_get M hG 0 0 (by decide) in_M rfl rfl 0 (by decide) wd_404 rfl d_M_nested_150 ?_
                        refine ax_iload M d_M_nested_153 4 rfl ?_
                        obtain ⟨k4, E⟩ := ob_c E
                        refine sw_zald M hG 1 0 (by decide) rfl 4 rfl k4 d_M_nested_155 ?_
                        refine ax_if_eq (tgt := 266) M d_M_nested_156 (by decide) (fun c11 => ?_) (fun c11 => ?_)
                        · have E := ob_t E c11
                          obtain rfl := Option.some.inj E
                          refine ax_lv (lv' := [(0, .ref (al 0 0)), (1, .int r2), (2, .int r3), (3, .int s4.2), (4, .int s5.2), (5, .int ((s5.2 + s4.2) - 1)), (6, .int s6.1), (7, .int s6.2)]) [0, 1, 2, 3, 4, 5, 6, 7] rfl ?_
                          exact (K12 _ rfl) h hG
                        · have E := ob_f E c11
                          refine ax_aload_n M d_M_nested_159 0 rfl ?_
                          refine sw_get M hG 0 0 (by decide) in_M rfl rfl 0 (by decide) wd_404 rfl d_M_nested_160 ?_
                          refine ax_iload M d_M_nested_163 5 rfl ?_
                          obtain ⟨k5, E⟩ := ob_c E
                          refine sw_zald M hG 1 0 (by decide) rfl 4 rfl k5 d_M_nested_165 ?_
                          refine ax_if_eq (tgt := 266) M d_M_nested_166 (by decide) (fun c12 => ?_) (fun c12 => ?_)
                          · have E := ob_t E c12
                            obtain rfl := Option.some.inj E
                            refine ax_lv (lv' := [(0, .ref (al 0 0)), (1, .int r2), (2, .int r3), (3, .int s4.2), (4, .int s5.2), (5, .int ((s5.2 + s4.2) - 1)), (6, .int s6.1), (7, .int s6.2)]) [0, 1, 2, 3, 4, 5, 6, 7] rfl ?_
                            exact (K12 _ rfl) h hG
                          · have E := ob_f E c12
                            refine ax_aload_n M d_M_nested_169 0 rfl ?_
                            refine sw_get M hG 0 0 (by decide) in_M rfl rfl 0 (by decide) wd_404 rfl d_M_nested_170 ?_
                            refine ax_iload M d_M_nested_173 7 rfl ?_
                            obtain ⟨k6, E⟩ := ob_c E
                            refine sw_zald M hG 1 0 (by decide) rfl 4 rfl k6 d_M_nested_175 ?_
                            refine ax_if_ne (tgt := 182) M d_M_nested_176 (by decide) (fun c13 => ?_) (fun c13 => ?_)
                            · have E := ob_f E c13
                              refine ax_iload M d_M_nested_182 7 rfl ?_
                              refine ax_iconst (v := 1) M d_M_nested_184 (by decide) ?_
                              refine ax_iadd M d_M_nested_185 ?_
                              refine ax_istore (lv' := [(0, .ref (al 0 0)), (1, .int r2), (2, .int r3), (3, .int s4.2), (4, .int s5.2), (5, .int ((s5.2 + s4.2) - 1)), (6, .int s6.1), (7, .int s6.2), (8, .int (s6.2 + 1))]) M d_M_nested_186 (by decide) [1, 2, 3, 4, 5, 6, 7, 8, 0] rfl ?_
                              refine ax_lv (lv' := [(0, .ref (al 0 0)), (1, .int r2), (2, .int r3), (3, .int s4.2), (4, .int s5.2), (5, .int ((s5.2 + s4.2) - 1)), (6, .int s6.1), (7, .int s6.2), (8, .int (s6.2 + 1))]) [0, 1, 2, 3, 4, 5, 6, 7, 8] rfl ?_
                              obtain ⟨r7, l4, E⟩ := ob_b E
                              refine lp_walk (fun (s7 : Int32) => ∀ h : AH, SW dmM (cfM cc) al s5.1 h0 h → AW l D vwCl rm_M_nested 10 X 0 0 h 188 [(0, .ref (al 0 0)), (1, .int r2), (2, .int r3), (3, .int s4.2), (4, .int s5.2), (5, .int ((s5.2 + s4.2) - 1)), (6, .int s6.1), (7, .int s6.2), (8, .int s7)] []) (fun (r7 : Int32) => ∀ h : AH, SW dmM (cfM cc) al s5.1 h0 h → AW l D vwCl rm_M_nested 10 X 0 0 h 204 [(0, .ref (al 0 0)), (1, .int r2), (2, .int r3), (3, .int s4.2), (4, .int s5.2), (5, .int ((s5.2 + s4.2) - 1)), (6, .int s6.1), (7, .int s6.2), (8, .int r7)] []) ?_ _ _ _ l4 ?_ h hG
                              · intro s7 y7 E K13 K14 h hG
                                refine ax_aload_n M d_M_nested_188 0 rfl ?_
                                refine sw_get M hG 0 0 (by decide) in_M rfl rfl 0 (by decide) wd_404 rfl d_M_nested_189 ?_
                                refine ax_iload M d_M_nested_192 8 rfl ?_
                                obtain ⟨k7, E⟩ := ob_c E
                                refine sw_zald M hG 1 0 (by decide) rfl 4 rfl k7 d_M_nested_194 ?_
                                refine ax_if_ne (tgt := 204) M d_M_nested_195 (by decide) (fun c14 => ?_) (fun c14 => ?_)
                                · have E := ob_f E c14
                                  obtain rfl := Option.some.inj E
                                  refine ax_lv (lv' := [(0, .ref (al 0 0)), (1, .int r2), (2, .int r3), (3, .int s4.2), (4, .int s5.2), (5, .int ((s5.2 + s4.2) - 1)), (6, .int s6.1), (7, .int s6.2), (8, .int s7)]) [0, 1, 2, 3, 4, 5, 6, 7, 8] rfl ?_
                                  exact (K14 _ rfl) h hG
                                · have E := ob_t E c14
                                  refine ax_iinc (v := s7 + 1) (lv' := [(0, .ref (al 0 0)), (1, .int r2), (2, .int r3), (3, .int s4.2), (4, .int s5.2), (5, .int ((s5.2 + s4.2) - 1)), (6, .int s6.1), (7, .int s6.2), (8, .int (s7 + 1))]) M d_M_nested_198 8 rfl rfl (by decide) [1, 2, 3, 4, 5, 6, 7, 8, 0] rfl ?_
                                  refine ax_goto (tgt := 188) M d_M_nested_201 (by decide) ?_
                                  obtain rfl := Option.some.inj E
                                  refine ax_lv (lv' := [(0, .ref (al 0 0)), (1, .int r2), (2, .int r3), (3, .int s4.2), (4, .int s5.2), (5, .int ((s5.2 + s4.2) - 1)), (6, .int s6.1), (7, .int s6.2), (8, .int (s7 + 1))]) [0, 1, 2, 3, 4, 5, 6, 7, 8] rfl ?_
                                  exact K13 _ rfl h hG
                              · intro h hG
                                refine ax_aload_n M d_M_nested_204 0 rfl ?_
                                refine sw_get M hG 0 0 (by decide) in_M rfl rfl 24 (by decide) wd_428 rfl d_M_nested_205 ?_
                                refine ax_iload M d_M_nested_208 4 rfl ?_
                                refine ax_bipush (v := 8) M d_M_nested_210 (by decide) ?_
                                refine ax_imul M d_M_nested_212 ?_
                                refine ax_iload M d_M_nested_213 7 rfl ?_
                                refine ax_iadd M d_M_nested_215 ?_
                                obtain ⟨k8, E⟩ := ob_c E
                                refine sw_iald M hG 25 0 (by decide) rfl 0 rfl k8 d_M_nested_216 ?_
                                refine ax_aload_n M d_M_nested_217 0 rfl ?_
                                refine sw_get M hG 0 0 (by decide) in_M rfl rfl 24 (by decide) wd_428 rfl d_M_nested_218 ?_
                                refine ax_iload M d_M_nested_221 8 rfl ?_
                                refine ax_bipush (v := 8) M d_M_nested_223 (by decide) ?_
                                refine ax_imul M d_M_nested_225 ?_
                                refine ax_iload M d_M_nested_226 5 rfl ?_
                                refine ax_iadd M d_M_nested_228 ?_
                                obtain ⟨k9, E⟩ := ob_c E
                                refine sw_iald M hG 25 0 (by decide) rfl 0 rfl k9 d_M_nested_229 ?_
                                refine ax_iadd M d_M_nested_230 ?_
                                refine ax_aload_n M d_M_nested_231 0 rfl ?_
                                refine ax_iload M d_M_nested_232 4 rfl ?_
                                refine ax_iload M d_M_nested_234 7 rfl ?_
                                refine ax_iload M d_M_nested_236 5 rfl ?_
                                obtain ⟨b1, e1, E⟩ := ob_b E
                                refine ax_callV (n := 3) (C := R_M) (q := (R_M, F_M, 25)) M TT_good rfl rfl (SW.at hG 0 0 (by decide)) (ac_M_cut hG e1) lm_M_135 (by decide) (by decide) rfl rfl (Nat.le_of_ble_eq_true rfl) d_M_nested_238 (by decide) (c1 := 0) (s1 := 0) (by decide) (ax_ret_i (fun h hG => ?_))
                                refine ax_iadd M d_M_nested_241 ?_
                                refine ax_istore (lv' := [(0, .ref (al 0 0)), (1, .int r2), (2, .int r3), (3, .int s4.2), (4, .int s5.2), (5, .int ((s5.2 + s4.2) - 1)), (6, .int s6.1), (7, .int s6.2), (9, .int (((gi s5.1 25 0 (ix ((s5.2 * 8) + s6.2))) + (gi s5.1 25 0 (ix ((r7 * 8) + ((s5.2 + s4.2) - 1))))) + b1))]) M d_M_nested_242 (by decide) [1, 2, 3, 4, 5, 6, 7, 8, 0] rfl ?_
                                refine ax_iload M d_M_nested_244 6 rfl ?_
                                refine ax_if_lt (tgt := 256) M d_M_nested_246 (by decide) (fun c15 => ?_) (fun c15 => ?_)
                                · have E := ob_t E c15
                                  refine ax_iload M d_M_nested_256 8 rfl ?_
                                  refine ax_istore (lv' := [(0, .ref (al 0 0)), (1, .int r2), (2, .int r3), (3, .int s4.2), (4, .int s5.2), (5, .int ((s5.2 + s4.2) - 1)), (6, .int (((gi s5.1 25 0 (ix ((s5.2 * 8) + s6.2))) + (gi s5.1 25 0 (ix ((r7 * 8) + ((s5.2 + s4.2) - 1))))) + b1)), (7, .int s6.2)]) M d_M_nested_258 (by decide) [1, 2, 3, 4, 5, 6, 0, 7] rfl ?_
                                  refine ax_iinc (v := s6.2 + 1) (lv' := [(0, .ref (al 0 0)), (1, .int r2), (2, .int r3), (3, .int s4.2), (4, .int s5.2), (5, .int ((s5.2 + s4.2) - 1)), (6, .int (((gi s5.1 25 0 (ix ((s5.2 * 8) + s6.2))) + (gi s5.1 25 0 (ix ((r7 * 8) + ((s5.2 + s4.2) - 1))))) + b1)), (7, .int (s6.2 + 1))]) M d_M_nested_260 7 rfl rfl (by decide) [1, 2, 3, 4, 5, 6, 7, 0] rfl ?_
                                  refine ax_goto (tgt := 142) M d_M_nested_263 (by decide) ?_
                                  obtain rfl := Option.some.inj E
                                  refine ax_lv (lv' := [(0, .ref (al 0 0)), (1, .int r2), (2, .int r3), (3, .int s4.2), (4, .int s5.2), (5, .int ((s5.2 + s4.2) - 1)), (6, .int (((gi s5.1 25 0 (ix ((s5.2 * 8) + s6.2))) + (gi s5.1 25 0 (ix ((r7 * 8) + ((s5.2 + s4.2) - 1))))) + b1)), (7, .int (s6.2 + 1))]) [0, 1, 2, 3, 4, 5, 6, 7] rfl ?_
                                  exact K11 _ rfl h hG
                                · have E := ob_f E c15
                                  refine ax_iload M d_M_nested_249 8 rfl ?_
                                  refine ax_iload M d_M_nested_251 6 rfl ?_
                                  refine ax_icmp_ge (tgt := 260) M d_M_nested_253 (by decide) (fun c16 => ?_) (fun c16 => ?_)
                                  · have E := ob_t E c16
                                    refine ax_iinc (v := s6.2 + 1) (lv' := [(0, .ref (al 0 0)), (1, .int r2), (2, .int r3), (3, .int s4.2), (4, .int s5.2), (5, .int ((s5.2 + s4.2) - 1)), (6, .int s6.1), (7, .int (s6.2 + 1)), (9, .int (((gi s5.1 25 0 (ix ((s5.2 * 8) + s6.2))) + (gi s5.1 25 0 (ix ((r7 * 8) + ((s5.2 + s4.2) - 1))))) + b1))]) M d_M_nested_260 7 rfl rfl (by decide) [1, 2, 3, 4, 5, 6, 7, 0, 8] rfl ?_
                                    refine ax_goto (tgt := 142) M d_M_nested_263 (by decide) ?_
                                    obtain rfl := Option.some.inj E
                                    refine ax_lv (lv' := [(0, .ref (al 0 0)), (1, .int r2), (2, .int r3), (3, .int s4.2), (4, .int s5.2), (5, .int ((s5.2 + s4.2) - 1)), (6, .int s6.1), (7, .int (s6.2 + 1))]) [0, 1, 2, 3, 4, 5, 6, 7] rfl ?_
                                    exact K11 _ rfl h hG
                                  · have E := ob_f E c16
                                    refine ax_iload M d_M_nested_256 8 rfl ?_
                                    refine ax_istore (lv' := [(0, .ref (al 0 0)), (1, .int r2), (2, .int r3), (3, .int s4.2), (4, .int s5.2), (5, .int ((s5.2 + s4.2) - 1)), (6, .int (((gi s5.1 25 0 (ix ((s5.2 * 8) + s6.2))) + (gi s5.1 25 0 (ix ((r7 * 8) + ((s5.2 + s4.2) - 1))))) + b1)), (7, .int s6.2)]) M d_M_nested_258 (by decide) [1, 2, 3, 4, 5, 6, 0, 7] rfl ?_
                                    refine ax_iinc (v := s6.2 + 1) (lv' := [(0, .ref (al 0 0)), (1, .int r2), (2, .int r3), (3, .int s4.2), (4, .int s5.2), (5, .int ((s5.2 + s4.2) - 1)), (6, .int (((gi s5.1 25 0 (ix ((s5.2 * 8) + s6.2))) + (gi s5.1 25 0 (ix ((r7 * 8) + ((s5.2 + s4.2) - 1))))) + b1)), (7, .int (s6.2 + 1))]) M d_M_nested_260 7 rfl rfl (by decide) [1, 2, 3, 4, 5, 6, 7, 0] rfl ?_
                                    refine ax_goto (tgt := 142) M d_M_nested_263 (by decide) ?_
                                    obtain rfl := Option.some.inj E
                                    refine ax_lv (lv' := [(0, .ref (al 0 0)), (1, .int r2), (2, .int r3), (3, .int s4.2), (4, .int s5.2), (5, .int ((s5.2 + s4.2) - 1)), (6, .int (((gi s5.1 25 0 (ix ((s5.2 * 8) + s6.2))) + (gi s5.1 25 0 (ix ((r7 * 8) + ((s5.2 + s4.2) - 1))))) + b1)), (7, .int (s6.2 + 1))]) [0, 1, 2, 3, 4, 5, 6, 7] rfl ?_
                                    exact K11 _ rfl h hG
                            · have E := ob_t E c13
                              refine ax_goto (tgt := 260) M d_M_nested_179 (by decide) ?_
                              refine ax_iinc (v := s6.2 + 1) (lv' := [(0, .ref (al 0 0)), (1, .int r2), (2, .int r3), (3, .int s4.2), (4, .int s5.2), (5, .int ((s5.2 + s4.2) - 1)), (6, .int s6.1), (7, .int (s6.2 + 1))]) M d_M_nested_260 7 rfl rfl (by decide) [1, 2, 3, 4, 5, 6, 7, 0] rfl ?_
                              refine ax_goto (tgt := 142) M d_M_nested_263 (by decide) ?_
                              obtain rfl := Option.some.inj E
                              refine ax_lv (lv' := [(0, .ref (al 0 0)), (1, .int r2), (2, .int r3), (3, .int s4.2), (4, .int s5.2), (5, .int ((s5.2 + s4.2) - 1)), (6, .int s6.1), (7, .int (s6.2 + 1))]) [0, 1, 2, 3, 4, 5, 6, 7] rfl ?_
                              exact K11 _ rfl h hG
                    · intro h hG
                      refine ax_aload_n M d_M_nested_266 0 rfl ?_
                      refine sw_get M hG 0 0 (by decide) in_M rfl rfl 24 (by decide) wd_428 rfl d_M_nested_267 ?_
                      refine ax_iload M d_M_nested_270 4 rfl ?_
                      refine ax_bipush (v := 8) M d_M_nested_272 (by decide) ?_
                      refine ax_imul M d_M_nested_274 ?_
                      refine ax_iload M d_M_nested_275 5 rfl ?_
                      refine ax_iadd M d_M_nested_277 ?_
                      refine ax_iload M d_M_nested_278 6 rfl ?_
                      refine ax_if_ge (tgt := 287) M d_M_nested_280 (by decide) (fun c17 => ?_) (fun c17 => ?_)
                      · have E := ob_t E c17
                        refine ax_iload M d_M_nested_287 6 rfl ?_
                        obtain ⟨k10, E⟩ := ob_c E
                        refine sw_iast M hG 25 0 (by decide) rfl 0 rfl k10 rfl d_M_nested_289 (fun h hG => ?_)
                        refine ax_iinc (v := s5.2 + 1) (lv' := [(0, .ref (al 0 0)), (1, .int r2), (2, .int r3), (3, .int s4.2), (4, .int (s5.2 + 1)), (5, .int ((s5.2 + s4.2) - 1)), (6, .int r6.1), (7, .int r6.2)]) M d_M_nested_290 4 rfl rfl (by decide) [1, 2, 3, 4, 0, 5, 6, 7] rfl ?_
                        refine ax_goto (tgt := 117) M d_M_nested_293 (by decide) ?_
                        obtain rfl := Option.some.inj E
                        refine ax_lv (lv' := [(0, .ref (al 0 0)), (1, .int r2), (2, .int r3), (3, .int s4.2), (4, .int (s5.2 + 1))]) [0, 1, 2, 3, 4] rfl ?_
                        exact K9 _ rfl h hG
                      · have E := ob_f E c17
                        refine ax_iconst (v := 0) M d_M_nested_283 (by decide) ?_
                        refine ax_goto (tgt := 289) M d_M_nested_284 (by decide) ?_
                        obtain ⟨k11, E⟩ := ob_c E
                        refine sw_iast M hG 25 0 (by decide) rfl 0 rfl k11 rfl d_M_nested_289 (fun h hG => ?_)
                        refine ax_iinc (v := s5.2 + 1) (lv' := [(0, .ref (al 0 0)), (1, .int r2), (2, .int r3), (3, .int s4.2), (4, .int (s5.2 + 1)), (5, .int ((s5.2 + s4.2) - 1)), (6, .int r6.1), (7, .int r6.2)]) M d_M_nested_290 4 rfl rfl (by decide) [1, 2, 3, 4, 0, 5, 6, 7] rfl ?_
                        refine ax_goto (tgt := 117) M d_M_nested_293 (by decide) ?_
                        obtain rfl := Option.some.inj E
                        refine ax_lv (lv' := [(0, .ref (al 0 0)), (1, .int r2), (2, .int r3), (3, .int s4.2), (4, .int (s5.2 + 1))]) [0, 1, 2, 3, 4] rfl ?_
                        exact K9 _ rfl h hG
                · intro h hG
                  refine ax_iinc (v := s4.2 + 1) (lv' := [(0, .ref (al 0 0)), (1, .int r2), (2, .int r3), (3, .int (s4.2 + 1)), (4, .int r5.2)]) M d_M_nested_296 3 rfl rfl (by decide) [1, 2, 3, 0, 4] rfl ?_
                  refine ax_goto (tgt := 105) M d_M_nested_299 (by decide) ?_
                  obtain rfl := Option.some.inj E
                  refine ax_lv (lv' := [(0, .ref (al 0 0)), (1, .int r2), (2, .int r3), (3, .int (s4.2 + 1))]) [0, 1, 2, 3] rfl ?_
                  exact K7 _ rfl h hG
            · intro h hG
              refine ax_aload_n M d_M_nested_302 0 rfl ?_
              refine sw_get M hG 0 0 (by decide) in_M rfl rfl 24 (by decide) wd_428 rfl d_M_nested_303 ?_
              refine ax_iload_n M d_M_nested_306 1 rfl ?_
              refine ax_bipush (v := 8) M d_M_nested_307 (by decide) ?_
              refine ax_imul M d_M_nested_309 ?_
              refine ax_iload_n M d_M_nested_310 2 rfl ?_
              refine ax_iadd M d_M_nested_311 ?_
              obtain ⟨k12, E⟩ := ob_c E
              refine sw_iald M hG 25 0 (by decide) rfl 0 rfl k12 d_M_nested_312 ?_
              obtain rfl := Option.some.inj E
              exact ax_iret M hR (by decide) (by decide) d_M_nested_313 ⟨rfl, hG⟩
      · have E := se_r E
        refine qi_r ?_
        obtain rfl := Option.some.inj E
        exact fun h hG => ⟨rfl, hG⟩
  · have E := ob_t E c1
    refine ax_bipush (v := -4) M d_M_nested_7 (by decide) ?_
    obtain rfl := Option.some.inj E
    exact ax_iret M hR (by decide) (by decide) d_M_nested_9 ⟨rfl, hG⟩
def M_latest (σ : ST) (x1 : Int32) : Option (Int64) :=
  (M_isActor σ x1).bind (fun b1 => 
  (if b1 = 0 then
  (some (-1000000000000)) else
  (if (gi σ 0 0 9) = 0 then
  (some (-1000000000000)) else
  (if inb x1 8 then 
  (some ((gi σ 23 0 (ix x1)).toInt64)) else none))))
abbrev rm_M_latest : Room := { frames := 1, cells := 0, slots := 0, locals := 21 }
set_option maxRecDepth 100000 in
set_option maxHeartbeats 4000000 in
theorem ac_M_latest {l : Launch} {D : va_G} {cc : Nat → ClassId} {al : Nat → Nat → Nat} {σ : ST} {h0 h : AH} {x1 : Int32} {res : Int64}  (hG : SW dmM (cfM cc) al σ h0 h) (E : M_latest σ x1 = some res) : AC l D vwCl (tysOf cc) NN y_M_latest (Cond.code y_M_latest b_M_latest 2 (some .long) :: TT) rm_M_latest [.ref (al 0 0), .int x1] h (fun rv h' => rv = some (.long res) ∧ SW dmM (cfM cc) al σ h0 h') := by
  refine AC.of (by decide) rfl (Nat.le_of_ble_eq_true rfl) (fun X M hR hI => ?_)
  unfold M_latest at E
  refine ax_lv (lv' := [(0, .ref (al 0 0)), (1, .int x1)]) [0, 1] rfl ?_
  refine ax_aload_n M d_M_latest_0 0 rfl ?_
  refine ax_iload_n M d_M_latest_1 1 rfl ?_
  obtain ⟨b1, e1, E⟩ := ob_b E
  refine ax_callV (n := 1) (C := R_M) (q := (R_M, F_M, 25)) M TT_good rfl rfl (SW.at hG 0 0 (by decide)) (ac_M_isActor hG e1) lm_M_79 (by decide) (by decide) rfl rfl (Nat.le_of_ble_eq_true rfl) d_M_latest_2 (by decide) (c1 := 0) (s1 := 0) (by decide) (ax_ret_i (fun h hG => ?_))
  refine ax_if_eq (tgt := 15) M d_M_latest_5 (by decide) (fun c1 => ?_) (fun c1 => ?_)
  · have E := ob_t E c1
    refine ax_ldc2 (v := -1000000000000) M wd_574 d_M_latest_15 ?_
    refine ax_goto (tgt := 28) M d_M_latest_18 (by decide) ?_
    obtain rfl := Option.some.inj E
    exact ax_lret M hR (by decide) (by decide) d_M_latest_28 ⟨rfl, hG⟩
  · have E := ob_f E c1
    refine ax_aload_n M d_M_latest_8 0 rfl ?_
    refine sw_get M hG 0 0 (by decide) in_M rfl rfl 9 (by decide) wd_413 rfl d_M_latest_9 ?_
    refine ax_if_ne (tgt := 21) M d_M_latest_12 (by decide) (fun c2 => ?_) (fun c2 => ?_)
    · have E := ob_f E c2
      refine ax_aload_n M d_M_latest_21 0 rfl ?_
      refine sw_get M hG 0 0 (by decide) in_M rfl rfl 22 (by decide) wd_426 rfl d_M_latest_22 ?_
      refine ax_iload_n M d_M_latest_25 1 rfl ?_
      obtain ⟨k1, E⟩ := ob_c E
      refine sw_iald M hG 23 0 (by decide) rfl 0 rfl k1 d_M_latest_26 ?_
      refine ax_i2l M d_M_latest_27 rfl ?_
      obtain rfl := Option.some.inj E
      exact ax_lret M hR (by decide) (by decide) d_M_latest_28 ⟨rfl, hG⟩
    · have E := ob_t E c2
      refine ax_ldc2 (v := -1000000000000) M wd_574 d_M_latest_15 ?_
      refine ax_goto (tgt := 28) M d_M_latest_18 (by decide) ?_
      obtain rfl := Option.some.inj E
      exact ax_lret M hR (by decide) (by decide) d_M_latest_28 ⟨rfl, hG⟩
def M_token (σ : ST) (x1 : Int32) (x2 : Int32) : Option (Int64) :=
  if x1 < 0 then
  (some (-1000000000000)) else
  (if (gi σ 0 0 8) ≤ x1 then
  (some (-1000000000000)) else
  (if (gi σ 0 0 9) = 0 then
  (some (-1000000000000)) else
  (if x2 < 0 then
  (some (-1000000000000)) else
  (if inb x1 12 then 
  (if x2 < (gi σ 22 0 (ix x1)) then
  (if inb ((x1 * 400) + x2) 4800 then 
  (some ((gi σ 21 0 (ix ((x1 * 400) + x2))).toInt64)) else none) else
  (some (-1000000000000))) else none))))
abbrev rm_M_token : Room := { frames := 0, cells := 0, slots := 0, locals := 0 }
set_option maxRecDepth 100000 in
set_option maxHeartbeats 4000000 in
theorem ac_M_token {l : Launch} {D : va_G} {cc : Nat → ClassId} {al : Nat → Nat → Nat} {σ : ST} {h0 h : AH} {x1 : Int32} {x2 : Int32} {res : Int64}  (hG : SW dmM (cfM cc) al σ h0 h) (E : M_token σ x1 x2 = some res) : AC l D vwCl (tysOf cc) NN y_M_token (Cond.code y_M_token b_M_token 3 (some .long) :: TT) rm_M_token [.ref (al 0 0), .int x1, .int x2] h (fun rv h' => rv = some (.long res) ∧ SW dmM (cfM cc) al σ h0 h') := by
  refine AC.of (by decide) rfl (Nat.le_of_ble_eq_true rfl) (fun X M hR hI => ?_)
  unfold M_token at E
  refine ax_lv (lv' := [(0, .ref (al 0 0)), (1, .int x1), (2, .int x2)]) [0, 1, 2] rfl ?_
  refine ax_iload_n M d_M_token_0 1 rfl ?_
  refine ax_if_lt (tgt := 33) M d_M_token_1 (by decide) (fun c1 => ?_) (fun c1 => ?_)
  · have E := ob_t E c1
    refine ax_ldc2 (v := -1000000000000) M wd_574 d_M_token_33 ?_
    refine ax_goto (tgt := 52) M d_M_token_36 (by decide) ?_
    obtain rfl := Option.some.inj E
    exact ax_lret M hR (by decide) (by decide) d_M_token_52 ⟨rfl, hG⟩
  · have E := ob_f E c1
    refine ax_iload_n M d_M_token_4 1 rfl ?_
    refine ax_aload_n M d_M_token_5 0 rfl ?_
    refine sw_get M hG 0 0 (by decide) in_M rfl rfl 8 (by decide) wd_412 rfl d_M_token_6 ?_
    refine ax_icmp_ge (tgt := 33) M d_M_token_9 (by decide) (fun c2 => ?_) (fun c2 => ?_)
    · have E := ob_t E c2
      refine ax_ldc2 (v := -1000000000000) M wd_574 d_M_token_33 ?_
      refine ax_goto (tgt := 52) M d_M_token_36 (by decide) ?_
      obtain rfl := Option.some.inj E
      exact ax_lret M hR (by decide) (by decide) d_M_token_52 ⟨rfl, hG⟩
    · have E := ob_f E c2
      refine ax_aload_n M d_M_token_12 0 rfl ?_
      refine sw_get M hG 0 0 (by decide) in_M rfl rfl 9 (by decide) wd_413 rfl d_M_token_13 ?_
      refine ax_if_eq (tgt := 33) M d_M_token_16 (by decide) (fun c3 => ?_) (fun c3 => ?_)
      · have E := ob_t E c3
        refine ax_ldc2 (v := -1000000000000) M wd_574 d_M_token_33 ?_
        refine ax_goto (tgt := 52) M d_M_token_36 (by decide) ?_
        obtain rfl := Option.some.inj E
        exact ax_lret M hR (by decide) (by decide) d_M_token_52 ⟨rfl, hG⟩
      · have E := ob_f E c3
        refine ax_iload_n M d_M_token_19 2 rfl ?_
        refine ax_if_lt (tgt := 33) M d_M_token_20 (by decide) (fun c4 => ?_) (fun c4 => ?_)
        · have E := ob_t E c4
          refine ax_ldc2 (v := -1000000000000) M wd_574 d_M_token_33 ?_
          refine ax_goto (tgt := 52) M d_M_token_36 (by decide) ?_
          obtain rfl := Option.some.inj E
          exact ax_lret M hR (by decide) (by decide) d_M_token_52 ⟨rfl, hG⟩
        · have E := ob_f E c4
          refine ax_iload_n M d_M_token_23 2 rfl ?_
          refine ax_aload_n M d_M_token_24 0 rfl ?_
          refine sw_get M hG 0 0 (by decide) in_M rfl rfl 21 (by decide) wd_425 rfl d_M_token_25 ?_
          refine ax_iload_n M d_M_token_28 1 rfl ?_
          obtain ⟨k1, E⟩ := ob_c E
          refine sw_iald M hG 22 0 (by decide) rfl 0 rfl k1 d_M_token_29 ?_
          refine ax_icmp_lt (tgt := 39) M d_M_token_30 (by decide) (fun c5 => ?_) (fun c5 => ?_)
          · have E := ob_t E c5
            refine ax_aload_n M d_M_token_39 0 rfl ?_
            refine sw_get M hG 0 0 (by decide) in_M rfl rfl 20 (by decide) wd_424 rfl d_M_token_40 ?_
            refine ax_iload_n M d_M_token_43 1 rfl ?_
            refine ax_sipush (v := 400) M d_M_token_44 (by decide) ?_
            refine ax_imul M d_M_token_47 ?_
            refine ax_iload_n M d_M_token_48 2 rfl ?_
            refine ax_iadd M d_M_token_49 ?_
            obtain ⟨k2, E⟩ := ob_c E
            refine sw_iald M hG 21 0 (by decide) rfl 0 rfl k2 d_M_token_50 ?_
            refine ax_i2l M d_M_token_51 rfl ?_
            obtain rfl := Option.some.inj E
            exact ax_lret M hR (by decide) (by decide) d_M_token_52 ⟨rfl, hG⟩
          · have E := ob_f E c5
            refine ax_ldc2 (v := -1000000000000) M wd_574 d_M_token_33 ?_
            refine ax_goto (tgt := 52) M d_M_token_36 (by decide) ?_
            obtain rfl := Option.some.inj E
            exact ax_lret M hR (by decide) (by decide) d_M_token_52 ⟨rfl, hG⟩
