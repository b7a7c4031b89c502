def C_costOfStretch (σ : ST) (x1 : Int32) (x2 : Int32) : Option (Int32) :=
  (C_divisorOfStretch σ x1 x2).bind (fun b1 => 
  ((lp (fun s1 : Int32 × Int32 =>
  if x2 ≤ s1.2 then
  (some (.inr ((s1.1, s1.2)))) else
  (if inb x1 8 then 
  (if inb s1.2 8 then 
  (if inb x2 8 then 
  ((C_tokensAcross σ (gi σ 6 0 (ix x1)) (gi σ 6 0 (ix s1.2)) (gi σ 6 0 (ix x2))).bind (fun b2 => 
  (if ¬ b1 = 0 then 
  (if inb (s1.2 + 1) 8 then 
  (if s1.2 = x1 then
  (some (.inl ((((gi σ 9 (ix x1) (ix s1.2)) + (gi σ 9 (ix (s1.2 + 1)) (ix x2))) + (b2 / b1), s1.2 + 1)))) else
  (some (.inl ((if (((gi σ 9 (ix x1) (ix s1.2)) + (gi σ 9 (ix (s1.2 + 1)) (ix x2))) + (b2 / b1)) < s1.1 then ((gi σ 9 (ix x1) (ix s1.2)) + (gi σ 9 (ix (s1.2 + 1)) (ix x2))) + (b2 / b1) else s1.1, s1.2 + 1))))) else none) else none))) else none) else none) else none)) 1000 ((0, x1))).bind (fun r1 : Int32 × Int32 =>
  some r1.1)))
abbrev rm_C_costOfStretch : Room := { frames := 3, cells := 0, slots := 0, locals := 70 }
set_option maxRecDepth 100000 in
set_option maxHeartbeats 4000000 in
theorem ac_C_costOfStretch {l : Launch} {D : va_G} {cc : Nat → ClassId} {al : Nat → Nat → Nat} {σ : ST} {h0 h : AH} {x1 : Int32} {x2 : Int32} {res : Int32}  (hG : SW dmC (cfC cc) al σ h0 h) (E : C_costOfStretch σ x1 x2 = some res) : AC l D vwCl (tysOf cc) NN y_G_costOfStretch (Cond.code y_G_costOfStretch b_G_costOfStretch 8 (some .int) :: TT) rm_C_costOfStretch [.ref (al 0 0), .int x1, .int x2] h (fun rv h' => rv = some (.int res) ∧ SW dmC (cfC cc) al σ h0 h') := by
  refine AC.of (by decide) rfl (Nat.le_of_ble_eq_true rfl) (fun X M hR hI => ?_)
  unfold C_costOfStretch at E
  refine ax_lv (lv' := [(0, .ref (al 0 0)), (1, .int x1), (2, .int x2)]) [0, 1, 2] rfl ?_
  refine ax_aload_n M d_G_costOfStretch_0 0 rfl ?_
  refine ax_iload_n M d_G_costOfStretch_1 1 rfl ?_
  refine ax_iload_n M d_G_costOfStretch_2 2 rfl ?_
  obtain ⟨b1, e1, E⟩ := ob_b E
  refine ax_callV (n := 2) (C := R_G) (q := (R_G, F_G, 9)) M TT_good rfl rfl (SW.at hG 0 0 (by decide)) (ac_C_divisorOfStretch hG e1) lm_G_224 (by decide) (by decide) rfl rfl (Nat.le_of_ble_eq_true rfl) d_G_costOfStretch_3 (by decide) (c1 := 0) (s1 := 0) (by decide) (ax_ret_i (fun h hG => ?_))
  refine ax_istore_n (lv' := [(0, .ref (al 0 0)), (1, .int x1), (2, .int x2), (3, .int b1)]) M d_G_costOfStretch_6 (by decide) [1, 2, 3, 0] rfl ?_
  refine ax_iconst (v := 0) M d_G_costOfStretch_7 (by decide) ?_
  refine ax_istore (lv' := [(0, .ref (al 0 0)), (1, .int x1), (2, .int x2), (3, .int b1), (4, .int 0)]) M d_G_costOfStretch_8 (by decide) [1, 2, 3, 4, 0] rfl ?_
  refine ax_iload_n M d_G_costOfStretch_10 1 rfl ?_
  refine ax_istore (lv' := [(0, .ref (al 0 0)), (1, .int x1), (2, .int x2), (3, .int b1), (4, .int 0), (5, .int x1)]) M d_G_costOfStretch_11 (by decide) [1, 2, 3, 4, 5, 0] rfl ?_
  refine ax_lv (lv' := [(0, .ref (al 0 0)), (1, .int x1), (2, .int x2), (3, .int b1), (4, .int 0), (5, .int x1)]) [0, 1, 2, 3, 4, 5] rfl ?_
  obtain ⟨r1, l1, E⟩ := ob_b E
  refine lp_walk (fun (s1 : Int32 × Int32) => ∀ h : AH, SW dmC (cfC cc) al σ h0 h → AW l D vwCl rm_C_costOfStretch 8 X 0 0 h 13 [(0, .ref (al 0 0)), (1, .int x1), (2, .int x2), (3, .int b1), (4, .int s1.1), (5, .int s1.2)] []) (fun (r1 : Int32 × Int32) => ∀ h : AH, SW dmC (cfC cc) al σ h0 h → AW l D vwCl rm_C_costOfStretch 8 X 0 0 h 98 [(0, .ref (al 0 0)), (1, .int x1), (2, .int x2), (3, .int b1), (4, .int r1.1), (5, .int r1.2)] []) ?_ _ _ _ l1 ?_ h hG
  · intro s1 y1 E K1 K2 h hG
    refine ax_iload M d_G_costOfStretch_13 5 rfl ?_
    refine ax_iload_n M d_G_costOfStretch_15 2 rfl ?_
    refine ax_icmp_ge (tgt := 98) M d_G_costOfStretch_16 (by decide) (fun c1 => ?_) (fun c1 => ?_)
    · have E := ob_t E c1
      obtain rfl := Option.some.inj E
      refine ax_lv (lv' := [(0, .ref (al 0 0)), (1, .int x1), (2, .int x2), (3, .int b1), (4, .int s1.1), (5, .int s1.2)]) [0, 1, 2, 3, 4, 5] rfl ?_
      exact (K2 _ rfl) h hG
    · have E := ob_f E c1
      refine ax_aload_n M d_G_costOfStretch_19 0 rfl ?_
      refine ax_aload_n M d_G_costOfStretch_20 0 rfl ?_
      refine sw_get M hG 0 0 (by decide) in_G rfl rfl 2 (by decide) wd_154 rfl d_G_costOfStretch_21 ?_
      refine ax_iload_n M d_G_costOfStretch_24 1 rfl ?_
      obtain ⟨k1, E⟩ := ob_c E
      refine sw_iald M hG 6 0 (by decide) rfl 0 rfl k1 d_G_costOfStretch_25 ?_
      refine ax_aload_n M d_G_costOfStretch_26 0 rfl ?_
      refine sw_get M hG 0 0 (by decide) in_G rfl rfl 2 (by decide) wd_154 rfl d_G_costOfStretch_27 ?_
      refine ax_iload M d_G_costOfStretch_30 5 rfl ?_
      obtain ⟨k2, E⟩ := ob_c E
      refine sw_iald M hG 6 0 (by decide) rfl 0 rfl k2 d_G_costOfStretch_32 ?_
      refine ax_aload_n M d_G_costOfStretch_33 0 rfl ?_
      refine sw_get M hG 0 0 (by decide) in_G rfl rfl 2 (by decide) wd_154 rfl d_G_costOfStretch_34 ?_
      refine ax_iload_n M d_G_costOfStretch_37 2 rfl ?_
      obtain ⟨k3, E⟩ := ob_c E
      refine sw_iald M hG 6 0 (by decide) rfl 0 rfl k3 d_G_costOfStretch_38 ?_
      obtain ⟨b2, e2, E⟩ := ob_b E
      refine ax_callV (n := 3) (C := R_G) (q := (R_G, F_G, 9)) M TT_good rfl rfl (SW.at hG 0 0 (by decide)) (ac_C_tokensAcross hG e2) lm_G_227 (by decide) (by decide) rfl rfl (Nat.le_of_ble_eq_true rfl) d_G_costOfStretch_39 (by decide) (c1 := 0) (s1 := 0) (by decide) (ax_ret_i (fun h hG => ?_))
      refine ax_iload_n M d_G_costOfStretch_42 3 rfl ?_
      obtain ⟨k4, E⟩ := ob_c E
      refine ax_idiv M d_G_costOfStretch_43 k4 ?_
      refine ax_istore (lv' := [(0, .ref (al 0 0)), (1, .int x1), (2, .int x2), (3, .int b1), (4, .int s1.1), (5, .int s1.2), (6, .int (b2 / b1))]) M d_G_costOfStretch_44 (by decide) [1, 2, 3, 4, 5, 6, 0] rfl ?_
      refine ax_aload_n M d_G_costOfStretch_46 0 rfl ?_
      refine sw_get M hG 0 0 (by decide) in_G rfl rfl 3 (by decide) wd_155 rfl d_G_costOfStretch_47 ?_
      refine ax_iload_n M d_G_costOfStretch_50 1 rfl ?_
      refine sw_aldq (g := fun e => e) M hG 7 0 (by decide) rfl 3 rfl rfl k1 d_G_costOfStretch_51 ?_
      refine ax_iload M d_G_costOfStretch_52 5 rfl ?_
      refine sw_iald M hG 9 (ix x1) (in_lt k1) rfl 0 rfl k2 d_G_costOfStretch_54 ?_
      refine ax_aload_n M d_G_costOfStretch_55 0 rfl ?_
      refine sw_get M hG 0 0 (by decide) in_G rfl rfl 3 (by decide) wd_155 rfl d_G_costOfStretch_56 ?_
      refine ax_iload M d_G_costOfStretch_59 5 rfl ?_
      refine ax_iconst (v := 1) M d_G_costOfStretch_61 (by decide) ?_
      refine ax_iadd M d_G_costOfStretch_62 ?_
      obtain ⟨k5, E⟩ := ob_c E
      refine sw_aldq (g := fun e => e) M hG 7 0 (by decide) rfl 3 rfl rfl k5 d_G_costOfStretch_63 ?_
      refine ax_iload_n M d_G_costOfStretch_64 2 rfl ?_
      refine sw_iald M hG 9 (ix (s1.2 + 1)) (in_lt k5) rfl 0 rfl k3 d_G_costOfStretch_65 ?_
      refine ax_iadd M d_G_costOfStretch_66 ?_
      refine ax_iload M d_G_costOfStretch_67 6 rfl ?_
      refine ax_iadd M d_G_costOfStretch_69 ?_
      refine ax_istore (lv' := [(0, .ref (al 0 0)), (1, .int x1), (2, .int x2), (3, .int b1), (4, .int s1.1), (5, .int s1.2), (7, .int (((gi σ 9 (ix x1) (ix s1.2)) + (gi σ 9 (ix (s1.2 + 1)) (ix x2))) + (b2 / b1)))]) M d_G_costOfStretch_70 (by decide) [1, 2, 3, 4, 5, 6, 0] rfl ?_
      refine ax_iload M d_G_costOfStretch_72 5 rfl ?_
      refine ax_iload_n M d_G_costOfStretch_74 1 rfl ?_
      refine ax_icmp_ne (tgt := 83) M d_G_costOfStretch_75 (by decide) (fun c2 => ?_) (fun c2 => ?_)
      · have E := ob_f E c2
        refine ax_iload M d_G_costOfStretch_83 4 rfl ?_
        refine ax_iload M d_G_costOfStretch_85 6 rfl ?_
        refine ax_mmin M lm_G_231 (by decide) (Nat.le_of_ble_eq_true rfl) (by decide) (by decide) d_G_costOfStretch_87 ?_
        refine ax_istore (lv' := [(0, .ref (al 0 0)), (1, .int x1), (2, .int x2), (3, .int b1), (4, .int (if (((gi σ 9 (ix x1) (ix s1.2)) + (gi σ 9 (ix (s1.2 + 1)) (ix x2))) + (b2 / b1)) < s1.1 then ((gi σ 9 (ix x1) (ix s1.2)) + (gi σ 9 (ix (s1.2 + 1)) (ix x2))) + (b2 / b1) else s1.1)), (5, .int s1.2)]) M d_G_costOfStretch_90 (by decide) [1, 2, 3, 4, 0, 5] rfl ?_
        refine ax_iinc (v := s1.2 + 1) (lv' := [(0, .ref (al 0 0)), (1, .int x1), (2, .int x2), (3, .int b1), (4, .int (if (((gi σ 9 (ix x1) (ix s1.2)) + (gi σ 9 (ix (s1.2 + 1)) (ix x2))) + (b2 / b1)) < s1.1 then ((gi σ 9 (ix x1) (ix s1.2)) + (gi σ 9 (ix (s1.2 + 1)) (ix x2))) + (b2 / b1) else s1.1)), (5, .int (s1.2 + 1))]) M d_G_costOfStretch_92 5 rfl rfl (by decide) [1, 2, 3, 4, 5, 0] rfl ?_
        refine ax_goto (tgt := 13) M d_G_costOfStretch_95 (by decide) ?_
        obtain rfl := Option.some.inj E
        refine ax_lv (lv' := [(0, .ref (al 0 0)), (1, .int x1), (2, .int x2), (3, .int b1), (4, .int (if (((gi σ 9 (ix x1) (ix s1.2)) + (gi σ 9 (ix (s1.2 + 1)) (ix x2))) + (b2 / b1)) < s1.1 then ((gi σ 9 (ix x1) (ix s1.2)) + (gi σ 9 (ix (s1.2 + 1)) (ix x2))) + (b2 / b1) else s1.1)), (5, .int (s1.2 + 1))]) [0, 1, 2, 3, 4, 5] rfl ?_
        exact K1 _ rfl h hG
      · have E := ob_t E c2
        refine ax_iload M d_G_costOfStretch_78 6 rfl ?_
        refine ax_goto (tgt := 90) M d_G_costOfStretch_80 (by decide) ?_
        refine ax_istore (lv' := [(0, .ref (al 0 0)), (1, .int x1), (2, .int x2), (3, .int b1), (4, .int (((gi σ 9 (ix x1) (ix s1.2)) + (gi σ 9 (ix (s1.2 + 1)) (ix x2))) + (b2 / b1))), (5, .int s1.2)]) M d_G_costOfStretch_90 (by decide) [1, 2, 3, 4, 0, 5] rfl ?_
        refine ax_iinc (v := s1.2 + 1) (lv' := [(0, .ref (al 0 0)), (1, .int x1), (2, .int x2), (3, .int b1), (4, .int (((gi σ 9 (ix x1) (ix s1.2)) + (gi σ 9 (ix (s1.2 + 1)) (ix x2))) + (b2 / b1))), (5, .int (s1.2 + 1))]) M d_G_costOfStretch_92 5 rfl rfl (by decide) [1, 2, 3, 4, 5, 0] rfl ?_
        refine ax_goto (tgt := 13) M d_G_costOfStretch_95 (by decide) ?_
        obtain rfl := Option.some.inj E
        refine ax_lv (lv' := [(0, .ref (al 0 0)), (1, .int x1), (2, .int x2), (3, .int b1), (4, .int (((gi σ 9 (ix x1) (ix s1.2)) + (gi σ 9 (ix (s1.2 + 1)) (ix x2))) + (b2 / b1))), (5, .int (s1.2 + 1))]) [0, 1, 2, 3, 4, 5] rfl ?_
        exact K1 _ rfl h hG
  · intro h hG
    refine ax_iload M d_G_costOfStretch_98 4 rfl ?_
    obtain rfl := Option.some.inj E
    exact ax_iret M hR (by decide) (by decide) d_G_costOfStretch_100 ⟨rfl, hG⟩
def C_nestedRoom (σ : ST) : Option (Int32 × ST) :=
  (C_listActors σ).bind (fun b1 => 
  ((lp (fun s1 : ST × Int32 =>
  if b1.1 ≤ s1.2 then
  (some (.inr ((s1.1, s1.2)))) else
  (if inb s1.2 8 then 
  (some (.inl ((su s1.1 9 (ix s1.2) (ix s1.2) 0, s1.2 + 1)))) else none)) 1000 ((b1.2, 0))).bind (fun r1 : ST × Int32 =>
  (lp (fun s2 : ST × Int32 =>
  if b1.1 < s2.2 then
  (some (.inr ((s2.1, s2.2)))) else
  ((lp (fun s3 : ST × Int32 =>
  if b1.1 < (s3.2 + s2.2) then
  (some (.inr ((s3.1, s3.2)))) else
  (if inb s3.2 8 then 
  ((C_costOfStretch s3.1 s3.2 ((s3.2 + s2.2) - 1)).bind (fun b2 => 
  (if inb ((s3.2 + s2.2) - 1) 8 then 
  (some (.inl ((su s3.1 9 (ix s3.2) (ix ((s3.2 + s2.2) - 1)) b2, s3.2 + 1)))) else none))) else none)) 1000 ((s2.1, 0))).bind (fun r3 : ST × Int32 =>
  some (.inl ((r3.1, s2.2 + 1)))))) 1000 ((r1.1, 2))).bind (fun r2 : ST × Int32 =>
  if b1.1 = 0 then
  (some ((0, r2.1))) else
  (if inb 0 8 then 
  (if inb (b1.1 - 1) 8 then 
  (some ((gi r2.1 9 (ix 0) (ix (b1.1 - 1)), r2.1))) else none) else none)))))
abbrev rm_C_nestedRoom : Room := { frames := 4, cells := 0, slots := 0, locals := 97 }
set_option maxRecDepth 100000 in
set_option maxHeartbeats 4000000 in
theorem ac_C_nestedRoom {l : Launch} {D : va_G} {cc : Nat → ClassId} {al : Nat → Nat → Nat} {σ : ST} {h0 h : AH}  {res : Int32 × ST}  (hG : SW dmC (cfC cc) al σ h0 h) (E : C_nestedRoom σ = some res) : AC l D vwCl (tysOf cc) NN y_G_nestedRoom (Cond.code y_G_nestedRoom b_G_nestedRoom 4 (some .int) :: TT) rm_C_nestedRoom [.ref (al 0 0)] h (fun rv h' => rv = some (.int res.1) ∧ SW dmC (cfC cc) al res.2 h0 h') := by
  refine AC.of (by decide) rfl (Nat.le_of_ble_eq_true rfl) (fun X M hR hI => ?_)
  unfold C_nestedRoom at E
  refine ax_lv (lv' := [(0, .ref (al 0 0))]) [0] rfl ?_
  refine ax_aload_n M d_G_nestedRoom_0 0 rfl ?_
  obtain ⟨b1, e1, E⟩ := ob_b E
  refine ax_callV (n := 0) (C := R_G) (q := (R_G, F_G, 9)) M TT_good rfl rfl (SW.at hG 0 0 (by decide)) (ac_C_listActors hG e1) lm_G_218 (by decide) (by decide) rfl rfl (Nat.le_of_ble_eq_true rfl) d_G_nestedRoom_1 (by decide) (c1 := 0) (s1 := 0) (by decide) (ax_ret_i (fun h hG => ?_))
  refine ax_istore_n (lv' := [(0, .ref (al 0 0)), (1, .int b1.1)]) M d_G_nestedRoom_4 (by decide) [1, 0] rfl ?_
  refine ax_iconst (v := 0) M d_G_nestedRoom_5 (by decide) ?_
  refine ax_istore_n (lv' := [(0, .ref (al 0 0)), (1, .int b1.1), (2, .int 0)]) M d_G_nestedRoom_6 (by decide) [1, 2, 0] rfl ?_
  refine ax_lv (lv' := [(0, .ref (al 0 0)), (1, .int b1.1), (2, .int 0)]) [0, 1, 2] rfl ?_
  obtain ⟨r1, l1, E⟩ := ob_b E
  refine lp_walk (fun (s1 : ST × Int32) => ∀ h : AH, SW dmC (cfC cc) al s1.1 h0 h → AW l D vwCl rm_C_nestedRoom 4 X 0 0 h 7 [(0, .ref (al 0 0)), (1, .int b1.1), (2, .int s1.2)] []) (fun (r1 : ST × Int32) => ∀ h : AH, SW dmC (cfC cc) al r1.1 h0 h → AW l D vwCl rm_C_nestedRoom 4 X 0 0 h 27 [(0, .ref (al 0 0)), (1, .int b1.1), (2, .int r1.2)] []) ?_ _ _ _ l1 ?_ h hG
  · intro s1 y1 E K1 K2 h hG
    refine ax_iload_n M d_G_nestedRoom_7 2 rfl ?_
    refine ax_iload_n M d_G_nestedRoom_8 1 rfl ?_
    refine ax_icmp_ge (tgt := 27) M d_G_nestedRoom_9 (by decide) (fun c1 => ?_) (fun c1 => ?_)
    · have E := ob_t E c1
      obtain rfl := Option.some.inj E
      refine ax_lv (lv' := [(0, .ref (al 0 0)), (1, .int b1.1), (2, .int s1.2)]) [0, 1, 2] rfl ?_
      exact (K2 _ rfl) h hG
    · have E := ob_f E c1
      refine ax_aload_n M d_G_nestedRoom_12 0 rfl ?_
      refine sw_get M hG 0 0 (by decide) in_G rfl rfl 3 (by decide) wd_155 rfl d_G_nestedRoom_13 ?_
      refine ax_iload_n M d_G_nestedRoom_16 2 rfl ?_
      obtain ⟨k1, E⟩ := ob_c E
      refine sw_aldq (g := fun e => e) M hG 7 0 (by decide) rfl 3 rfl rfl k1 d_G_nestedRoom_17 ?_
      refine ax_iload_n M d_G_nestedRoom_18 2 rfl ?_
      refine ax_iconst (v := 0) M d_G_nestedRoom_19 (by decide) ?_
      refine sw_iast M hG 9 (ix s1.2) (in_lt k1) rfl 0 rfl k1 rfl d_G_nestedRoom_20 (fun h hG => ?_)
      refine ax_iinc (v := s1.2 + 1) (lv' := [(0, .ref (al 0 0)), (1, .int b1.1), (2, .int (s1.2 + 1))]) M d_G_nestedRoom_21 2 rfl rfl (by decide) [1, 2, 0] rfl ?_
      refine ax_goto (tgt := 7) M d_G_nestedRoom_24 (by decide) ?_
      obtain rfl := Option.some.inj E
      refine ax_lv (lv' := [(0, .ref (al 0 0)), (1, .int b1.1), (2, .int (s1.2 + 1))]) [0, 1, 2] rfl ?_
      exact K1 _ rfl h hG
  · intro h hG
    refine ax_iconst (v := 2) M d_G_nestedRoom_27 (by decide) ?_
    refine ax_istore_n (lv' := [(0, .ref (al 0 0)), (1, .int b1.1), (2, .int 2)]) M d_G_nestedRoom_28 (by decide) [1, 2, 0] rfl ?_
    refine ax_lv (lv' := [(0, .ref (al 0 0)), (1, .int b1.1), (2, .int 2)]) [0, 1, 2] rfl ?_
    obtain ⟨r2, l3, E⟩ := ob_b E
    refine lp_walk (fun (s2 : ST × Int32) => ∀ h : AH, SW dmC (cfC cc) al s2.1 h0 h → AW l D vwCl rm_C_nestedRoom 4 X 0 0 h 29 [(0, .ref (al 0 0)), (1, .int b1.1), (2, .int s2.2)] []) (fun (r2 : ST × Int32) => ∀ h : AH, SW dmC (cfC cc) al r2.1 h0 h → AW l D vwCl rm_C_nestedRoom 4 X 0 0 h 77 [(0, .ref (al 0 0)), (1, .int b1.1), (2, .int r2.2)] []) ?_ _ _ _ l3 ?_ h hG
    · intro s2 y2 E K3 K4 h hG
      refine ax_iload_n M d_G_nestedRoom_29 2 rfl ?_
      refine ax_iload_n M d_G_nestedRoom_30 1 rfl ?_
      refine ax_icmp_gt (tgt := 77) M d_G_nestedRoom_31 (by decide) (fun c2 => ?_) (fun c2 => ?_)
      · have E := ob_t E c2
        obtain rfl := Option.some.inj E
        refine ax_lv (lv' := [(0, .ref (al 0 0)), (1, .int b1.1), (2, .int s2.2)]) [0, 1, 2] rfl ?_
        exact (K4 _ rfl) h hG
      · have E := ob_f E c2
        refine ax_iconst (v := 0) M d_G_nestedRoom_34 (by decide) ?_
        refine ax_istore_n (lv' := [(0, .ref (al 0 0)), (1, .int b1.1), (2, .int s2.2), (3, .int 0)]) M d_G_nestedRoom_35 (by decide) [1, 2, 3, 0] rfl ?_
        refine ax_lv (lv' := [(0, .ref (al 0 0)), (1, .int b1.1), (2, .int s2.2), (3, .int 0)]) [0, 1, 2, 3] rfl ?_
        obtain ⟨r3, l2, E⟩ := ob_b E
        refine lp_walk (fun (s3 : ST × Int32) => ∀ h : AH, SW dmC (cfC cc) al s3.1 h0 h → AW l D vwCl rm_C_nestedRoom 4 X 0 0 h 36 [(0, .ref (al 0 0)), (1, .int b1.1), (2, .int s2.2), (3, .int s3.2)] []) (fun (r3 : ST × Int32) => ∀ h : AH, SW dmC (cfC cc) al r3.1 h0 h → AW l D vwCl rm_C_nestedRoom 4 X 0 0 h 71 [(0, .ref (al 0 0)), (1, .int b1.1), (2, .int s2.2), (3, .int r3.2)] []) ?_ _ _ _ l2 ?_ h hG
        · intro s3 y3 E K5 K6 h hG
          refine ax_iload_n M d_G_nestedRoom_36 3 rfl ?_
          refine ax_iload_n M d_G_nestedRoom_37 2 rfl ?_
          refine ax_iadd M d_G_nestedRoom_38 ?_
          refine ax_iload_n M d_G_nestedRoom_39 1 rfl ?_
          refine ax_icmp_gt (tgt := 71) M d_G_nestedRoom_40 (by decide) (fun c3 => ?_) (fun c3 => ?_)
          · have E := ob_t E c3
            obtain rfl := Option.some.inj E
            refine ax_lv (lv' := [(0, .ref (al 0 0)), (1, .int b1.1), (2, .int s2.2), (3, .int s3.2)]) [0, 1, 2, 3] rfl ?_
            exact (K6 _ rfl) h hG
          · have E := ob_f E c3
            refine ax_aload_n M d_G_nestedRoom_43 0 rfl ?_
            refine sw_get M hG 0 0 (by decide) in_G rfl rfl 3 (by decide) wd_155 rfl d_G_nestedRoom_44 ?_
            refine ax_iload_n M d_G_nestedRoom_47 3 rfl ?_
            obtain ⟨k2, E⟩ := ob_c E
            refine sw_aldq (g := fun e => e) M hG 7 0 (by decide) rfl 3 rfl rfl k2 d_G_nestedRoom_48 ?_
            refine ax_iload_n M d_G_nestedRoom_49 3 rfl ?_
            refine ax_iload_n M d_G_nestedRoom_50 2 rfl ?_
            refine ax_iadd M d_G_nestedRoom_51 ?_
            refine ax_iconst (v := 1) M d_G_nestedRoom_52 (by decide) ?_
            refine ax_isub M d_G_nestedRoom_53 ?_
            refine ax_aload_n M d_G_nestedRoom_54 0 rfl ?_
            refine ax_iload_n M d_G_nestedRoom_55 3 rfl ?_
            refine ax_iload_n M d_G_nestedRoom_56 3 rfl ?_
            refine ax_iload_n M d_G_nestedRoom_57 2 rfl ?_
            refine ax_iadd M d_G_nestedRoom_58 ?_
            refine ax_iconst (v := 1) M d_G_nestedRoom_59 (by decide) ?_
            refine ax_isub M d_G_nestedRoom_60 ?_
            obtain ⟨b2, e2, E⟩ := ob_b E
            refine ax_callV (n := 2) (C := R_G) (q := (R_G, F_G, 9)) M TT_good rfl rfl (SW.at hG 0 0 (by decide)) (ac_C_costOfStretch hG e2) lm_G_221 (by decide) (by decide) rfl rfl (Nat.le_of_ble_eq_true rfl) d_G_nestedRoom_61 (by decide) (c1 := 0) (s1 := 0) (by decide) (ax_ret_i (fun h hG => ?_))
            obtain ⟨k3, E⟩ := ob_c E
            refine sw_iast M hG 9 (ix s3.2) (in_lt k2) rfl 0 rfl k3 rfl d_G_nestedRoom_64 (fun h hG => ?_)
            refine ax_iinc (v := s3.2 + 1) (lv' := [(0, .ref (al 0 0)), (1, .int b1.1), (2, .int s2.2), (3, .int (s3.2 + 1))]) M d_G_nestedRoom_65 3 rfl rfl (by decide) [1, 2, 3, 0] rfl ?_
            refine ax_goto (tgt := 36) M d_G_nestedRoom_68 (by decide) ?_
            obtain rfl := Option.some.inj E
            refine ax_lv (lv' := [(0, .ref (al 0 0)), (1, .int b1.1), (2, .int s2.2), (3, .int (s3.2 + 1))]) [0, 1, 2, 3] rfl ?_
            exact K5 _ rfl h hG
        · intro h hG
          refine ax_iinc (v := s2.2 + 1) (lv' := [(0, .ref (al 0 0)), (1, .int b1.1), (2, .int (s2.2 + 1)), (3, .int r3.2)]) M d_G_nestedRoom_71 2 rfl rfl (by decide) [1, 2, 0, 3] rfl ?_
          refine ax_goto (tgt := 29) M d_G_nestedRoom_74 (by decide) ?_
          obtain rfl := Option.some.inj E
          refine ax_lv (lv' := [(0, .ref (al 0 0)), (1, .int b1.1), (2, .int (s2.2 + 1))]) [0, 1, 2] rfl ?_
          exact K3 _ rfl h hG
    · intro h hG
      refine ax_iload_n M d_G_nestedRoom_77 1 rfl ?_
      refine ax_if_ne (tgt := 85) M d_G_nestedRoom_78 (by decide) (fun c4 => ?_) (fun c4 => ?_)
      · have E := ob_f E c4
        refine ax_aload_n M d_G_nestedRoom_85 0 rfl ?_
        refine sw_get M hG 0 0 (by decide) in_G rfl rfl 3 (by decide) wd_155 rfl d_G_nestedRoom_86 ?_
        refine ax_iconst (v := 0) M d_G_nestedRoom_89 (by decide) ?_
        obtain ⟨k4, E⟩ := ob_c E
        refine sw_aldq (g := fun e => e) M hG 7 0 (by decide) rfl 3 rfl rfl k4 d_G_nestedRoom_90 ?_
        refine ax_iload_n M d_G_nestedRoom_91 1 rfl ?_
        refine ax_iconst (v := 1) M d_G_nestedRoom_92 (by decide) ?_
        refine ax_isub M d_G_nestedRoom_93 ?_
        obtain ⟨k5, E⟩ := ob_c E
        refine sw_iald M hG 9 (ix 0) (in_lt k4) rfl 0 rfl k5 d_G_nestedRoom_94 ?_
        obtain rfl := Option.some.inj E
        exact ax_iret M hR (by decide) (by decide) d_G_nestedRoom_95 ⟨rfl, hG⟩
      · have E := ob_t E c4
        refine ax_iconst (v := 0) M d_G_nestedRoom_81 (by decide) ?_
        refine ax_goto (tgt := 95) M d_G_nestedRoom_82 (by decide) ?_
        obtain rfl := Option.some.inj E
        exact ax_iret M hR (by decide) (by decide) d_G_nestedRoom_95 ⟨rfl, hG⟩
def C_nested (σ : ST) : Option (Int32 × ST) :=
  if (gi σ 0 0 8) = 0 then
  (some ((-4, σ))) else
  ((C_canNest σ).bind (fun b1 => 
  (if b1 = 0 then
  (some ((-4, σ))) else
  ((C_nestedRoom σ).bind (fun b2 => 
  (some ((b2.1, b2.2))))))))
abbrev rm_C_nested : Room := { frames := 5, cells := 0, slots := 0, locals := 120 }
set_option maxRecDepth 100000 in
set_option maxHeartbeats 4000000 in
theorem ac_C_nested {l : Launch} {D : va_G} {cc : Nat → ClassId} {al : Nat → Nat → Nat} {σ : ST} {h0 h : AH}  {res : Int32 × ST}  (hG : SW dmC (cfC cc) al σ h0 h) (E : C_nested σ = some res) : AC l D vwCl (tysOf cc) NN y_G_nested (Cond.code y_G_nested b_G_nested 1 (some .int) :: TT) rm_C_nested [.ref (al 0 0)] h (fun rv h' => rv = some (.int res.1) ∧ SW dmC (cfC cc) al res.2 h0 h') := by
  refine AC.of (by decide) rfl (Nat.le_of_ble_eq_true rfl) (fun X M hR hI => ?_)
  unfold C_nested at E
  refine ax_lv (lv' := [(0, .ref (al 0 0))]) [0] rfl ?_
  refine ax_aload_n M d_G_nested_0 0 rfl ?_
  refine sw_get M hG 0 0 (by decide) in_G rfl rfl 8 (by decide) wd_160 rfl d_G_nested_1 ?_
  refine ax_if_eq (tgt := 14) M d_G_nested_4 (by decide) (fun c1 => ?_) (fun c1 => ?_)
  · have E := ob_t E c1
    refine ax_bipush (v := -4) M d_G_nested_14 (by decide) ?_
    obtain rfl := Option.some.inj E
    exact ax_iret M hR (by decide) (by decide) d_G_nested_16 ⟨rfl, hG⟩
  · have E := ob_f E c1
    refine ax_aload_n M d_G_nested_7 0 rfl ?_
    obtain ⟨b1, e1, E⟩ := ob_b E
    refine ax_callV (n := 0) (C := R_G) (q := (R_G, F_G, 9)) M TT_good rfl rfl (SW.at hG 0 0 (by decide)) (ac_C_canNest hG e1) lm_G_111 (by decide) (by decide) rfl rfl (Nat.le_of_ble_eq_true rfl) d_G_nested_8 (by decide) (c1 := 0) (s1 := 0) (by decide) (ax_ret_i (fun h hG => ?_))
    refine ax_if_ne (tgt := 17) M d_G_nested_11 (by decide) (fun c2 => ?_) (fun c2 => ?_)
    · have E := ob_f E c2
      refine ax_aload_n M d_G_nested_17 0 rfl ?_
      obtain ⟨b2, e2, E⟩ := ob_b E
      refine ax_callV (n := 0) (C := R_G) (q := (R_G, F_G, 9)) M TT_good rfl rfl (SW.at hG 0 0 (by decide)) (ac_C_nestedRoom hG e2) lm_G_115 (by decide) (by decide) rfl rfl (Nat.le_of_ble_eq_true rfl) d_G_nested_18 (by decide) (c1 := 0) (s1 := 0) (by decide) (ax_ret_i (fun h hG => ?_))
      obtain rfl := Option.some.inj E
      exact ax_iret M hR (by decide) (by decide) d_G_nested_21 ⟨rfl, hG⟩
    · have E := ob_t E c2
      refine ax_bipush (v := -4) M d_G_nested_14 (by decide) ?_
      obtain rfl := Option.some.inj E
      exact ax_iret M hR (by decide) (by decide) d_G_nested_16 ⟨rfl, hG⟩
def C_latest (σ : ST) (x1 : Int32) : Option (Int64) :=
  if (gi σ 0 0 8) = 0 then
  (some (-1000000000000)) else
  ((C_isActor σ x1).bind (fun b1 => 
  (if b1 = 0 then
  (some (-1000000000000)) else
  (if inb x1 8 then 
  (some ((gi σ 1 (ix x1) 9).toInt64)) else none))))
abbrev rm_C_latest : Room := { frames := 2, cells := 0, slots := 0, locals := 43 }
set_option maxRecDepth 100000 in
set_option maxHeartbeats 4000000 in
theorem ac_C_latest {l : Launch} {D : va_G} {cc : Nat → ClassId} {al : Nat → Nat → Nat} {σ : ST} {h0 h : AH} {x1 : Int32} {res : Int64}  (hG : SW dmC (cfC cc) al σ h0 h) (E : C_latest σ x1 = some res) : AC l D vwCl (tysOf cc) NN y_G_latest (Cond.code y_G_latest b_G_latest 2 (some .long) :: TT) rm_C_latest [.ref (al 0 0), .int x1] h (fun rv h' => rv = some (.long res) ∧ SW dmC (cfC cc) al σ h0 h') := by
  refine AC.of (by decide) rfl (Nat.le_of_ble_eq_true rfl) (fun X M hR hI => ?_)
  unfold C_latest at E
  refine ax_lv (lv' := [(0, .ref (al 0 0)), (1, .int x1)]) [0, 1] rfl ?_
  refine ax_aload_n M d_G_latest_0 0 rfl ?_
  refine sw_get M hG 0 0 (by decide) in_G rfl rfl 8 (by decide) wd_160 rfl d_G_latest_1 ?_
  refine ax_if_eq (tgt := 28) M d_G_latest_4 (by decide) (fun c1 => ?_) (fun c1 => ?_)
  · have E := ob_t E c1
    refine ax_ldc2 (v := -1000000000000) M wd_368 d_G_latest_28 ?_
    obtain rfl := Option.some.inj E
    exact ax_lret M hR (by decide) (by decide) d_G_latest_31 ⟨rfl, hG⟩
  · have E := ob_f E c1
    refine ax_aload_n M d_G_latest_7 0 rfl ?_
    refine ax_iload_n M d_G_latest_8 1 rfl ?_
    obtain ⟨b1, e1, E⟩ := ob_b E
    refine ax_callV (n := 1) (C := R_G) (q := (R_G, F_G, 9)) M TT_good rfl rfl (SW.at hG 0 0 (by decide)) (ac_C_isActor hG e1) lm_G_53 (by decide) (by decide) rfl rfl (Nat.le_of_ble_eq_true rfl) d_G_latest_9 (by decide) (c1 := 0) (s1 := 0) (by decide) (ax_ret_i (fun h hG => ?_))
    refine ax_if_eq (tgt := 28) M d_G_latest_12 (by decide) (fun c2 => ?_) (fun c2 => ?_)
    · have E := ob_t E c2
      refine ax_ldc2 (v := -1000000000000) M wd_368 d_G_latest_28 ?_
      obtain rfl := Option.some.inj E
      exact ax_lret M hR (by decide) (by decide) d_G_latest_31 ⟨rfl, hG⟩
    · have E := ob_f E c2
      refine ax_aload_n M d_G_latest_15 0 rfl ?_
      refine sw_get M hG 0 0 (by decide) in_G rfl rfl 0 (by decide) wd_152 rfl d_G_latest_16 ?_
      refine ax_iload_n M d_G_latest_19 1 rfl ?_
      obtain ⟨k1, E⟩ := ob_c E
      refine sw_aldq (g := fun e => e) M hG 4 0 (by decide) rfl 1 rfl rfl k1 d_G_latest_20 ?_
      refine sw_getN M hG 1 (ix x1) (in_lt k1) in_A rfl rfl 9 (by decide) wd_90 rfl d_G_latest_21 ?_
      refine ax_i2l M d_G_latest_24 rfl ?_
      refine ax_goto (tgt := 31) M d_G_latest_25 (by decide) ?_
      obtain rfl := Option.some.inj E
      exact ax_lret M hR (by decide) (by decide) d_G_latest_31 ⟨rfl, hG⟩
def C_token (σ : ST) (x1 : Int32) (x2 : Int32) : Option (Int64) :=
  if (gi σ 0 0 8) = 0 then
  (some (-1000000000000)) else
  ((C_isEdge σ x1).bind (fun b1 => 
  (if b1 = 0 then
  (some (-1000000000000)) else
  (if inb x1 12 then 
  (if ix (gi σ 5 0 (ix x1)) < 12 then 
  ((C_isWithin x2 0 ((gi σ 2 (ix (gi σ 5 0 (ix x1))) 7) - 1)).bind (fun b2 => 
  (if b2 = 0 then
  (some (-1000000000000)) else
  ((C_Edge_at σ (ix (gi σ 5 0 (ix x1))) x2).bind (fun b3 => 
  (some b3.toInt64)))))) else none) else none))))
abbrev rm_C_token : Room := { frames := 2, cells := 0, slots := 0, locals := 43 }
set_option maxRecDepth 100000 in
set_option maxHeartbeats 4000000 in
theorem ac_C_token {l : Launch} {D : va_G} {cc : Nat → ClassId} {al : Nat → Nat → Nat} {σ : ST} {h0 h : AH} {x1 : Int32} {x2 : Int32} {res : Int64}  (hG : SW dmC (cfC cc) al σ h0 h) (E : C_token σ x1 x2 = some res) : AC l D vwCl (tysOf cc) NN y_G_token (Cond.code y_G_token b_G_token 4 (some .long) :: TT) rm_C_token [.ref (al 0 0), .int x1, .int x2] h (fun rv h' => rv = some (.long res) ∧ SW dmC (cfC cc) al σ h0 h') := by
  refine AC.of (by decide) rfl (Nat.le_of_ble_eq_true rfl) (fun X M hR hI => ?_)
  unfold C_token at E
  refine ax_lv (lv' := [(0, .ref (al 0 0)), (1, .int x1), (2, .int x2)]) [0, 1, 2] rfl ?_
  refine ax_aload_n M d_G_token_0 0 rfl ?_
  refine sw_get M hG 0 0 (by decide) in_G rfl rfl 8 (by decide) wd_160 rfl d_G_token_1 ?_
  refine ax_if_eq (tgt := 15) M d_G_token_4 (by decide) (fun c1 => ?_) (fun c1 => ?_)
  · have E := ob_t E c1
    refine ax_ldc2 (v := -1000000000000) M wd_368 d_G_token_15 ?_
    obtain rfl := Option.some.inj E
    exact ax_lret M hR (by decide) (by decide) d_G_token_18 ⟨rfl, hG⟩
  · have E := ob_f E c1
    refine ax_aload_n M d_G_token_7 0 rfl ?_
    refine ax_iload_n M d_G_token_8 1 rfl ?_
    obtain ⟨b1, e1, E⟩ := ob_b E
    refine ax_callV (n := 1) (C := R_G) (q := (R_G, F_G, 9)) M TT_good rfl rfl (SW.at hG 0 0 (by decide)) (ac_C_isEdge hG e1) lm_G_75 (by decide) (by decide) rfl rfl (Nat.le_of_ble_eq_true rfl) d_G_token_9 (by decide) (c1 := 0) (s1 := 0) (by decide) (ax_ret_i (fun h hG => ?_))
    refine ax_if_ne (tgt := 19) M d_G_token_12 (by decide) (fun c2 => ?_) (fun c2 => ?_)
    · have E := ob_f E c2
      refine ax_aload_n M d_G_token_19 0 rfl ?_
      refine sw_get M hG 0 0 (by decide) in_G rfl rfl 1 (by decide) wd_153 rfl d_G_token_20 ?_
      refine ax_iload_n M d_G_token_23 1 rfl ?_
      obtain ⟨k1, E⟩ := ob_c E
      refine sw_aldq (g := fun e => ix (gi σ 5 0 e)) M hG 5 0 (by decide) rfl 2 rfl rfl k1 d_G_token_24 ?_
      obtain ⟨k2, E⟩ := ob_c E
      refine ax_astore_n (lv' := [(2, .int x2), (3, .ref (al 2 (ix (gi σ 5 0 (ix x1)))))]) M d_G_token_25 (by decide) [3, 0] rfl ?_
      refine ax_iload_n M d_G_token_26 0 rfl ?_
      refine ax_iconst (v := 0) M d_G_token_27 (by decide) ?_
      refine ax_aload_n M d_G_token_28 1 rfl ?_
      refine sw_getN M hG 2 (ix (gi σ 5 0 (ix x1))) k2 in_E rfl rfl 7 (by decide) wd_131 rfl d_G_token_29 ?_
      refine ax_iconst (v := 1) M d_G_token_32 (by decide) ?_
      refine ax_isub M d_G_token_33 ?_
      obtain ⟨b2, e2, E⟩ := ob_b E
      refine ax_callS (n := 3) M TT_good (ac_C_isWithin hG e2) lm_G_35 (by decide) (by decide) rfl rfl (Nat.le_of_ble_eq_true rfl) d_G_token_34 (by decide) (c1 := 0) (s1 := 0) (by decide) (ax_ret_i (fun h hG => ?_))
      refine ax_if_eq (tgt := 49) M d_G_token_37 (by decide) (fun c3 => ?_) (fun c3 => ?_)
      · have E := ob_t E c3
        refine ax_ldc2 (v := -1000000000000) M wd_368 d_G_token_49 ?_
        obtain rfl := Option.some.inj E
        exact ax_lret M hR (by decide) (by decide) d_G_token_52 ⟨rfl, hG⟩
      · have E := ob_f E c3
        refine ax_aload_n M d_G_token_40 1 rfl ?_
        refine ax_iload_n M d_G_token_41 0 rfl ?_
        obtain ⟨b3, e3, E⟩ := ob_b E
        refine ax_callVN (n := 1) (q := (R_E, F_E, 9)) M TT_good rfl (SW.at hG 2 (ix (gi σ 5 0 (ix x1))) k2) (ac_C_Edge_at k2 hG e3) wd_373 lm_G_126 (by decide) (by decide) rfl rfl (Nat.le_of_ble_eq_true rfl) d_G_token_42 (by decide) (c1 := 0) (s1 := 0) (by decide) (ax_ret_i (fun h hG => ?_))
        refine ax_i2l M d_G_token_45 rfl ?_
        refine ax_goto (tgt := 52) M d_G_token_46 (by decide) ?_
        obtain rfl := Option.some.inj E
        exact ax_lret M hR (by decide) (by decide) d_G_token_52 ⟨rfl, hG⟩
    · have E := ob_t E c2
      refine ax_ldc2 (v := -1000000000000) M wd_368 d_G_token_15 ?_
      obtain rfl := Option.some.inj E
      exact ax_lret M hR (by decide) (by decide) d_G_token_18 ⟨rfl, hG⟩
def C_tokens (σ : ST) (x1 : Int32) : Option (Int32) :=
  (C_isEdge σ x1).bind (fun b1 => 
  (if b1 = 0 then
  (some (-1)) else
  (if (gi σ 0 0 8) = 0 then
  (some (-4)) else
  (if inb x1 12 then 
  (if ix (gi σ 5 0 (ix x1)) < 12 then 
  (some (gi σ 2 (ix (gi σ 5 0 (ix x1))) 7)) else none) else none))))
abbrev rm_C_tokens : Room := { frames := 2, cells := 0, slots := 0, locals := 43 }
set_option maxRecDepth 100000 in
set_option maxHeartbeats 4000000 in
theorem ac_C_tokens {l : Launch} {D : va_G} {cc : Nat → ClassId} {al : Nat → Nat → Nat} {σ : ST} {h0 h : AH} {x1 : Int32} {res : Int32}  (hG : SW dmC (cfC cc) al σ h0 h) (E : C_tokens σ x1 = some res) : AC l D vwCl (tysOf cc) NN y_G_tokens (Cond.code y_G_tokens b_G_tokens 2 (some .int) :: TT) rm_C_tokens [.ref (al 0 0), .int x1] h (fun rv h' => rv = some (.int res) ∧ SW dmC (cfC cc) al σ h0 h') := by
  refine AC.of (by decide) rfl (Nat.le_of_ble_eq_true rfl) (fun X M hR hI => ?_)
  unfold C_tokens at E
  refine ax_lv (lv' := [(0, .ref (al 0 0)), (1, .int x1)]) [0, 1] rfl ?_
  refine ax_aload_n M d_G_tokens_0 0 rfl ?_
  refine ax_iload_n M d_G_tokens_1 1 rfl ?_
  obtain ⟨b1, e1, E⟩ := ob_b E
  refine ax_callV (n := 1) (C := R_G) (q := (R_G, F_G, 9)) M TT_good rfl rfl (SW.at hG 0 0 (by decide)) (ac_C_isEdge hG e1) lm_G_75 (by decide) (by decide) rfl rfl (Nat.le_of_ble_eq_true rfl) d_G_tokens_2 (by decide) (c1 := 0) (s1 := 0) (by decide) (ax_ret_i (fun h hG => ?_))
  refine ax_if_ne (tgt := 10) M d_G_tokens_5 (by decide) (fun c1 => ?_) (fun c1 => ?_)
  · have E := ob_f E c1
    refine ax_aload_n M d_G_tokens_10 0 rfl ?_
    refine sw_get M hG 0 0 (by decide) in_G rfl rfl 8 (by decide) wd_160 rfl d_G_tokens_11 ?_
    refine ax_if_eq (tgt := 29) M d_G_tokens_14 (by decide) (fun c2 => ?_) (fun c2 => ?_)
    · have E := ob_t E c2
      refine ax_bipush (v := -4) M d_G_tokens_29 (by decide) ?_
      obtain rfl := Option.some.inj E
      exact ax_iret M hR (by decide) (by decide) d_G_tokens_31 ⟨rfl, hG⟩
    · have E := ob_f E c2
      refine ax_aload_n M d_G_tokens_17 0 rfl ?_
      refine sw_get M hG 0 0 (by decide) in_G rfl rfl 1 (by decide) wd_153 rfl d_G_tokens_18 ?_
      refine ax_iload_n M d_G_tokens_21 1 rfl ?_
      obtain ⟨k1, E⟩ := ob_c E
      refine sw_aldq (g := fun e => ix (gi σ 5 0 e)) M hG 5 0 (by decide) rfl 2 rfl rfl k1 d_G_tokens_22 ?_
      obtain ⟨k2, E⟩ := ob_c E
      refine sw_getN M hG 2 (ix (gi σ 5 0 (ix x1))) k2 in_E rfl rfl 7 (by decide) wd_131 rfl d_G_tokens_23 ?_
      refine ax_goto (tgt := 31) M d_G_tokens_26 (by decide) ?_
      obtain rfl := Option.some.inj E
      exact ax_iret M hR (by decide) (by decide) d_G_tokens_31 ⟨rfl, hG⟩
  · have E := ob_t E c1
    refine ax_iconst (v := (-1)) M d_G_tokens_8 (by decide) ?_
    obtain rfl := Option.some.inj E
    exact ax_iret M hR (by decide) (by decide) d_G_tokens_9 ⟨rfl, hG⟩
