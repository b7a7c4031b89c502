def M_repeat (σ : ST) : Option (Int32 × ST) :=
  (lp (fun s1 : ST × Int32 =>
  if 8 ≤ s1.2 then
  (some (.inr (.inl ((s1.1, s1.2))))) else
  (if inb s1.2 8 then 
  (if (gi s1.1 13 0 (ix s1.2)) = s1.2 then
  ((lp (fun s2 : ST × Int32 =>
  if 65 ≤ s2.2 then
  (some (.inr ((s2.1, s2.2)))) else
  ((M_whole s2.1 s1.2 s2.2).bind (fun b1 => 
  (if b1.1 = 0 then
  (some (.inl ((b1.2, s2.2 + 1)))) else
  (some (.inr ((b1.2, s2.2)))))))) 1000 ((s1.1, 1))).bind (fun r2 : ST × Int32 =>
  if r2.2 = 65 then
  (some (.inr (.inr ((65, r2.1))))) else
  (some (.inl ((r2.1, s1.2 + 1)))))) else
  (some (.inl ((s1.1, s1.2 + 1))))) else none)) 1000 ((σ, 0))).bind (fun r1 : (ST × Int32) ⊕ (Int32 × ST) => Sum.elim (fun o1 : ST × Int32 =>
  ((lp (fun s3 : Int32 × Int32 =>
  if 8 ≤ s3.2 then
  (some (.inr ((s3.1, s3.2)))) else
  (if inb s3.2 8 then 
  (if (gi o1.1 1 0 (ix s3.2)) = 0 then
  (some (.inl ((s3.1, s3.2 + 1)))) else
  (some (.inl ((s3.1 + (gi o1.1 14 0 (ix s3.2)), s3.2 + 1))))) else none)) 1000 ((0, 0))).bind (fun r3 : Int32 × Int32 =>
  some ((r3.1, o1.1))))) (fun v1 : Int32 × ST => some v1) r1)
abbrev rm_M_repeat : Room := { frames := 1, cells := 0, slots := 0, locals := 25 }
set_option maxRecDepth 100000 in
set_option maxHeartbeats 4000000 in
theorem ac_M_repeat {l : Launch} {D : va_G} {cc : Nat → ClassId} {al : Nat → Nat → Nat} {σ : ST} {h0 h : AH}  {res : Int32 × ST}  (hG : SW dmM (cfM cc) al σ h0 h) (E : M_repeat σ = some res) : AC l D vwCl (tysOf cc) NN y_M_repeat (Cond.code y_M_repeat b_M_repeat 4 (some .int) :: TT) rm_M_repeat [.ref (al 0 0)] h (fun rv h' => rv = some (.int res.1) ∧ SW dmM (cfM cc) al res.2 h0 h') := by
  refine AC.of (by decide) rfl (Nat.le_of_ble_eq_true rfl) (fun X M hR hI => ?_)
  unfold M_repeat at E
  refine ax_lv (lv' := [(0, .ref (al 0 0))]) [0] rfl ?_
  refine ax_iconst (v := 0) M d_M_repeat_0 (by decide) ?_
  refine ax_istore_n (lv' := [(0, .ref (al 0 0)), (1, .int 0)]) M d_M_repeat_1 (by decide) [1, 0] rfl ?_
  refine ax_iconst (v := 0) M d_M_repeat_2 (by decide) ?_
  refine ax_istore_n (lv' := [(0, .ref (al 0 0)), (1, .int 0), (2, .int 0)]) M d_M_repeat_3 (by decide) [1, 2, 0] rfl ?_
  refine ax_lv (lv' := [(0, .ref (al 0 0)), (1, .int 0), (2, .int 0)]) [0, 1, 2] rfl ?_
  obtain ⟨r1, l2, E⟩ := ob_b E
  refine lp_walk (fun (s1 : ST × Int32) => ∀ h : AH, SW dmM (cfM cc) al s1.1 h0 h → AW l D vwCl rm_M_repeat 4 X 0 0 h 4 [(0, .ref (al 0 0)), (1, .int 0), (2, .int s1.2)] []) (fun (r1 : (ST × Int32) ⊕ (Int32 × ST)) => Sum.elim (fun o1 : ST × Int32 => ∀ h : AH, SW dmM (cfM cc) al o1.1 h0 h → AW l D vwCl rm_M_repeat 4 X 0 0 h 61 [(0, .ref (al 0 0)), (1, .int 0), (2, .int o1.2)] []) (fun v1 : Int32 × ST => ∀ h : AH, SW dmM (cfM cc) al v1.2 h0 h → some (Value.int v1.1) = some (.int res.1) ∧ SW dmM (cfM cc) al res.2 h0 h) r1) ?_ _ _ _ l2 ?_ h hG
  · intro s1 y1 E K1 K2 h hG
    refine ax_iload_n M d_M_repeat_4 2 rfl ?_
    refine ax_bipush (v := 8) M d_M_repeat_5 (by decide) ?_
    refine ax_icmp_ge (tgt := 61) M d_M_repeat_7 (by decide) (fun c1 => ?_) (fun c1 => ?_)
    · have E := ob_t E c1
      obtain rfl := Option.some.inj E
      refine ax_lv (lv' := [(0, .ref (al 0 0)), (1, .int 0), (2, .int s1.2)]) [0, 1, 2] rfl ?_
      exact (qe_l (K2 _ rfl)) h hG
    · have E := ob_f E c1
      refine ax_aload_n M d_M_repeat_10 0 rfl ?_
      refine sw_get M hG 0 0 (by decide) in_M rfl rfl 12 (by decide) wd_416 rfl d_M_repeat_11 ?_
      refine ax_iload_n M d_M_repeat_14 2 rfl ?_
      obtain ⟨k1, E⟩ := ob_c E
      refine sw_iald M hG 13 0 (by decide) rfl 0 rfl k1 d_M_repeat_15 ?_
      refine ax_iload_n M d_M_repeat_16 2 rfl ?_
      refine ax_icmp_eq (tgt := 23) M d_M_repeat_17 (by decide) (fun c2 => ?_) (fun c2 => ?_)
      · have E := ob_t E c2
        refine ax_iconst (v := 1) M d_M_repeat_23 (by decide) ?_
        refine ax_istore_n (lv' := [(0, .ref (al 0 0)), (1, .int 0), (2, .int s1.2), (3, .int 1)]) M d_M_repeat_24 (by decide) [1, 2, 3, 0] rfl ?_
        refine ax_lv (lv' := [(0, .ref (al 0 0)), (1, .int 0), (2, .int s1.2), (3, .int 1)]) [0, 1, 2, 3] rfl ?_
        obtain ⟨r2, l1, E⟩ := ob_b E
        refine lp_walk (fun (s2 : ST × Int32) => ∀ h : AH, SW dmM (cfM cc) al s2.1 h0 h → AW l D vwCl rm_M_repeat 4 X 0 0 h 25 [(0, .ref (al 0 0)), (1, .int 0), (2, .int s1.2), (3, .int s2.2)] []) (fun (r2 : ST × Int32) => ∀ h : AH, SW dmM (cfM cc) al r2.1 h0 h → AW l D vwCl rm_M_repeat 4 X 0 0 h 46 [(0, .ref (al 0 0)), (1, .int 0), (2, .int s1.2), (3, .int r2.2)] []) ?_ _ _ _ l1 ?_ h hG
        · intro s2 y2 E K3 K4 h hG
          refine ax_iload_n M d_M_repeat_25 3 rfl ?_
          refine ax_bipush (v := 65) M d_M_repeat_26 (by decide) ?_
          refine ax_icmp_ge (tgt := 46) M d_M_repeat_28 (by decide) (fun c3 => ?_) (fun c3 => ?_)
          · have E := ob_t E c3
            obtain rfl := Option.some.inj E
            refine ax_lv (lv' := [(0, .ref (al 0 0)), (1, .int 0), (2, .int s1.2), (3, .int s2.2)]) [0, 1, 2, 3] rfl ?_
            exact (K4 _ rfl) h hG
          · have E := ob_f E c3
            refine ax_aload_n M d_M_repeat_31 0 rfl ?_
            refine ax_iload_n M d_M_repeat_32 2 rfl ?_
            refine ax_iload_n M d_M_repeat_33 3 rfl ?_
            obtain ⟨b1, e1, E⟩ := ob_b E
            refine ax_callV (n := 2) (C := R_M) (q := (R_M, F_M, 25)) M TT_good rfl rfl (SW.at hG 0 0 (by decide)) (ac_M_whole hG e1) lm_M_97 (by decide) (by decide) rfl rfl (Nat.le_of_ble_eq_true rfl) d_M_repeat_34 (by decide) (c1 := 0) (s1 := 0) (by decide) (ax_ret_i (fun h hG => ?_))
            refine ax_if_ne (tgt := 46) M d_M_repeat_37 (by decide) (fun c4 => ?_) (fun c4 => ?_)
            · have E := ob_f E c4
              obtain rfl := Option.some.inj E
              refine ax_lv (lv' := [(0, .ref (al 0 0)), (1, .int 0), (2, .int s1.2), (3, .int s2.2)]) [0, 1, 2, 3] rfl ?_
              exact (K4 _ rfl) h hG
            · have E := ob_t E c4
              refine ax_iinc (v := s2.2 + 1) (lv' := [(0, .ref (al 0 0)), (1, .int 0), (2, .int s1.2), (3, .int (s2.2 + 1))]) M d_M_repeat_40 3 rfl rfl (by decide) [1, 2, 3, 0] rfl ?_
              refine ax_goto (tgt := 25) M d_M_repeat_43 (by decide) ?_
              obtain rfl := Option.some.inj E
              refine ax_lv (lv' := [(0, .ref (al 0 0)), (1, .int 0), (2, .int s1.2), (3, .int (s2.2 + 1))]) [0, 1, 2, 3] rfl ?_
              exact K3 _ rfl h hG
        · intro h hG
          refine ax_iload_n M d_M_repeat_46 3 rfl ?_
          refine ax_bipush (v := 65) M d_M_repeat_47 (by decide) ?_
          refine ax_icmp_ne (tgt := 55) M d_M_repeat_49 (by decide) (fun c5 => ?_) (fun c5 => ?_)
          · have E := ob_f E c5
            refine ax_iinc (v := s1.2 + 1) (lv' := [(0, .ref (al 0 0)), (1, .int 0), (2, .int (s1.2 + 1)), (3, .int r2.2)]) M d_M_repeat_55 2 rfl rfl (by decide) [1, 2, 0, 3] rfl ?_
            refine ax_goto (tgt := 4) M d_M_repeat_58 (by decide) ?_
            obtain rfl := Option.some.inj E
            refine ax_lv (lv' := [(0, .ref (al 0 0)), (1, .int 0), (2, .int (s1.2 + 1))]) [0, 1, 2] rfl ?_
            exact K1 _ rfl h hG
          · have E := ob_t E c5
            refine ax_bipush (v := 65) M d_M_repeat_52 (by decide) ?_
            obtain rfl := Option.some.inj E
            exact ax_iret M hR (by decide) (by decide) d_M_repeat_54 ((qe_r (K2 _ rfl)) h hG)
      · have E := ob_f E c2
        refine ax_goto (tgt := 55) M d_M_repeat_20 (by decide) ?_
        refine ax_iinc (v := s1.2 + 1) (lv' := [(0, .ref (al 0 0)), (1, .int 0), (2, .int (s1.2 + 1))]) M d_M_repeat_55 2 rfl rfl (by decide) [1, 2, 0] rfl ?_
        refine ax_goto (tgt := 4) M d_M_repeat_58 (by decide) ?_
        obtain rfl := Option.some.inj E
        refine ax_lv (lv' := [(0, .ref (al 0 0)), (1, .int 0), (2, .int (s1.2 + 1))]) [0, 1, 2] rfl ?_
        exact K1 _ rfl h hG
  · rcases r1 with o1 | v1
    · have E := se_l E
      refine qi_l ?_
      intro h hG
      refine ax_iconst (v := 0) M d_M_repeat_61 (by decide) ?_
      refine ax_istore_n (lv' := [(0, .ref (al 0 0)), (1, .int 0), (2, .int 0)]) M d_M_repeat_62 (by decide) [1, 2, 0] rfl ?_
      refine ax_lv (lv' := [(0, .ref (al 0 0)), (1, .int 0), (2, .int 0)]) [0, 1, 2] rfl ?_
      obtain ⟨r3, l3, E⟩ := ob_b E
      refine lp_walk (fun (s3 : Int32 × Int32) => ∀ h : AH, SW dmM (cfM cc) al o1.1 h0 h → AW l D vwCl rm_M_repeat 4 X 0 0 h 63 [(0, .ref (al 0 0)), (1, .int s3.1), (2, .int s3.2)] []) (fun (r3 : Int32 × Int32) => ∀ h : AH, SW dmM (cfM cc) al o1.1 h0 h → AW l D vwCl rm_M_repeat 4 X 0 0 h 93 [(0, .ref (al 0 0)), (1, .int r3.1), (2, .int r3.2)] []) ?_ _ _ _ l3 ?_ h hG
      · intro s3 y3 E K5 K6 h hG
        refine ax_iload_n M d_M_repeat_63 2 rfl ?_
        refine ax_bipush (v := 8) M d_M_repeat_64 (by decide) ?_
        refine ax_icmp_ge (tgt := 93) M d_M_repeat_66 (by decide) (fun c6 => ?_) (fun c6 => ?_)
        · have E := ob_t E c6
          obtain rfl := Option.some.inj E
          refine ax_lv (lv' := [(0, .ref (al 0 0)), (1, .int s3.1), (2, .int s3.2)]) [0, 1, 2] rfl ?_
          exact (K6 _ rfl) h hG
        · have E := ob_f E c6
          refine ax_aload_n M d_M_repeat_69 0 rfl ?_
          refine sw_get M hG 0 0 (by decide) in_M rfl rfl 0 (by decide) wd_404 rfl d_M_repeat_70 ?_
          refine ax_iload_n M d_M_repeat_73 2 rfl ?_
          obtain ⟨k2, E⟩ := ob_c E
          refine sw_zald M hG 1 0 (by decide) rfl 4 rfl k2 d_M_repeat_74 ?_
          refine ax_if_eq (tgt := 87) M d_M_repeat_75 (by decide) (fun c7 => ?_) (fun c7 => ?_)
          · have E := ob_t E c7
            refine ax_iinc (v := s3.2 + 1) (lv' := [(0, .ref (al 0 0)), (1, .int s3.1), (2, .int (s3.2 + 1))]) M d_M_repeat_87 2 rfl rfl (by decide) [1, 2, 0] rfl ?_
            refine ax_goto (tgt := 63) M d_M_repeat_90 (by decide) ?_
            obtain rfl := Option.some.inj E
            refine ax_lv (lv' := [(0, .ref (al 0 0)), (1, .int s3.1), (2, .int (s3.2 + 1))]) [0, 1, 2] rfl ?_
            exact K5 _ rfl h hG
          · have E := ob_f E c7
            refine ax_iload_n M d_M_repeat_78 1 rfl ?_
            refine ax_aload_n M d_M_repeat_79 0 rfl ?_
            refine sw_get M hG 0 0 (by decide) in_M rfl rfl 13 (by decide) wd_417 rfl d_M_repeat_80 ?_
            refine ax_iload_n M d_M_repeat_83 2 rfl ?_
            refine sw_iald M hG 14 0 (by decide) rfl 0 rfl k2 d_M_repeat_84 ?_
            refine ax_iadd M d_M_repeat_85 ?_
            refine ax_istore_n (lv' := [(0, .ref (al 0 0)), (1, .int (s3.1 + (gi o1.1 14 0 (ix s3.2)))), (2, .int s3.2)]) M d_M_repeat_86 (by decide) [1, 0, 2] rfl ?_
            refine ax_iinc (v := s3.2 + 1) (lv' := [(0, .ref (al 0 0)), (1, .int (s3.1 + (gi o1.1 14 0 (ix s3.2)))), (2, .int (s3.2 + 1))]) M d_M_repeat_87 2 rfl rfl (by decide) [1, 2, 0] rfl ?_
            refine ax_goto (tgt := 63) M d_M_repeat_90 (by decide) ?_
            obtain rfl := Option.some.inj E
            refine ax_lv (lv' := [(0, .ref (al 0 0)), (1, .int (s3.1 + (gi o1.1 14 0 (ix s3.2)))), (2, .int (s3.2 + 1))]) [0, 1, 2] rfl ?_
            exact K5 _ rfl h hG
      · intro h hG
        refine ax_iload_n M d_M_repeat_93 1 rfl ?_
        obtain rfl := Option.some.inj E
        exact ax_iret M hR (by decide) (by decide) d_M_repeat_94 ⟨rfl, hG⟩
    · have E := se_r E
      refine qi_r ?_
      obtain rfl := Option.some.inj E
      exact fun h hG => ⟨rfl, hG⟩
def M_ready (σ : ST) (x1 : Int32) : Option (Int32) :=
  if inb x1 8 then 
  (if (gi σ 1 0 (ix x1)) = 0 then
  (some 0) else
  (if (gi σ 15 0 (ix x1)) < (gi σ 14 0 (ix x1)) then
  ((lp (fun s1 : Int32 =>
  if (gi σ 0 0 8) ≤ s1 then
  (some (.inr (.inl s1))) else
  (if inb s1 13 then 
  (if (gi σ 5 0 (ix s1)) = x1 then
  (if inb s1 12 then 
  (if (gi σ 7 0 (ix s1)) ≤ (gi σ 18 0 (ix s1)) then
  (some (.inl (s1 + 1))) else
  (some (.inr (.inr 0)))) else none) else
  (some (.inl (s1 + 1)))) else none)) 1000 0).bind (fun r1 : (Int32) ⊕ (Int32) => Sum.elim (fun o1 : Int32 =>
  (some 1)) (fun v1 : Int32 => some v1) r1)) else
  (some 0))) else none
abbrev rm_M_ready : Room := { frames := 0, cells := 0, slots := 0, locals := 0 }
set_option maxRecDepth 100000 in
set_option maxHeartbeats 4000000 in
theorem ac_M_ready {l : Launch} {D : va_G} {cc : Nat → ClassId} {al : Nat → Nat → Nat} {σ : ST} {h0 h : AH} {x1 : Int32} {res : Int32}  (hG : SW dmM (cfM cc) al σ h0 h) (E : M_ready σ x1 = some res) : AC l D vwCl (tysOf cc) NN y_M_ready (Cond.code y_M_ready b_M_ready 3 (some .boolean) :: TT) rm_M_ready [.ref (al 0 0), .int x1] h (fun rv h' => rv = some (.int res) ∧ SW dmM (cfM cc) al σ h0 h') := by
  refine AC.of (by decide) rfl (Nat.le_of_ble_eq_true rfl) (fun X M hR hI => ?_)
  unfold M_ready at E
  refine ax_lv (lv' := [(0, .ref (al 0 0)), (1, .int x1)]) [0, 1] rfl ?_
  refine ax_aload_n M d_M_ready_0 0 rfl ?_
  refine sw_get M hG 0 0 (by decide) in_M rfl rfl 0 (by decide) wd_404 rfl d_M_ready_1 ?_
  refine ax_iload_n M d_M_ready_4 1 rfl ?_
  obtain ⟨k1, E⟩ := ob_c E
  refine sw_zald M hG 1 0 (by decide) rfl 4 rfl k1 d_M_ready_5 ?_
  refine ax_if_eq (tgt := 24) M d_M_ready_6 (by decide) (fun c1 => ?_) (fun c1 => ?_)
  · have E := ob_t E c1
    refine ax_iconst (v := 0) M d_M_ready_24 (by decide) ?_
    obtain rfl := Option.some.inj E
    exact ax_zret M hR rfl (by decide) (by decide) d_M_ready_25 ⟨rfl, hG⟩
  · have E := ob_f E c1
    refine ax_aload_n M d_M_ready_9 0 rfl ?_
    refine sw_get M hG 0 0 (by decide) in_M rfl rfl 14 (by decide) wd_418 rfl d_M_ready_10 ?_
    refine ax_iload_n M d_M_ready_13 1 rfl ?_
    refine sw_iald M hG 15 0 (by decide) rfl 0 rfl k1 d_M_ready_14 ?_
    refine ax_aload_n M d_M_ready_15 0 rfl ?_
    refine sw_get M hG 0 0 (by decide) in_M rfl rfl 13 (by decide) wd_417 rfl d_M_ready_16 ?_
    refine ax_iload_n M d_M_ready_19 1 rfl ?_
    refine sw_iald M hG 14 0 (by decide) rfl 0 rfl k1 d_M_ready_20 ?_
    refine ax_icmp_lt (tgt := 26) M d_M_ready_21 (by decide) (fun c2 => ?_) (fun c2 => ?_)
    · have E := ob_t E c2
      refine ax_iconst (v := 0) M d_M_ready_26 (by decide) ?_
      refine ax_istore_n (lv' := [(0, .ref (al 0 0)), (1, .int x1), (2, .int 0)]) M d_M_ready_27 (by decide) [1, 2, 0] rfl ?_
      refine ax_lv (lv' := [(0, .ref (al 0 0)), (1, .int x1), (2, .int 0)]) [0, 1, 2] rfl ?_
      obtain ⟨r1, l1, E⟩ := ob_b E
      refine lp_walk (fun (s1 : Int32) => ∀ h : AH, SW dmM (cfM cc) al σ h0 h → AW l D vwCl rm_M_ready 3 X 0 0 h 28 [(0, .ref (al 0 0)), (1, .int x1), (2, .int s1)] []) (fun (r1 : (Int32) ⊕ (Int32)) => Sum.elim (fun o1 : Int32 => ∀ h : AH, SW dmM (cfM cc) al σ h0 h → AW l D vwCl rm_M_ready 3 X 0 0 h 69 [(0, .ref (al 0 0)), (1, .int x1), (2, .int o1)] []) (fun v1 : Int32 => ∀ h : AH, SW dmM (cfM cc) al σ h0 h → some (Value.int v1) = some (.int res) ∧ SW dmM (cfM cc) al σ h0 h) r1) ?_ _ _ _ l1 ?_ h hG
      · intro s1 y1 E K1 K2 h hG
        refine ax_iload_n M d_M_ready_28 2 rfl ?_
        refine ax_aload_n M d_M_ready_29 0 rfl ?_
        refine sw_get M hG 0 0 (by decide) in_M rfl rfl 8 (by decide) wd_412 rfl d_M_ready_30 ?_
        refine ax_icmp_ge (tgt := 69) M d_M_ready_33 (by decide) (fun c3 => ?_) (fun c3 => ?_)
        · have E := ob_t E c3
          obtain rfl := Option.some.inj E
          refine ax_lv (lv' := [(0, .ref (al 0 0)), (1, .int x1), (2, .int s1)]) [0, 1, 2] rfl ?_
          exact (qe_l (K2 _ rfl)) h hG
        · have E := ob_f E c3
          refine ax_aload_n M d_M_ready_36 0 rfl ?_
          refine sw_get M hG 0 0 (by decide) in_M rfl rfl 4 (by decide) wd_408 rfl d_M_ready_37 ?_
          refine ax_iload_n M d_M_ready_40 2 rfl ?_
          obtain ⟨k2, E⟩ := ob_c E
          refine sw_iald M hG 5 0 (by decide) rfl 0 rfl k2 d_M_ready_41 ?_
          refine ax_iload_n M d_M_ready_42 1 rfl ?_
          refine ax_icmp_ne (tgt := 63) M d_M_ready_43 (by decide) (fun c4 => ?_) (fun c4 => ?_)
          · have E := ob_f E c4
            refine ax_iinc (v := s1 + 1) (lv' := [(0, .ref (al 0 0)), (1, .int x1), (2, .int (s1 + 1))]) M d_M_ready_63 2 rfl rfl (by decide) [1, 2, 0] rfl ?_
            refine ax_goto (tgt := 28) M d_M_ready_66 (by decide) ?_
            obtain rfl := Option.some.inj E
            refine ax_lv (lv' := [(0, .ref (al 0 0)), (1, .int x1), (2, .int (s1 + 1))]) [0, 1, 2] rfl ?_
            exact K1 _ rfl h hG
          · have E := ob_t E c4
            refine ax_aload_n M d_M_ready_46 0 rfl ?_
            refine sw_get M hG 0 0 (by decide) in_M rfl rfl 17 (by decide) wd_421 rfl d_M_ready_47 ?_
            refine ax_iload_n M d_M_ready_50 2 rfl ?_
            obtain ⟨k3, E⟩ := ob_c E
            refine sw_iald M hG 18 0 (by decide) rfl 0 rfl k3 d_M_ready_51 ?_
            refine ax_aload_n M d_M_ready_52 0 rfl ?_
            refine sw_get M hG 0 0 (by decide) in_M rfl rfl 6 (by decide) wd_410 rfl d_M_ready_53 ?_
            refine ax_iload_n M d_M_ready_56 2 rfl ?_
            refine sw_iald M hG 7 0 (by decide) rfl 0 rfl k2 d_M_ready_57 ?_
            refine ax_icmp_ge (tgt := 63) M d_M_ready_58 (by decide) (fun c5 => ?_) (fun c5 => ?_)
            · have E := ob_t E c5
              refine ax_iinc (v := s1 + 1) (lv' := [(0, .ref (al 0 0)), (1, .int x1), (2, .int (s1 + 1))]) M d_M_ready_63 2 rfl rfl (by decide) [1, 2, 0] rfl ?_
              refine ax_goto (tgt := 28) M d_M_ready_66 (by decide) ?_
              obtain rfl := Option.some.inj E
              refine ax_lv (lv' := [(0, .ref (al 0 0)), (1, .int x1), (2, .int (s1 + 1))]) [0, 1, 2] rfl ?_
              exact K1 _ rfl h hG
            · have E := ob_f E c5
              refine ax_iconst (v := 0) M d_M_ready_61 (by decide) ?_
              obtain rfl := Option.some.inj E
              exact ax_zret M hR rfl (by decide) (by decide) d_M_ready_62 ((qe_r (K2 _ rfl)) h hG)
      · rcases r1 with o1 | v1
        · have E := se_l E
          refine qi_l ?_
          intro h hG
          refine ax_iconst (v := 1) M d_M_ready_69 (by decide) ?_
          obtain rfl := Option.some.inj E
          exact ax_zret M hR rfl (by decide) (by decide) d_M_ready_70 ⟨rfl, hG⟩
        · have E := se_r E
          refine qi_r ?_
          obtain rfl := Option.some.inj E
          exact fun h hG => ⟨rfl, hG⟩
    · have E := ob_f E c2
      refine ax_iconst (v := 0) M d_M_ready_24 (by decide) ?_
      obtain rfl := Option.some.inj E
      exact ax_zret M hR rfl (by decide) (by decide) d_M_ready_25 ⟨rfl, hG⟩
def M_growth (σ : ST) (x1 : Int32) : Option (Int32) :=
  (lp (fun s1 : Int32 × Int32 =>
  if (gi σ 0 0 8) ≤ s1.2 then
  (some (.inr ((s1.1, s1.2)))) else
  (if inb s1.2 13 then 
  (if (gi σ 4 0 (ix s1.2)) = x1 then
  (if (gi σ 5 0 (ix s1.2)) = x1 then
  (some (.inl (((s1.1 + (gi σ 6 0 (ix s1.2))) - (gi σ 7 0 (ix s1.2)), s1.2 + 1)))) else
  (some (.inl ((s1.1 + (gi σ 6 0 (ix s1.2)), s1.2 + 1))))) else
  (if (gi σ 5 0 (ix s1.2)) = x1 then
  (some (.inl ((s1.1 - (gi σ 7 0 (ix s1.2)), s1.2 + 1)))) else
  (some (.inl ((s1.1, s1.2 + 1)))))) else none)) 1000 ((0, 0))).bind (fun r1 : Int32 × Int32 =>
  some r1.1)
abbrev rm_M_growth : Room := { frames := 0, cells := 0, slots := 0, locals := 0 }
set_option maxRecDepth 100000 in
set_option maxHeartbeats 4000000 in
theorem ac_M_growth {l : Launch} {D : va_G} {cc : Nat → ClassId} {al : Nat → Nat → Nat} {σ : ST} {h0 h : AH} {x1 : Int32} {res : Int32}  (hG : SW dmM (cfM cc) al σ h0 h) (E : M_growth σ x1 = some res) : AC l D vwCl (tysOf cc) NN y_M_growth (Cond.code y_M_growth b_M_growth 4 (some .int) :: TT) rm_M_growth [.ref (al 0 0), .int x1] h (fun rv h' => rv = some (.int res) ∧ SW dmM (cfM cc) al σ h0 h') := by
  refine AC.of (by decide) rfl (Nat.le_of_ble_eq_true rfl) (fun X M hR hI => ?_)
  unfold M_growth at E
  refine ax_lv (lv' := [(0, .ref (al 0 0)), (1, .int x1)]) [0, 1] rfl ?_
  refine ax_iconst (v := 0) M d_M_growth_0 (by decide) ?_
  refine ax_istore_n (lv' := [(0, .ref (al 0 0)), (1, .int x1), (2, .int 0)]) M d_M_growth_1 (by decide) [1, 2, 0] rfl ?_
  refine ax_iconst (v := 0) M d_M_growth_2 (by decide) ?_
  refine ax_istore_n (lv' := [(0, .ref (al 0 0)), (1, .int x1), (2, .int 0), (3, .int 0)]) M d_M_growth_3 (by decide) [1, 2, 3, 0] rfl ?_
  refine ax_lv (lv' := [(0, .ref (al 0 0)), (1, .int x1), (2, .int 0), (3, .int 0)]) [0, 1, 2, 3] rfl ?_
  obtain ⟨r1, l1, E⟩ := ob_b E
  refine lp_walk (fun (s1 : Int32 × Int32) => ∀ h : AH, SW dmM (cfM cc) al σ h0 h → AW l D vwCl rm_M_growth 4 X 0 0 h 4 [(0, .ref (al 0 0)), (1, .int x1), (2, .int s1.1), (3, .int s1.2)] []) (fun (r1 : Int32 × Int32) => ∀ h : AH, SW dmM (cfM cc) al σ h0 h → AW l D vwCl rm_M_growth 4 X 0 0 h 56 [(0, .ref (al 0 0)), (1, .int x1), (2, .int r1.1), (3, .int r1.2)] []) ?_ _ _ _ l1 ?_ h hG
  · intro s1 y1 E K1 K2 h hG
    refine ax_iload_n M d_M_growth_4 3 rfl ?_
    refine ax_aload_n M d_M_growth_5 0 rfl ?_
    refine sw_get M hG 0 0 (by decide) in_M rfl rfl 8 (by decide) wd_412 rfl d_M_growth_6 ?_
    refine ax_icmp_ge (tgt := 56) M d_M_growth_9 (by decide) (fun c1 => ?_) (fun c1 => ?_)
    · have E := ob_t E c1
      obtain rfl := Option.some.inj E
      refine ax_lv (lv' := [(0, .ref (al 0 0)), (1, .int x1), (2, .int s1.1), (3, .int s1.2)]) [0, 1, 2, 3] rfl ?_
      exact (K2 _ rfl) h hG
    · have E := ob_f E c1
      refine ax_aload_n M d_M_growth_12 0 rfl ?_
      refine sw_get M hG 0 0 (by decide) in_M rfl rfl 3 (by decide) wd_407 rfl d_M_growth_13 ?_
      refine ax_iload_n M d_M_growth_16 3 rfl ?_
      obtain ⟨k1, E⟩ := ob_c E
      refine sw_iald M hG 4 0 (by decide) rfl 0 rfl k1 d_M_growth_17 ?_
      refine ax_iload_n M d_M_growth_18 1 rfl ?_
      refine ax_icmp_ne (tgt := 31) M d_M_growth_19 (by decide) (fun c2 => ?_) (fun c2 => ?_)
      · have E := ob_f E c2
        refine ax_aload_n M d_M_growth_31 0 rfl ?_
        refine sw_get M hG 0 0 (by decide) in_M rfl rfl 4 (by decide) wd_408 rfl d_M_growth_32 ?_
        refine ax_iload_n M d_M_growth_35 3 rfl ?_
        refine sw_iald M hG 5 0 (by decide) rfl 0 rfl k1 d_M_growth_36 ?_
        refine ax_iload_n M d_M_growth_37 1 rfl ?_
        refine ax_icmp_ne (tgt := 50) M d_M_growth_38 (by decide) (fun c3 => ?_) (fun c3 => ?_)
        · have E := ob_f E c3
          refine ax_iinc (v := s1.2 + 1) (lv' := [(0, .ref (al 0 0)), (1, .int x1), (2, .int s1.1), (3, .int (s1.2 + 1))]) M d_M_growth_50 3 rfl rfl (by decide) [1, 2, 3, 0] rfl ?_
          refine ax_goto (tgt := 4) M d_M_growth_53 (by decide) ?_
          obtain rfl := Option.some.inj E
          refine ax_lv (lv' := [(0, .ref (al 0 0)), (1, .int x1), (2, .int s1.1), (3, .int (s1.2 + 1))]) [0, 1, 2, 3] rfl ?_
          exact K1 _ rfl h hG
        · have E := ob_t E c3
          refine ax_iload_n M d_M_growth_41 2 rfl ?_
          refine ax_aload_n M d_M_growth_42 0 rfl ?_
          refine sw_get M hG 0 0 (by decide) in_M rfl rfl 6 (by decide) wd_410 rfl d_M_growth_43 ?_
          refine ax_iload_n M d_M_growth_46 3 rfl ?_
          refine sw_iald M hG 7 0 (by decide) rfl 0 rfl k1 d_M_growth_47 ?_
          refine ax_isub M d_M_growth_48 ?_
          refine ax_istore_n (lv' := [(0, .ref (al 0 0)), (1, .int x1), (2, .int (s1.1 - (gi σ 7 0 (ix s1.2)))), (3, .int s1.2)]) M d_M_growth_49 (by decide) [1, 2, 0, 3] rfl ?_
          refine ax_iinc (v := s1.2 + 1) (lv' := [(0, .ref (al 0 0)), (1, .int x1), (2, .int (s1.1 - (gi σ 7 0 (ix s1.2)))), (3, .int (s1.2 + 1))]) M d_M_growth_50 3 rfl rfl (by decide) [1, 2, 3, 0] rfl ?_
          refine ax_goto (tgt := 4) M d_M_growth_53 (by decide) ?_
          obtain rfl := Option.some.inj E
          refine ax_lv (lv' := [(0, .ref (al 0 0)), (1, .int x1), (2, .int (s1.1 - (gi σ 7 0 (ix s1.2)))), (3, .int (s1.2 + 1))]) [0, 1, 2, 3] rfl ?_
          exact K1 _ rfl h hG
      · have E := ob_t E c2
        refine ax_iload_n M d_M_growth_22 2 rfl ?_
        refine ax_aload_n M d_M_growth_23 0 rfl ?_
        refine sw_get M hG 0 0 (by decide) in_M rfl rfl 5 (by decide) wd_409 rfl d_M_growth_24 ?_
        refine ax_iload_n M d_M_growth_27 3 rfl ?_
        refine sw_iald M hG 6 0 (by decide) rfl 0 rfl k1 d_M_growth_28 ?_
        refine ax_iadd M d_M_growth_29 ?_
        refine ax_istore_n (lv' := [(0, .ref (al 0 0)), (1, .int x1), (2, .int (s1.1 + (gi σ 6 0 (ix s1.2)))), (3, .int s1.2)]) M d_M_growth_30 (by decide) [1, 2, 0, 3] rfl ?_
        refine ax_aload_n M d_M_growth_31 0 rfl ?_
        refine sw_get M hG 0 0 (by decide) in_M rfl rfl 4 (by decide) wd_408 rfl d_M_growth_32 ?_
        refine ax_iload_n M d_M_growth_35 3 rfl ?_
        refine sw_iald M hG 5 0 (by decide) rfl 0 rfl k1 d_M_growth_36 ?_
        refine ax_iload_n M d_M_growth_37 1 rfl ?_
        refine ax_icmp_ne (tgt := 50) M d_M_growth_38 (by decide) (fun c4 => ?_) (fun c4 => ?_)
        · have E := ob_f E c4
          refine ax_iinc (v := s1.2 + 1) (lv' := [(0, .ref (al 0 0)), (1, .int x1), (2, .int (s1.1 + (gi σ 6 0 (ix s1.2)))), (3, .int (s1.2 + 1))]) M d_M_growth_50 3 rfl rfl (by decide) [1, 2, 3, 0] rfl ?_
          refine ax_goto (tgt := 4) M d_M_growth_53 (by decide) ?_
          obtain rfl := Option.some.inj E
          refine ax_lv (lv' := [(0, .ref (al 0 0)), (1, .int x1), (2, .int (s1.1 + (gi σ 6 0 (ix s1.2)))), (3, .int (s1.2 + 1))]) [0, 1, 2, 3] rfl ?_
          exact K1 _ rfl h hG
        · have E := ob_t E c4
          refine ax_iload_n M d_M_growth_41 2 rfl ?_
          refine ax_aload_n M d_M_growth_42 0 rfl ?_
          refine sw_get M hG 0 0 (by decide) in_M rfl rfl 6 (by decide) wd_410 rfl d_M_growth_43 ?_
          refine ax_iload_n M d_M_growth_46 3 rfl ?_
          refine sw_iald M hG 7 0 (by decide) rfl 0 rfl k1 d_M_growth_47 ?_
          refine ax_isub M d_M_growth_48 ?_
          refine ax_istore_n (lv' := [(0, .ref (al 0 0)), (1, .int x1), (2, .int ((s1.1 + (gi σ 6 0 (ix s1.2))) - (gi σ 7 0 (ix s1.2)))), (3, .int s1.2)]) M d_M_growth_49 (by decide) [1, 2, 0, 3] rfl ?_
          refine ax_iinc (v := s1.2 + 1) (lv' := [(0, .ref (al 0 0)), (1, .int x1), (2, .int ((s1.1 + (gi σ 6 0 (ix s1.2))) - (gi σ 7 0 (ix s1.2)))), (3, .int (s1.2 + 1))]) M d_M_growth_50 3 rfl rfl (by decide) [1, 2, 3, 0] rfl ?_
          refine ax_goto (tgt := 4) M d_M_growth_53 (by decide) ?_
          obtain rfl := Option.some.inj E
          refine ax_lv (lv' := [(0, .ref (al 0 0)), (1, .int x1), (2, .int ((s1.1 + (gi σ 6 0 (ix s1.2))) - (gi σ 7 0 (ix s1.2)))), (3, .int (s1.2 + 1))]) [0, 1, 2, 3] rfl ?_
          exact K1 _ rfl h hG
  · intro h hG
    refine ax_iload_n M d_M_growth_56 2 rfl ?_
    obtain rfl := Option.some.inj E
    exact ax_iret M hR (by decide) (by decide) d_M_growth_57 ⟨rfl, hG⟩
def M_pick (σ : ST) (x1 : Int32) (x2 : Int32) : Option (Int32) :=
  if x1 = 2 then
  (if x2 < 0 then
  ((lp (fun s2 : Int32 × Int32 =>
  if 8 ≤ s2.2 then
  (some (.inr ((s2.1, s2.2)))) else
  (if x1 = 2 then
  ((M_ready σ (((s2.2 + x2) + 1) - ((s2.2 + x2) + 1) / 8 * 8)).bind (fun b10 => 
  (if b10 = 0 then
  (some (.inl ((s2.1, s2.2 + 1)))) else
  (if s2.1 < 0 then
  (some (.inl ((((s2.2 + x2) + 1) - ((s2.2 + x2) + 1) / 8 * 8, s2.2 + 1)))) else
  (if x1 = 1 then
  ((M_growth σ (((s2.2 + x2) + 1) - ((s2.2 + x2) + 1) / 8 * 8)).bind (fun b11 => 
  ((M_growth σ s2.1).bind (fun b12 => 
  (if b12 ≤ b11 then
  (some (.inl ((s2.1, s2.2 + 1)))) else
  (some (.inl ((((s2.2 + x2) + 1) - ((s2.2 + x2) + 1) / 8 * 8, s2.2 + 1))))))))) else
  (some (.inl ((s2.1, s2.2 + 1))))))))) else
  ((M_ready σ s2.2).bind (fun b7 => 
  (if b7 = 0 then
  (some (.inl ((s2.1, s2.2 + 1)))) else
  (if s2.1 < 0 then
  (some (.inl ((s2.2, s2.2 + 1)))) else
  (if x1 = 1 then
  ((M_growth σ s2.2).bind (fun b8 => 
  ((M_growth σ s2.1).bind (fun b9 => 
  (if b9 ≤ b8 then
  (some (.inl ((s2.1, s2.2 + 1)))) else
  (some (.inl ((s2.2, s2.2 + 1))))))))) else
  (some (.inl ((s2.1, s2.2 + 1))))))))))) 1000 ((-1, 0))).bind (fun r2 : Int32 × Int32 =>
  some r2.1)) else
  ((M_ready σ x2).bind (fun b13 => 
  (if b13 = 0 then
  ((lp (fun s3 : Int32 × Int32 =>
  if 8 ≤ s3.2 then
  (some (.inr ((s3.1, s3.2)))) else
  (if x1 = 2 then
  ((M_ready σ (((s3.2 + x2) + 1) - ((s3.2 + x2) + 1) / 8 * 8)).bind (fun b17 => 
  (if b17 = 0 then
  (some (.inl ((s3.1, s3.2 + 1)))) else
  (if s3.1 < 0 then
  (some (.inl ((((s3.2 + x2) + 1) - ((s3.2 + x2) + 1) / 8 * 8, s3.2 + 1)))) else
  (if x1 = 1 then
  ((M_growth σ (((s3.2 + x2) + 1) - ((s3.2 + x2) + 1) / 8 * 8)).bind (fun b18 => 
  ((M_growth σ s3.1).bind (fun b19 => 
  (if b19 ≤ b18 then
  (some (.inl ((s3.1, s3.2 + 1)))) else
  (some (.inl ((((s3.2 + x2) + 1) - ((s3.2 + x2) + 1) / 8 * 8, s3.2 + 1))))))))) else
  (some (.inl ((s3.1, s3.2 + 1))))))))) else
  ((M_ready σ s3.2).bind (fun b14 => 
  (if b14 = 0 then
  (some (.inl ((s3.1, s3.2 + 1)))) else
  (if s3.1 < 0 then
  (some (.inl ((s3.2, s3.2 + 1)))) else
  (if x1 = 1 then
  ((M_growth σ s3.2).bind (fun b15 => 
  ((M_growth σ s3.1).bind (fun b16 => 
  (if b16 ≤ b15 then
  (some (.inl ((s3.1, s3.2 + 1)))) else
  (some (.inl ((s3.2, s3.2 + 1))))))))) else
  (some (.inl ((s3.1, s3.2 + 1))))))))))) 1000 ((-1, 0))).bind (fun r3 : Int32 × Int32 =>
  some r3.1)) else
  (some x2))))) else
  ((lp (fun s1 : Int32 × Int32 =>
  if 8 ≤ s1.2 then
  (some (.inr ((s1.1, s1.2)))) else
  (if x1 = 2 then
  ((M_ready σ (((s1.2 + x2) + 1) - ((s1.2 + x2) + 1) / 8 * 8)).bind (fun b4 => 
  (if b4 = 0 then
  (some (.inl ((s1.1, s1.2 + 1)))) else
  (if s1.1 < 0 then
  (some (.inl ((((s1.2 + x2) + 1) - ((s1.2 + x2) + 1) / 8 * 8, s1.2 + 1)))) else
  (if x1 = 1 then
  ((M_growth σ (((s1.2 + x2) + 1) - ((s1.2 + x2) + 1) / 8 * 8)).bind (fun b5 => 
  ((M_growth σ s1.1).bind (fun b6 => 
  (if b6 ≤ b5 then
  (some (.inl ((s1.1, s1.2 + 1)))) else
  (some (.inl ((((s1.2 + x2) + 1) - ((s1.2 + x2) + 1) / 8 * 8, s1.2 + 1))))))))) else
  (some (.inl ((s1.1, s1.2 + 1))))))))) else
  ((M_ready σ s1.2).bind (fun b1 => 
  (if b1 = 0 then
  (some (.inl ((s1.1, s1.2 + 1)))) else
  (if s1.1 < 0 then
  (some (.inl ((s1.2, s1.2 + 1)))) else
  (if x1 = 1 then
  ((M_growth σ s1.2).bind (fun b2 => 
  ((M_growth σ s1.1).bind (fun b3 => 
  (if b3 ≤ b2 then
  (some (.inl ((s1.1, s1.2 + 1)))) else
  (some (.inl ((s1.2, s1.2 + 1))))))))) else
  (some (.inl ((s1.1, s1.2 + 1))))))))))) 1000 ((-1, 0))).bind (fun r1 : Int32 × Int32 =>
  some r1.1))
abbrev rm_M_pick : Room := { frames := 1, cells := 0, slots := 0, locals := 23 }
set_option maxRecDepth 100000 in
set_option maxHeartbeats 4000000 in
theorem ac_M_pick {l : Launch} {D : va_G} {cc : Nat → ClassId} {al : Nat → Nat → Nat} {σ : ST} {h0 h : AH} {x1 : Int32} {x2 : Int32} {res : Int32}  (hG : SW dmM (cfM cc) al σ h0 h) (E : M_pick σ x1 x2 = some res) : AC l D vwCl (tysOf cc) NN y_M_pick (Cond.code y_M_pick b_M_pick 6 (some .int) :: TT) rm_M_pick [.ref (al 0 0), .int x1, .int x2] h (fun rv h' => rv = some (.int res) ∧ SW dmM (cfM cc) al σ h0 h') := by
  refine AC.of (by decide) rfl (Nat.le_of_ble_eq_true rfl) (fun X M hR hI => ?_)
  unfold M_pick at E
  refine ax_lv (lv' := [(0, .ref (al 0 0)), (1, .int x1), (2, .int x2)]) [0, 1, 2] rfl ?_
  refine ax_iload_n M d_M_pick_0 1 rfl ?_
  refine ax_iconst (v := 2) M d_M_pick_1 (by decide) ?_
  refine ax_icmp_ne (tgt := 19) M d_M_pick_2 (by decide) (fun c1 => ?_) (fun c1 => ?_)
  · have E := ob_f E c1
    refine ax_iconst (v := (-1)) M d_M_pick_19 (by decide) ?_
    refine ax_istore_n (lv' := [(0, .ref (al 0 0)), (1, .int x1), (2, .int x2), (3, .int (-1))]) M d_M_pick_20 (by decide) [1, 2, 3, 0] rfl ?_
    refine ax_iconst (v := 0) M d_M_pick_21 (by decide) ?_
    refine ax_istore (lv' := [(0, .ref (al 0 0)), (1, .int x1), (2, .int x2), (3, .int (-1)), (4, .int 0)]) M d_M_pick_22 (by decide) [1, 2, 3, 4, 0] rfl ?_
    refine ax_lv (lv' := [(0, .ref (al 0 0)), (1, .int x1), (2, .int x2), (3, .int (-1)), (4, .int 0)]) [0, 1, 2, 3, 4] rfl ?_
    obtain ⟨r1, l1, E⟩ := ob_b E
    refine lp_walk (fun (s1 : Int32 × Int32) => ∀ h : AH, SW dmM (cfM cc) al σ h0 h → AW l D vwCl rm_M_pick 6 X 0 0 h 24 [(0, .ref (al 0 0)), (1, .int x1), (2, .int x2), (3, .int s1.1), (4, .int s1.2)] []) (fun (r1 : Int32 × Int32) => ∀ h : AH, SW dmM (cfM cc) al σ h0 h → AW l D vwCl rm_M_pick 6 X 0 0 h 96 [(0, .ref (al 0 0)), (1, .int x1), (2, .int x2), (3, .int r1.1), (4, .int r1.2)] []) ?_ _ _ _ l1 ?_ h hG
    · intro s1 y1 E K1 K2 h hG
      refine ax_iload M d_M_pick_24 4 rfl ?_
      refine ax_bipush (v := 8) M d_M_pick_26 (by decide) ?_
      refine ax_icmp_ge (tgt := 96) M d_M_pick_28 (by decide) (fun c2 => ?_) (fun c2 => ?_)
      · have E := ob_t E c2
        obtain rfl := Option.some.inj E
        refine ax_lv (lv' := [(0, .ref (al 0 0)), (1, .int x1), (2, .int x2), (3, .int s1.1), (4, .int s1.2)]) [0, 1, 2, 3, 4] rfl ?_
        exact (K2 _ rfl) h hG
      · have E := ob_f E c2
        refine ax_iload_n M d_M_pick_31 1 rfl ?_
        refine ax_iconst (v := 2) M d_M_pick_32 (by decide) ?_
        refine ax_icmp_ne (tgt := 48) M d_M_pick_33 (by decide) (fun c3 => ?_) (fun c3 => ?_)
        · have E := ob_f E c3
          refine ax_iload M d_M_pick_48 4 rfl ?_
          refine ax_istore (lv' := [(0, .ref (al 0 0)), (1, .int x1), (2, .int x2), (3, .int s1.1), (4, .int s1.2), (5, .int s1.2)]) M d_M_pick_50 (by decide) [1, 2, 3, 4, 5, 0] rfl ?_
          refine ax_aload_n M d_M_pick_52 0 rfl ?_
          refine ax_iload M d_M_pick_53 5 rfl ?_
          obtain ⟨b1, e1, E⟩ := ob_b E
          refine ax_callV (n := 1) (C := R_M) (q := (R_M, F_M, 25)) M TT_good rfl rfl (SW.at hG 0 0 (by decide)) (ac_M_ready hG e1) lm_M_101 (by decide) (by decide) rfl rfl (Nat.le_of_ble_eq_true rfl) d_M_pick_55 (by decide) (c1 := 0) (s1 := 0) (by decide) (ax_ret_i (fun h hG => ?_))
          refine ax_if_ne (tgt := 64) M d_M_pick_58 (by decide) (fun c4 => ?_) (fun c4 => ?_)
          · have E := ob_f E c4
            refine ax_iload_n M d_M_pick_64 3 rfl ?_
            refine ax_if_lt (tgt := 87) M d_M_pick_65 (by decide) (fun c5 => ?_) (fun c5 => ?_)
            · have E := ob_t E c5
              refine ax_iload M d_M_pick_87 5 rfl ?_
              refine ax_istore_n (lv' := [(0, .ref (al 0 0)), (1, .int x1), (2, .int x2), (3, .int s1.2), (4, .int s1.2)]) M d_M_pick_89 (by decide) [1, 2, 3, 0, 4] rfl ?_
              refine ax_iinc (v := s1.2 + 1) (lv' := [(0, .ref (al 0 0)), (1, .int x1), (2, .int x2), (3, .int s1.2), (4, .int (s1.2 + 1))]) M d_M_pick_90 4 rfl rfl (by decide) [1, 2, 3, 4, 0] rfl ?_
              refine ax_goto (tgt := 24) M d_M_pick_93 (by decide) ?_
              obtain rfl := Option.some.inj E
              refine ax_lv (lv' := [(0, .ref (al 0 0)), (1, .int x1), (2, .int x2), (3, .int s1.2), (4, .int (s1.2 + 1))]) [0, 1, 2, 3, 4] rfl ?_
              exact K1 _ rfl h hG
            · have E := ob_f E c5
              refine ax_iload_n M d_M_pick_68 1 rfl ?_
              refine ax_iconst (v := 1) M d_M_pick_69 (by decide) ?_
              refine ax_icmp_ne (tgt := 90) M d_M_pick_70 (by decide) (fun c6 => ?_) (fun c6 => ?_)
              · have E := ob_f E c6
                refine ax_iinc (v := s1.2 + 1) (lv' := [(0, .ref (al 0 0)), (1, .int x1), (2, .int x2), (3, .int s1.1), (4, .int (s1.2 + 1)), (5, .int s1.2)]) M d_M_pick_90 4 rfl rfl (by decide) [1, 2, 3, 4, 0, 5] rfl ?_
                refine ax_goto (tgt := 24) M d_M_pick_93 (by decide) ?_
                obtain rfl := Option.some.inj E
                refine ax_lv (lv' := [(0, .ref (al 0 0)), (1, .int x1), (2, .int x2), (3, .int s1.1), (4, .int (s1.2 + 1))]) [0, 1, 2, 3, 4] rfl ?_
                exact K1 _ rfl h hG
              · have E := ob_t E c6
                refine ax_aload_n M d_M_pick_73 0 rfl ?_
                refine ax_iload M d_M_pick_74 5 rfl ?_
                obtain ⟨b2, e2, E⟩ := ob_b E
                refine ax_callV (n := 1) (C := R_M) (q := (R_M, F_M, 25)) M TT_good rfl rfl (SW.at hG 0 0 (by decide)) (ac_M_growth hG e2) lm_M_104 (by decide) (by decide) rfl rfl (Nat.le_of_ble_eq_true rfl) d_M_pick_76 (by decide) (c1 := 0) (s1 := 0) (by decide) (ax_ret_i (fun h hG => ?_))
                refine ax_aload_n M d_M_pick_79 0 rfl ?_
                refine ax_iload_n M d_M_pick_80 3 rfl ?_
                obtain ⟨b3, e3, E⟩ := ob_b E
                refine ax_callV (n := 1) (C := R_M) (q := (R_M, F_M, 25)) M TT_good rfl rfl (SW.at hG 0 0 (by decide)) (ac_M_growth hG e3) lm_M_104 (by decide) (by decide) rfl rfl (Nat.le_of_ble_eq_true rfl) d_M_pick_81 (by decide) (c1 := 0) (s1 := 0) (by decide) (ax_ret_i (fun h hG => ?_))
                refine ax_icmp_ge (tgt := 90) M d_M_pick_84 (by decide) (fun c7 => ?_) (fun c7 => ?_)
                · have E := ob_t E c7
                  refine ax_iinc (v := s1.2 + 1) (lv' := [(0, .ref (al 0 0)), (1, .int x1), (2, .int x2), (3, .int s1.1), (4, .int (s1.2 + 1)), (5, .int s1.2)]) M d_M_pick_90 4 rfl rfl (by decide) [1, 2, 3, 4, 0, 5] rfl ?_
                  refine ax_goto (tgt := 24) M d_M_pick_93 (by decide) ?_
                  obtain rfl := Option.some.inj E
                  refine ax_lv (lv' := [(0, .ref (al 0 0)), (1, .int x1), (2, .int x2), (3, .int s1.1), (4, .int (s1.2 + 1))]) [0, 1, 2, 3, 4] rfl ?_
                  exact K1 _ rfl h hG
                · have E := ob_f E c7
                  refine ax_iload M d_M_pick_87 5 rfl ?_
                  refine ax_istore_n (lv' := [(0, .ref (al 0 0)), (1, .int x1), (2, .int x2), (3, .int s1.2), (4, .int s1.2)]) M d_M_pick_89 (by decide) [1, 2, 3, 0, 4] rfl ?_
                  refine ax_iinc (v := s1.2 + 1) (lv' := [(0, .ref (al 0 0)), (1, .int x1), (2, .int x2), (3, .int s1.2), (4, .int (s1.2 + 1))]) M d_M_pick_90 4 rfl rfl (by decide) [1, 2, 3, 4, 0] rfl ?_
                  refine ax_goto (tgt := 24) M d_M_pick_93 (by decide) ?_
                  obtain rfl := Option.some.inj E
                  refine ax_lv (lv' := [(0, .ref (al 0 0)), (1, .int x1), (2, .int x2), (3, .int s1.2), (4, .int (s1.2 + 1))]) [0, 1, 2, 3, 4] rfl ?_
                  exact K1 _ rfl h hG
          · have E := ob_t E c4
            refine ax_goto (tgt := 90) M d_M_pick_61 (by decide) ?_
            refine ax_iinc (v := s1.2 + 1) (lv' := [(0, .ref (al 0 0)), (1, .int x1), (2, .int x2), (3, .int s1.1), (4, .int (s1.2 + 1)), (5, .int s1.2)]) M d_M_pick_90 4 rfl rfl (by decide) [1, 2, 3, 4, 0, 5] rfl ?_
            refine ax_goto (tgt := 24) M d_M_pick_93 (by decide) ?_
            obtain rfl := Option.some.inj E
            refine ax_lv (lv' := [(0, .ref (al 0 0)), (1, .int x1), (2, .int x2), (3, .int s1.1), (4, .int (s1.2 + 1))]) [0, 1, 2, 3, 4] rfl ?_
            exact K1 _ rfl h hG
        · have E := ob_t E c3
          refine ax_iload M d_M_pick_36 4 rfl ?_
          refine ax_iload_n M d_M_pick_38 2 rfl ?_
          refine ax_iadd M d_M_pick_39 ?_
          refine ax_iconst (v := 1) M d_M_pick_40 (by decide) ?_
          refine ax_iadd M d_M_pick_41 ?_
          refine ax_bipush (v := 8) M d_M_pick_42 (by decide) ?_
          refine ax_irem M d_M_pick_44 (by decide) ?_
          refine ax_goto (tgt := 50) M d_M_pick_45 (by decide) ?_
          refine ax_istore (lv' := [(0, .ref (al 0 0)), (1, .int x1), (2, .int x2), (3, .int s1.1), (4, .int s1.2), (5, .int (((s1.2 + x2) + 1) - ((s1.2 + x2) + 1) / 8 * 8))]) M d_M_pick_50 (by decide) [1, 2, 3, 4, 5, 0] rfl ?_
          refine ax_aload_n M d_M_pick_52 0 rfl ?_
          refine ax_iload M d_M_pick_53 5 rfl ?_
          obtain ⟨b4, e4, E⟩ := ob_b E
          refine ax_callV (n := 1) (C := R_M) (q := (R_M, F_M, 25)) M TT_good rfl rfl (SW.at hG 0 0 (by decide)) (ac_M_ready hG e4) lm_M_101 (by decide) (by decide) rfl rfl (Nat.le_of_ble_eq_true rfl) d_M_pick_55 (by decide) (c1 := 0) (s1 := 0) (by decide) (ax_ret_i (fun h hG => ?_))
          refine ax_if_ne (tgt := 64) M d_M_pick_58 (by decide) (fun c8 => ?_) (fun c8 => ?_)
          · have E := ob_f E c8
            refine ax_iload_n M d_M_pick_64 3 rfl ?_
            refine ax_if_lt (tgt := 87) M d_M_pick_65 (by decide) (fun c9 => ?_) (fun c9 => ?_)
            · have E := ob_t E c9
              refine ax_iload M d_M_pick_87 5 rfl ?_
              refine ax_istore_n (lv' := [(0, .ref (al 0 0)), (1, .int x1), (2, .int x2), (3, .int (((s1.2 + x2) + 1) - ((s1.2 + x2) + 1) / 8 * 8)), (4, .int s1.2)]) M d_M_pick_89 (by decide) [1, 2, 3, 0, 4] rfl ?_
              refine ax_iinc (v := s1.2 + 1) (lv' := [(0, .ref (al 0 0)), (1, .int x1), (2, .int x2), (3, .int (((s1.2 + x2) + 1) - ((s1.2 + x2) + 1) / 8 * 8)), (4, .int (s1.2 + 1))]) M d_M_pick_90 4 rfl rfl (by decide) [1, 2, 3, 4, 0] rfl ?_
              refine ax_goto (tgt := 24) M d_M_pick_93 (by decide) ?_
              obtain rfl := Option.some.inj E
              refine ax_lv (lv' := [(0, .ref (al 0 0)), (1, .int x1), (2, .int x2), (3, .int (((s1.2 + x2) + 1) - ((s1.2 + x2) + 1) / 8 * 8)), (4, .int (s1.2 + 1))]) [0, 1, 2, 3, 4] rfl ?_
              exact K1 _ rfl h hG
            · have E := ob_f E c9
              refine ax_iload_n M d_M_pick_68 1 rfl ?_
              refine ax_iconst (v := 1) M d_M_pick_69 (by decide) ?_
              refine ax_icmp_ne (tgt := 90) M d_M_pick_70 (by decide) (fun c10 => ?_) (fun c10 => ?_)
              · have E := ob_f E c10
                refine ax_iinc (v := s1.2 + 1) (lv' := [(0, .ref (al 0 0)), (1, .int x1), (2, .int x2), (3, .int s1.1), (4, .int (s1.2 + 1)), (5, .int (((s1.2 + x2) + 1) - ((s1.2 + x2) + 1) / 8 * 8))]) M d_M_pick_90 4 rfl rfl (by decide) [1, 2, 3, 4, 0, 5] rfl ?_
                refine ax_goto (tgt := 24) M d_M_pick_93 (by decide) ?_
                obtain rfl := Option.some.inj E
                refine ax_lv (lv' := [(0, .ref (al 0 0)), (1, .int x1), (2, .int x2), (3, .int s1.1), (4, .int (s1.2 + 1))]) [0, 1, 2, 3, 4] rfl ?_
                exact K1 _ rfl h hG
              · have E := ob_t E c10
                refine ax_aload_n M d_M_pick_73 0 rfl ?_
                refine ax_iload M d_M_pick_74 5 rfl ?_
                obtain ⟨b5, e5, E⟩ := ob_b E
                refine ax_callV (n := 1) (C := R_M) (q := (R_M, F_M, 25)) M TT_good rfl rfl (SW.at hG 0 0 (by decide)) (ac_M_growth hG e5) lm_M_104 (by decide) (by decide) rfl rfl (Nat.le_of_ble_eq_true rfl) d_M_pick_76 (by decide) (c1 := 0) (s1 := 0) (by decide) (ax_ret_i (fun h hG => ?_))
                refine ax_aload_n M d_M_pick_79 0 rfl ?_
                refine ax_iload_n M d_M_pick_80 3 rfl ?_
                obtain ⟨b6, e6, E⟩ := ob_b E
                refine ax_callV (n := 1) (C := R_M) (q := (R_M, F_M, 25)) M TT_good rfl rfl (SW.at hG 0 0 (by decide)) (ac_M_growth hG e6) lm_M_104 (by decide) (by decide) rfl rfl (Nat.le_of_ble_eq_true rfl) d_M_pick_81 (by decide) (c1 := 0) (s1 := 0) (by decide) (ax_ret_i (fun h hG => ?_))
                refine ax_icmp_ge (tgt := 90) M d_M_pick_84 (by decide) (fun c11 => ?_) (fun c11 => ?_)
                · have E := ob_t E c11
                  refine ax_iinc (v := s1.2 + 1) (lv' := [(0, .ref (al 0 0)), (1, .int x1), (2, .int x2), (3, .int s1.1), (4, .int (s1.2 + 1)), (5, .int (((s1.2 + x2) + 1) - ((s1.2 + x2) + 1) / 8 * 8))]) M d_M_pick_90 4 rfl rfl (by decide) [1, 2, 3, 4, 0, 5] rfl ?_
                  refine ax_goto (tgt := 24) M d_M_pick_93 (by decide) ?_
                  obtain rfl := Option.some.inj E
                  refine ax_lv (lv' := [(0, .ref (al 0 0)), (1, .int x1), (2, .int x2), (3, .int s1.1), (4, .int (s1.2 + 1))]) [0, 1, 2, 3, 4] rfl ?_
                  exact K1 _ rfl h hG
                · have E := ob_f E c11
                  refine ax_iload M d_M_pick_87 5 rfl ?_
                  refine ax_istore_n (lv' := [(0, .ref (al 0 0)), (1, .int x1), (2, .int x2), (3, .int (((s1.2 + x2) + 1) - ((s1.2 + x2) + 1) / 8 * 8)), (4, .int s1.2)]) M d_M_pick_89 (by decide) [1, 2, 3, 0, 4] rfl ?_
                  refine ax_iinc (v := s1.2 + 1) (lv' := [(0, .ref (al 0 0)), (1, .int x1), (2, .int x2), (3, .int (((s1.2 + x2) + 1) - ((s1.2 + x2) + 1) / 8 * 8)), (4, .int (s1.2 + 1))]) M d_M_pick_90 4 rfl rfl (by decide) [1, 2, 3, 4, 0] rfl ?_
                  refine ax_goto (tgt := 24) M d_M_pick_93 (by decide) ?_
                  obtain rfl := Option.some.inj E
                  refine ax_lv (lv' := [(0, .ref (al 0 0)), (1, .int x1), (2, .int x2), (3, .int (((s1.2 + x2) + 1) - ((s1.2 + x2) + 1) / 8 * 8)), (4, .int (s1.2 + 1))]) [0, 1, 2, 3, 4] rfl ?_
                  exact K1 _ rfl h hG
          · have E := ob_t E c8
            refine ax_goto (tgt := 90) M d_M_pick_61 (by decide) ?_
            refine ax_iinc (v := s1.2 + 1) (lv' := [(0, .ref (al 0 0)), (1, .int x1), (2, .int x2), (3, .int s1.1), (4, .int (s1.2 + 1)), (5, .int (((s1.2 + x2) + 1) - ((s1.2 + x2) + 1) / 8 * 8))]) M d_M_pick_90 4 rfl rfl (by decide) [1, 2, 3, 4, 0, 5] rfl ?_
            refine ax_goto (tgt := 24) M d_M_pick_93 (by decide) ?_
            obtain rfl := Option.some.inj E
            refine ax_lv (lv' := [(0, .ref (al 0 0)), (1, .int x1), (2, .int x2), (3, .int s1.1), (4, .int (s1.2 + 1))]) [0, 1, 2, 3, 4] rfl ?_
            exact K1 _ rfl h hG
    · intro h hG
      refine ax_iload_n M d_M_pick_96 3 rfl ?_
      obtain rfl := Option.some.inj E
      exact ax_iret M hR (by decide) (by decide) d_M_pick_97 ⟨rfl, hG⟩
  · have E := ob_t E c1
    refine ax_iload_n M d_M_pick_5 2 rfl ?_
    refine ax_if_lt (tgt := 19) M d_M_pick_6 (by decide) (fun c12 => ?_) (fun c12 => ?_)
    · have E := ob_t E c12
      refine ax_iconst (v := (-1)) M d_M_pick_19 (by decide) ?_
      refine ax_istore_n (lv' := [(0, .ref (al 0 0)), (1, .int x1), (2, .int x2), (3, .int (-1))]) M d_M_pick_20 (by decide) [1, 2, 3, 0] rfl ?_
      refine ax_iconst (v := 0) M d_M_pick_21 (by decide) ?_
      refine ax_istore (lv' := [(0, .ref (al 0 0)), (1, .int x1), (2, .int x2), (3, .int (-1)), (4, .int 0)]) M d_M_pick_22 (by decide) [1, 2, 3, 4, 0] rfl ?_
      refine ax_lv (lv' := [(0, .ref (al 0 0)), (1, .int x1), (2, .int x2), (3, .int (-1)), (4, .int 0)]) [0, 1, 2, 3, 4] rfl ?_
      obtain ⟨r2, l2, E⟩ := ob_b E
      refine lp_walk (fun (s2 : Int32 × Int32) => ∀ h : AH, SW dmM (cfM cc) al σ h0 h → AW l D vwCl rm_M_pick 6 X 0 0 h 24 [(0, .ref (al 0 0)), (1, .int x1), (2, .int x2), (3, .int s2.1), (4, .int s2.2)] []) (fun (r2 : Int32 × Int32) => ∀ h : AH, SW dmM (cfM cc) al σ h0 h → AW l D vwCl rm_M_pick 6 X 0 0 h 96 [(0, .ref (al 0 0)), (1, .int x1), (2, .int x2), (3, .int r2.1), (4, .int r2.2)] []) ?_ _ _ _ l2 ?_ h hG
      · intro s2 y2 E K3 K4 h hG
        refine ax_iload M d_M_pick_24 4 rfl ?_
        refine ax_bipush (v := 8) M d_M_pick_26 (by decide) ?_
        refine ax_icmp_ge (tgt := 96) M d_M_pick_28 (by decide) (fun c13 => ?_) (fun c13 => ?_)
        · have E := ob_t E c13
          obtain rfl := Option.some.inj E
          refine ax_lv (lv' := [(0, .ref (al 0 0)), (1, .int x1), (2, .int x2), (3, .int s2.1), (4, .int s2.2)]) [0, 1, 2, 3, 4] rfl ?_
          exact (K4 _ rfl) h hG
        · have E := ob_f E c13
          refine ax_iload_n M d_M_pick_31 1 rfl ?_
          refine ax_iconst (v := 2) M d_M_pick_32 (by decide) ?_
          refine ax_icmp_ne (tgt := 48) M d_M_pick_33 (by decide) (fun c14 => ?_) (fun c14 => ?_)
          · have E := ob_f E c14
            refine ax_iload M d_M_pick_48 4 rfl ?_
            refine ax_istore (lv' := [(0, .ref (al 0 0)), (1, .int x1), (2, .int x2), (3, .int s2.1), (4, .int s2.2), (5, .int s2.2)]) M d_M_pick_50 (by decide) [1, 2, 3, 4, 5, 0] rfl ?_
            refine ax_aload_n M d_M_pick_52 0 rfl ?_
            refine ax_iload M d_M_pick_53 5 rfl ?_
            obtain ⟨b7, e7, E⟩ := ob_b E
            refine ax_callV (n := 1) (C := R_M) (q := (R_M, F_M, 25)) M TT_good rfl rfl (SW.at hG 0 0 (by decide)) (ac_M_ready hG e7) lm_M_101 (by decide) (by decide) rfl rfl (Nat.le_of_ble_eq_true rfl) d_M_pick_55 (by decide) (c1 := 0) (s1 := 0) (by decide) (ax_ret_i (fun h hG => ?_))
            refine ax_if_ne (tgt := 64) M d_M_pick_58 (by decide) (fun c15 => ?_) (fun c15 => ?_)
            · have E := ob_f E c15
              refine ax_iload_n M d_M_pick_64 3 rfl ?_
              refine ax_if_lt (tgt := 87) M d_M_pick_65 (by decide) (fun c16 => ?_) (fun c16 => ?_)
              · have E := ob_t E c16
                refine ax_iload M d_M_pick_87 5 rfl ?_
                refine ax_istore_n (lv' := [(0, .ref (al 0 0)), (1, .int x1), (2, .int x2), (3, .int s2.2), (4, .int s2.2)]) M d_M_pick_89 (by decide) [1, 2, 3, 0, 4] rfl ?_
                refine ax_iinc (v := s2.2 + 1) (lv' := [(0, .ref (al 0 0)), (1, .int x1), (2, .int x2), (3, .int s2.2), (4, .int (s2.2 + 1))]) M d_M_pick_90 4 rfl rfl (by decide) [1, 2, 3, 4, 0] rfl ?_
                refine ax_goto (tgt := 24) M d_M_pick_93 (by decide) ?_
                obtain rfl := Option.some.inj E
                refine ax_lv (lv' := [(0, .ref (al 0 0)), (1, .int x1), (2, .int x2), (3, .int s2.2), (4, .int (s2.2 + 1))]) [0, 1, 2, 3, 4] rfl ?_
                exact K3 _ rfl h hG
              · have E := ob_f E c16
                refine ax_iload_n M d_M_pick_68 1 rfl ?_
                refine ax_iconst (v := 1) M d_M_pick_69 (by decide) ?_
                refine ax_icmp_ne (tgt := 90) M d_M_pick_70 (by decide) (fun c17 => ?_) (fun c17 => ?_)
                · have E := ob_f E c17
                  refine ax_iinc (v := s2.2 + 1) (lv' := [(0, .ref (al 0 0)), (1, .int x1), (2, .int x2), (3, .int s2.1), (4, .int (s2.2 + 1)), (5, .int s2.2)]) M d_M_pick_90 4 rfl rfl (by decide) [1, 2, 3, 4, 0, 5] rfl ?_
                  refine ax_goto (tgt := 24) M d_M_pick_93 (by decide) ?_
                  obtain rfl := Option.some.inj E
                  refine ax_lv (lv' := [(0, .ref (al 0 0)), (1, .int x1), (2, .int x2), (3, .int s2.1), (4, .int (s2.2 + 1))]) [0, 1, 2, 3, 4] rfl ?_
                  exact K3 _ rfl h hG
                · have E := ob_t E c17
                  refine ax_aload_n M d_M_pick_73 0 rfl ?_
                  refine ax_iload M d_M_pick_74 5 rfl ?_
                  obtain ⟨b8, e8, E⟩ := ob_b E
                  refine ax_callV (n := 1) (C := R_M) (q := (R_M, F_M, 25)) M TT_good rfl rfl (SW.at hG 0 0 (by decide)) (ac_M_growth hG e8) lm_M_104 (by decide) (by decide) rfl rfl (Nat.le_of_ble_eq_true rfl) d_M_pick_76 (by decide) (c1 := 0) (s1 := 0) (by decide) (ax_ret_i (fun h hG => ?_))
                  refine ax_aload_n M d_M_pick_79 0 rfl ?_
                  refine ax_iload_n M d_M_pick_80 3 rfl ?_
                  obtain ⟨b9, e9, E⟩ := ob_b E
                  refine ax_callV (n := 1) (C := R_M) (q := (R_M, F_M, 25)) M TT_good rfl rfl (SW.at hG 0 0 (by decide)) (ac_M_growth hG e9) lm_M_104 (by decide) (by decide) rfl rfl (Nat.le_of_ble_eq_true rfl) d_M_pick_81 (by decide) (c1 := 0) (s1 := 0) (by decide) (ax_ret_i (fun h hG => ?_))
                  refine ax_icmp_ge (tgt := 90) M d_M_pick_84 (by decide) (fun c18 => ?_) (fun c18 => ?_)
                  · have E := ob_t E c18
                    refine ax_iinc (v := s2.2 + 1) (lv' := [(0, .ref (al 0 0)), (1, .int x1), (2, .int x2), (3, .int s2.1), (4, .int (s2.2 + 1)), (5, .int s2.2)]) M d_M_pick_90 4 rfl rfl (by decide) [1, 2, 3, 4, 0, 5] rfl ?_
                    refine ax_goto (tgt := 24) M d_M_pick_93 (by decide) ?_
                    obtain rfl := Option.some.inj E
                    refine ax_lv (lv' := [(0, .ref (al 0 0)), (1, .int x1), (2, .int x2), (3, .int s2.1), (4, .int (s2.2 + 1))]) [0, 1, 2, 3, 4] rfl ?_
                    exact K3 _ rfl h hG
                  · have E := ob_f E c18
                    refine ax_iload M d_M_pick_87 5 rfl ?_
                    refine ax_istore_n (lv' := [(0, .ref (al 0 0)), (1, .int x1), (2, .int x2), (3, .int s2.2), (4, .int s2.2)]) M d_M_pick_89 (by decide) [1, 2, 3, 0, 4] rfl ?_
                    refine ax_iinc (v := s2.2 + 1) (lv' := [(0, .ref (al 0 0)), (1, .int x1), (2, .int x2), (3, .int s2.2), (4, .int (s2.2 + 1))]) M d_M_pick_90 4 rfl rfl (by decide) [1, 2, 3, 4, 0] rfl ?_
                    refine ax_goto (tgt := 24) M d_M_pick_93 (by decide) ?_
                    obtain rfl := Option.some.inj E
                    refine ax_lv (lv' := [(0, .ref (al 0 0)), (1, .int x1), (2, .int x2), (3, .int s2.2), (4, .int (s2.2 + 1))]) [0, 1, 2, 3, 4] rfl ?_
                    exact K3 _ rfl h hG
            · have E := ob_t E c15
              refine ax_goto (tgt := 90) M d_M_pick_61 (by decide) ?_
              refine ax_iinc (v := s2.2 + 1) (lv' := [(0, .ref (al 0 0)), (1, .int x1), (2, .int x2), (3, .int s2.1), (4, .int (s2.2 + 1)), (5, .int s2.2)]) M d_M_pick_90 4 rfl rfl (by decide) [1, 2, 3, 4, 0, 5] rfl ?_
              refine ax_goto (tgt := 24) M d_M_pick_93 (by decide) ?_
              obtain rfl := Option.some.inj E
              refine ax_lv (lv' := [(0, .ref (al 0 0)), (1, .int x1), (2, .int x2), (3, .int s2.1), (4, .int (s2.2 + 1))]) [0, 1, 2, 3, 4] rfl ?_
              exact K3 _ rfl h hG
          · have E := ob_t E c14
            refine ax_iload M d_M_pick_36 4 rfl ?_
            refine ax_iload_n M d_M_pick_38 2 rfl ?_
            refine ax_iadd M d_M_pick_39 ?_
            refine ax_iconst (v := 1) M d_M_pick_40 (by decide) ?_
            refine ax_iadd M d_M_pick_41 ?_
            refine ax_bipush (v := 8) M d_M_pick_42 (by decide) ?_
            refine ax_irem M d_M_pick_44 (by decide) ?_
            refine ax_goto (tgt := 50) M d_M_pick_45 (by decide) ?_
            refine ax_istore (lv' := [(0, .ref (al 0 0)), (1, .int x1), (2, .int x2), (3, .int s2.1), (4, .int s2.2), (5, .int (((s2.2 + x2) + 1) - ((s2.2 + x2) + 1) / 8 * 8))]) M d_M_pick_50 (by decide) [1, 2, 3, 4, 5, 0] rfl ?_
            refine ax_aload_n M d_M_pick_52 0 rfl ?_
            refine ax_iload M d_M_pick_53 5 rfl ?_
            obtain ⟨b10, e10, E⟩ := ob_b E
            refine ax_callV (n := 1) (C := R_M) (q := (R_M, F_M, 25)) M TT_good rfl rfl (SW.at hG 0 0 (by decide)) (ac_M_ready hG e10) lm_M_101 (by decide) (by decide) rfl rfl (Nat.le_of_ble_eq_true rfl) d_M_pick_55 (by decide) (c1 := 0) (s1 := 0) (by decide) (ax_ret_i (fun h hG => ?_))
            refine ax_if_ne (tgt := 64) M d_M_pick_58 (by decide) (fun c19 => ?_) (fun c19 => ?_)
            · have E := ob_f E c19
              refine ax_iload_n M d_M_pick_64 3 rfl ?_
              refine ax_if_lt (tgt := 87) M d_M_pick_65 (by decide) (fun c20 => ?_) (fun c20 => ?_)
              · have E := ob_t E c20
                refine ax_iload M d_M_pick_87 5 rfl ?_
                refine ax_istore_n (lv' := [(0, .ref (al 0 0)), (1, .int x1), (2, .int x2), (3, .int (((s2.2 + x2) + 1) - ((s2.2 + x2) + 1) / 8 * 8)), (4, .int s2.2)]) M d_M_pick_89 (by decide) [1, 2, 3, 0, 4] rfl ?_
                refine ax_iinc (v := s2.2 + 1) (lv' := [(0, .ref (al 0 0)), (1, .int x1), (2, .int x2), (3, .int (((s2.2 + x2) + 1) - ((s2.2 + x2) + 1) / 8 * 8)), (4, .int (s2.2 + 1))]) M d_M_pick_90 4 rfl rfl (by decide) [1, 2, 3, 4, 0] rfl ?_
                refine ax_goto (tgt := 24) M d_M_pick_93 (by decide) ?_
                obtain rfl := Option.some.inj E
                refine ax_lv (lv' := [(0, .ref (al 0 0)), (1, .int x1), (2, .int x2), (3, .int (((s2.2 + x2) + 1) - ((s2.2 + x2) + 1) / 8 * 8)), (4, .int (s2.2 + 1))]) [0, 1, 2, 3, 4] rfl ?_
                exact K3 _ rfl h hG
              · have E := ob_f E c20
                refine ax_iload_n M d_M_pick_68 1 rfl ?_
                refine ax_iconst (v := 1) M d_M_pick_69 (by decide) ?_
                refine ax_icmp_ne (tgt := 90) M d_M_pick_70 (by decide) (fun c21 => ?_) (fun c21 => ?_)
                · have E := ob_f E c21
                  refine ax_iinc (v := s2.2 + 1) (lv' := [(0, .ref (al 0 0)), (1, .int x1), (2, .int x2), (3, .int s2.1), (4, .int (s2.2 + 1)), (5, .int (((s2.2 + x2) + 1) - ((s2.2 + x2) + 1) / 8 * 8))]) M d_M_pick_90 4 rfl rfl (by decide) [1, 2, 3, 4, 0, 5] rfl ?_
                  refine ax_goto (tgt := 24) M d_M_pick_93 (by decide) ?_
                  obtain rfl := Option.some.inj E
                  refine ax_lv (lv' := [(0, .ref (al 0 0)), (1, .int x1), (2, .int x2), (3, .int s2.1), (4, .int (s2.2 + 1))]) [0, 1, 2, 3, 4] rfl ?_
                  exact K3 _ rfl h hG
                · have E := ob_t E c21
                  refine ax_aload_n M d_M_pick_73 0 rfl ?_
                  refine ax_iload M d_M_pick_74 5 rfl ?_
                  obtain ⟨b11, e11, E⟩ := ob_b E
                  refine ax_callV (n := 1) (C := R_M) (q := (R_M, F_M, 25)) M TT_good rfl rfl (SW.at hG 0 0 (by decide)) (ac_M_growth hG e11) lm_M_104 (by decide) (by decide) rfl rfl (Nat.le_of_ble_eq_true rfl) d_M_pick_76 (by decide) (c1 := 0) (s1 := 0) (by decide) (ax_ret_i (fun h hG => ?_))
                  refine ax_aload_n M d_M_pick_79 0 rfl ?_
                  refine ax_iload_n M d_M_pick_80 3 rfl ?_
                  obtain ⟨b12, e12, E⟩ := ob_b E
                  refine ax_callV (n := 1) (C := R_M) (q := (R_M, F_M, 25)) M TT_good rfl rfl (SW.at hG 0 0 (by decide)) (ac_M_growth hG e12) lm_M_104 (by decide) (by decide) rfl rfl (Nat.le_of_ble_eq_true rfl) d_M_pick_81 (by decide) (c1 := 0) (s1 := 0) (by decide) (ax_ret_i (fun h hG => ?_))
                  refine ax_icmp_ge (tgt := 90) M d_M_pick_84 (by decide) (fun c22 => ?_) (fun c22 => ?_)
                  · have E := ob_t E c22
                    refine ax_iinc (v := s2.2 + 1) (lv' := [(0, .ref (al 0 0)), (1, .int x1), (2, .int x2), (3, .int s2.1), (4, .int (s2.2 + 1)), (5, .int (((s2.2 + x2) + 1) - ((s2.2 + x2) + 1) / 8 * 8))]) M d_M_pick_90 4 rfl rfl (by decide) [1, 2, 3, 4, 0, 5] rfl ?_
                    refine ax_goto (tgt := 24) M d_M_pick_93 (by decide) ?_
                    obtain rfl := Option.some.inj E
                    refine ax_lv (lv' := [(0, .ref (al 0 0)), (1, .int x1), (2, .int x2), (3, .int s2.1), (4, .int (s2.2 + 1))]) [0, 1, 2, 3, 4] rfl ?_
                    exact K3 _ rfl h hG
                  · have E := ob_f E c22
                    refine ax_iload M d_M_pick_87 5 rfl ?_
                    refine ax_istore_n (lv' := [(0, .ref (al 0 0)), (1, .int x1), (2, .int x2), (3, .int (((s2.2 + x2) + 1) - ((s2.2 + x2) + 1) / 8 * 8)), (4, .int s2.2)]) M d_M_pick_89 (by decide) [1, 2, 3, 0, 4] rfl ?_
                    refine ax_iinc (v := s2.2 + 1) (lv' := [(0, .ref (al 0 0)), (1, .int x1), (2, .int x2), (3, .int (((s2.2 + x2) + 1) - ((s2.2 + x2) + 1) / 8 * 8)), (4, .int (s2.2 + 1))]) M d_M_pick_90 4 rfl rfl (by decide) [1, 2, 3, 4, 0] rfl ?_
                    refine ax_goto (tgt := 24) M d_M_pick_93 (by decide) ?_
                    obtain rfl := Option.some.inj E
                    refine ax_lv (lv' := [(0, .ref (al 0 0)), (1, .int x1), (2, .int x2), (3, .int (((s2.2 + x2) + 1) - ((s2.2 + x2) + 1) / 8 * 8)), (4, .int (s2.2 + 1))]) [0, 1, 2, 3, 4] rfl ?_
                    exact K3 _ rfl h hG
            · have E := ob_t E c19
              refine ax_goto (tgt := 90) M d_M_pick_61 (by decide) ?_
              refine ax_iinc (v := s2.2 + 1) (lv' := [(0, .ref (al 0 0)), (1, .int x1), (2, .int x2), (3, .int s2.1), (4, .int (s2.2 + 1)), (5, .int (((s2.2 + x2) + 1) - ((s2.2 + x2) + 1) / 8 * 8))]) M d_M_pick_90 4 rfl rfl (by decide) [1, 2, 3, 4, 0, 5] rfl ?_
              refine ax_goto (tgt := 24) M d_M_pick_93 (by decide) ?_
              obtain rfl := Option.some.inj E
              refine ax_lv (lv' := [(0, .ref (al 0 0)), (1, .int x1), (2, .int x2), (3, .int s2.1), (4, .int (s2.2 + 1))]) [0, 1, 2, 3, 4] rfl ?_
              exact K3 _ rfl h hG
      · intro h hG
        refine ax_iload_n M d_M_pick_96 3 rfl ?_
        obtain rfl := Option.some.inj E
        exact ax_iret M hR (by decide) (by decide) d_M_pick_97 ⟨rfl, hG⟩
    · have E := ob_f E c12
      refine ax_aload_n M d_M_pick_9 0 rfl ?_
      refine ax_iload_n M d_M_pick_10 2 rfl ?_
      obtain ⟨b13, e13, E⟩ := ob_b E
      refine ax_callV (n := 1) (C := R_M) (q := (R_M, F_M, 25)) M TT_good rfl rfl (SW.at hG 0 0 (by decide)) (ac_M_ready hG e13) lm_M_101 (by decide) (by decide) rfl rfl (Nat.le_of_ble_eq_true rfl) d_M_pick_11 (by decide) (c1 := 0) (s1 := 0) (by decide) (ax_ret_i (fun h hG => ?_))
      refine ax_if_eq (tgt := 19) M d_M_pick_14 (by decide) (fun c23 => ?_) (fun c23 => ?_)
      · have E := ob_t E c23
        refine ax_iconst (v := (-1)) M d_M_pick_19 (by decide) ?_
        refine ax_istore_n (lv' := [(0, .ref (al 0 0)), (1, .int x1), (2, .int x2), (3, .int (-1))]) M d_M_pick_20 (by decide) [1, 2, 3, 0] rfl ?_
        refine ax_iconst (v := 0) M d_M_pick_21 (by decide) ?_
        refine ax_istore (lv' := [(0, .ref (al 0 0)), (1, .int x1), (2, .int x2), (3, .int (-1)), (4, .int 0)]) M d_M_pick_22 (by decide) [1, 2, 3, 4, 0] rfl ?_
        refine ax_lv (lv' := [(0, .ref (al 0 0)), (1, .int x1), (2, .int x2), (3, .int (-1)), (4, .int 0)]) [0, 1, 2, 3, 4] rfl ?_
        obtain ⟨r3, l3, E⟩ := ob_b E
        refine lp_walk (fun (s3 : Int32 × Int32) => ∀ h : AH, SW dmM (cfM cc) al σ h0 h → AW l D vwCl rm_M_pick 6 X 0 0 h 24 [(0, .ref (al 0 0)), (1, .int x1), (2, .int x2), (3, .int s3.1), (4, .int s3.2)] []) (fun (r3 : Int32 × Int32) => ∀ h : AH, SW dmM (cfM cc) al σ h0 h → AW l D vwCl rm_M_pick 6 X 0 0 h 96 [(0, .ref (al 0 0)), (1, .int x1), (2, .int x2), (3, .int r3.1), (4, .int r3.2)] []) ?_ _ _ _ l3 ?_ h hG
        · intro s3 y3 E K5 K6 h hG
          refine ax_iload M d_M_pick_24 4 rfl ?_
          refine ax_bipush (v := 8) M d_M_pick_26 (by decide) ?_
          refine ax_icmp_ge (tgt := 96) M d_M_pick_28 (by decide) (fun c24 => ?_) (fun c24 => ?_)
          · have E := ob_t E c24
            obtain rfl := Option.some.inj E
            refine ax_lv (lv' := [(0, .ref (al 0 0)), (1, .int x1), (2, .int x2), (3, .int s3.1), (4, .int s3.2)]) [0, 1, 2, 3, 4] rfl ?_
            exact (K6 _ rfl) h hG
          · have E := ob_f E c24
            refine ax_iload_n M d_M_pick_31 1 rfl ?_
            refine ax_iconst (v := 2) M d_M_pick_32 (by decide) ?_
            refine ax_icmp_ne (tgt := 48) M d_M_pick_33 (by decide) (fun c25 => ?_) (fun c25 => ?_)
            · have E := ob_f E c25
              refine ax_iload M d_M_pick_48 4 rfl ?_
              refine ax_istore (lv' := [(0, .ref (al 0 0)), (1, .int x1), (2, .int x2), (3, .int s3.1), (4, .int s3.2), (5, .int s3.2)]) M d_M_pick_50 (by decide) [1, 2, 3, 4, 5, 0] rfl ?_
              refine ax_aload_n M d_M_pick_52 0 rfl ?_
              refine ax_iload M d_M_pick_53 5 rfl ?_
              obtain ⟨b14, e14, E⟩ := ob_b E
              refine ax_callV (n := 1) (C := R_M) (q := (R_M, F_M, 25)) M TT_good rfl rfl (SW.at hG 0 0 (by decide)) (ac_M_ready hG e14) lm_M_101 (by decide) (by decide) rfl rfl (Nat.le_of_ble_eq_true rfl) d_M_pick_55 (by decide) (c1 := 0) (s1 := 0) (by decide) (ax_ret_i (fun h hG => ?_))
              refine ax_if_ne (tgt := 64) M d_M_pick_58 (by decide) (fun c26 => ?_) (fun c26 => ?_)
              · have E := ob_f E c26
                refine ax_iload_n M d_M_pick_64 3 rfl ?_
                refine ax_if_lt (tgt := 87) M d_M_pick_65 (by decide) (fun c27 => ?_) (fun c27 => ?_)
                · have E := ob_t E c27
                  refine ax_iload M d_M_pick_87 5 rfl ?_
                  refine ax_istore_n (lv' := [(0, .ref (al 0 0)), (1, .int x1), (2, .int x2), (3, .int s3.2), (4, .int s3.2)]) M d_M_pick_89 (by decide) [1, 2, 3, 0, 4] rfl ?_
                  refine ax_iinc (v := s3.2 + 1) (lv' := [(0, .ref (al 0 0)), (1, .int x1), (2, .int x2), (3, .int s3.2), (4, .int (s3.2 + 1))]) M d_M_pick_90 4 rfl rfl (by decide) [1, 2, 3, 4, 0] rfl ?_
                  refine ax_goto (tgt := 24) M d_M_pick_93 (by decide) ?_
                  obtain rfl := Option.some.inj E
                  refine ax_lv (lv' := [(0, .ref (al 0 0)), (1, .int x1), (2, .int x2), (3, .int s3.2), (4, .int (s3.2 + 1))]) [0, 1, 2, 3, 4] rfl ?_
                  exact K5 _ rfl h hG
                · have E := ob_f E c27
                  refine ax_iload_n M d_M_pick_68 1 rfl ?_
                  refine ax_iconst (v := 1) M d_M_pick_69 (by decide) ?_
                  refine ax_icmp_ne (tgt := 90) M d_M_pick_70 (by decide) (fun c28 => ?_) (fun c28 => ?_)
                  · have E := ob_f E c28
                    refine ax_iinc (v := s3.2 + 1) (lv' := [(0, .ref (al 0 0)), (1, .int x1), (2, .int x2), (3, .int s3.1), (4, .int (s3.2 + 1)), (5, .int s3.2)]) M d_M_pick_90 4 rfl rfl (by decide) [1, 2, 3, 4, 0, 5] rfl ?_
                    refine ax_goto (tgt := 24) M d_M_pick_93 (by decide) ?_
                    obtain rfl := Option.some.inj E
                    refine ax_lv (lv' := [(0, .ref (al 0 0)), (1, .int x1), (2, .int x2), (3, .int s3.1), (4, .int (s3.2 + 1))]) [0, 1, 2, 3, 4] rfl ?_
                    exact K5 _ rfl h hG
                  · have E := ob_t E c28
                    refine ax_aload_n M d_M_pick_73 0 rfl ?_
                    refine ax_iload M d_M_pick_74 5 rfl ?_
                    obtain ⟨b15, e15, E⟩ := ob_b E
                    refine ax_callV (n := 1) (C := R_M) (q := (R_M, F_M, 25)) M TT_good rfl rfl (SW.at hG 0 0 (by decide)) (ac_M_growth hG e15) lm_M_104 (by decide) (by decide) rfl rfl (Nat.le_of_ble_eq_true rfl) d_M_pick_76 (by decide) (c1 := 0) (s1 := 0) (by decide) (ax_ret_i (fun h hG => ?_))
                    refine ax_aload_n M d_M_pick_79 0 rfl ?_
                    refine ax_iload_n M d_M_pick_80 3 rfl ?_
                    obtain ⟨b16, e16, E⟩ := ob_b E
                    refine ax_callV (n := 1) (C := R_M) (q := (R_M, F_M, 25)) M TT_good rfl rfl (SW.at hG 0 0 (by decide)) (ac_M_growth hG e16) lm_M_104 (by decide) (by decide) rfl rfl (Nat.le_of_ble_eq_true rfl) d_M_pick_81 (by decide) (c1 := 0) (s1 := 0) (by decide) (ax_ret_i (fun h hG => ?_))
                    refine ax_icmp_ge (tgt := 90) M d_M_pick_84 (by decide) (fun c29 => ?_) (fun c29 => ?_)
                    · have E := ob_t E c29
                      refine ax_iinc (v := s3.2 + 1) (lv' := [(0, .ref (al 0 0)), (1, .int x1), (2, .int x2), (3, .int s3.1), (4, .int (s3.2 + 1)), (5, .int s3.2)]) M d_M_pick_90 4 rfl rfl (by decide) [1, 2, 3, 4, 0, 5] rfl ?_
                      refine ax_goto (tgt := 24) M d_M_pick_93 (by decide) ?_
                      obtain rfl := Option.some.inj E
                      refine ax_lv (lv' := [(0, .ref (al 0 0)), (1, .int x1), (2, .int x2), (3, .int s3.1), (4, .int (s3.2 + 1))]) [0, 1, 2, 3, 4] rfl ?_
                      exact K5 _ rfl h hG
                    · have E := ob_f E c29
                      refine ax_iload M d_M_pick_87 5 rfl ?_
                      refine ax_istore_n (lv' := [(0, .ref (al 0 0)), (1, .int x1), (2, .int x2), (3, .int s3.2), (4, .int s3.2)]) M d_M_pick_89 (by decide) [1, 2, 3, 0, 4] rfl ?_
                      refine ax_iinc (v := s3.2 + 1) (lv' := [(0, .ref (al 0 0)), (1, .int x1), (2, .int x2), (3, .int s3.2), (4, .int (s3.2 + 1))]) M d_M_pick_90 4 rfl rfl (by decide) [1, 2, 3, 4, 0] rfl ?_
                      refine ax_goto (tgt := 24) M d_M_pick_93 (by decide) ?_
                      obtain rfl := Option.some.inj E
                      refine ax_lv (lv' := [(0, .ref (al 0 0)), (1, .int x1), (2, .int x2), (3, .int s3.2), (4, .int (s3.2 + 1))]) [0, 1, 2, 3, 4] rfl ?_
                      exact K5 _ rfl h hG
              · have E := ob_t E c26
                refine ax_goto (tgt := 90) M d_M_pick_61 (by decide) ?_
                refine ax_iinc (v := s3.2 + 1) (lv' := [(0, .ref (al 0 0)), (1, .int x1), (2, .int x2), (3, .int s3.1), (4, .int (s3.2 + 1)), (5, .int s3.2)]) M d_M_pick_90 4 rfl rfl (by decide) [1, 2, 3, 4, 0, 5] rfl ?_
                refine ax_goto (tgt := 24) M d_M_pick_93 (by decide) ?_
                obtain rfl := Option.some.inj E
                refine ax_lv (lv' := [(0, .ref (al 0 0)), (1, .int x1), (2, .int x2), (3, .int s3.1), (4, .int (s3.2 + 1))]) [0, 1, 2, 3, 4] rfl ?_
                exact K5 _ rfl h hG
            · have E := ob_t E c25
              refine ax_iload M d_M_pick_36 4 rfl ?_
              refine ax_iload_n M d_M_pick_38 2 rfl ?_
              refine ax_iadd M d_M_pick_39 ?_
              refine ax_iconst (v := 1) M d_M_pick_40 (by decide) ?_
              refine ax_iadd M d_M_pick_41 ?_
              refine ax_bipush (v := 8) M d_M_pick_42 (by decide) ?_
              refine ax_irem M d_M_pick_44 (by decide) ?_
              refine ax_goto (tgt := 50) M d_M_pick_45 (by decide) ?_
              refine ax_istore (lv' := [(0, .ref (al 0 0)), (1, .int x1), (2, .int x2), (3, .int s3.1), (4, .int s3.2), (5, .int (((s3.2 + x2) + 1) - ((s3.2 + x2) + 1) / 8 * 8))]) M d_M_pick_50 (by decide) [1, 2, 3, 4, 5, 0] rfl ?_
              refine ax_aload_n M d_M_pick_52 0 rfl ?_
              refine ax_iload M d_M_pick_53 5 rfl ?_
              obtain ⟨b17, e17, E⟩ := ob_b E
              refine ax_callV (n := 1) (C := R_M) (q := (R_M, F_M, 25)) M TT_good rfl rfl (SW.at hG 0 0 (by decide)) (ac_M_ready hG e17) lm_M_101 (by decide) (by decide) rfl rfl (Nat.le_of_ble_eq_true rfl) d_M_pick_55 (by decide) (c1 := 0) (s1 := 0) (by decide) (ax_ret_i (fun h hG => ?_))
              refine ax_if_ne (tgt := 64) M d_M_pick_58 (by decide) (fun c30 => ?_) (fun c30 => ?_)
              · have E := ob_f E c30
                refine ax_iload_n M d_M_pick_64 3 rfl ?_
                refine ax_if_lt (tgt := 87) M d_M_pick_65 (by decide) (fun c31 => ?_) (fun c31 => ?_)
                · have E := ob_t E c31
                  refine ax_iload M d_M_pick_87 5 rfl ?_
                  refine ax_istore_n (lv' := [(0, .ref (al 0 0)), (1, .int x1), (2, .int x2), (3, .int (((s3.2 + x2) + 1) - ((s3.2 + x2) + 1) / 8 * 8)), (4, .int s3.2)]) M d_M_pick_89 (by decide) [1, 2, 3, 0, 4] rfl ?_
                  refine ax_iinc (v := s3.2 + 1) (lv' := [(0, .ref (al 0 0)), (1, .int x1), (2, .int x2), (3, .int (((s3.2 + x2) + 1) - ((s3.2 + x2) + 1) / 8 * 8)), (4, .int (s3.2 + 1))]) M d_M_pick_90 4 rfl rfl (by decide) [1, 2, 3, 4, 0] rfl ?_
                  refine ax_goto (tgt := 24) M d_M_pick_93 (by decide) ?_
                  obtain rfl := Option.some.inj E
                  refine ax_lv (lv' := [(0, .ref (al 0 0)), (1, .int x1), (2, .int x2), (3, .int (((s3.2 + x2) + 1) - ((s3.2 + x2) + 1) / 8 * 8)), (4, .int (s3.2 + 1))]) [0, 1, 2, 3, 4] rfl ?_
                  exact K5 _ rfl h hG
                · have E := ob_f E c31
                  refine ax_iload_n M d_M_pick_68 1 rfl ?_
                  refine ax_iconst (v := 1) M d_M_pick_69 (by decide) ?_
                  refine ax_icmp_ne (tgt := 90) M d_M_pick_70 (by decide) (fun c32 => ?_) (fun c32 => ?_)
                  · have E := ob_f E c32
                    refine ax_iinc (v := s3.2 + 1) (lv' := [(0, .ref (al 0 0)), (1, .int x1), (2, .int x2), (3, .int s3.1), (4, .int (s3.2 + 1)), (5, .int (((s3.2 + x2) + 1) - ((s3.2 + x2) + 1) / 8 * 8))]) M d_M_pick_90 4 rfl rfl (by decide) [1, 2, 3, 4, 0, 5] rfl ?_
                    refine ax_goto (tgt := 24) M d_M_pick_93 (by decide) ?_
                    obtain rfl := Option.some.inj E
                    refine ax_lv (lv' := [(0, .ref (al 0 0)), (1, .int x1), (2, .int x2), (3, .int s3.1), (4, .int (s3.2 + 1))]) [0, 1, 2, 3, 4] rfl ?_
                    exact K5 _ rfl h hG
                  · have E := ob_t E c32
                    refine ax_aload_n M d_M_pick_73 0 rfl ?_
                    refine ax_iload M d_M_pick_74 5 rfl ?_
                    obtain ⟨b18, e18, E⟩ := ob_b E
                    refine ax_callV (n := 1) (C := R_M) (q := (R_M, F_M, 25)) M TT_good rfl rfl (SW.at hG 0 0 (by decide)) (ac_M_growth hG e18) lm_M_104 (by decide) (by decide) rfl rfl (Nat.le_of_ble_eq_true rfl) d_M_pick_76 (by decide) (c1 := 0) (s1 := 0) (by decide) (ax_ret_i (fun h hG => ?_))
                    refine ax_aload_n M d_M_pick_79 0 rfl ?_
                    refine ax_iload_n M d_M_pick_80 3 rfl ?_
                    obtain ⟨b19, e19, E⟩ := ob_b E
                    refine ax_callV (n := 1) (C := R_M) (q := (R_M, F_M, 25)) M TT_good rfl rfl (SW.at hG 0 0 (by decide)) (ac_M_growth hG e19) lm_M_104 (by decide) (by decide) rfl rfl (Nat.le_of_ble_eq_true rfl) d_M_pick_81 (by decide) (c1 := 0) (s1 := 0) (by decide) (ax_ret_i (fun h hG => ?_))
                    refine ax_icmp_ge (tgt := 90) M d_M_pick_84 (by decide) (fun c33 => ?_) (fun c33 => ?_)
                    · have E := ob_t E c33
                      refine ax_iinc (v := s3.2 + 1) (lv' := [(0, .ref (al 0 0)), (1, .int x1), (2, .int x2), (3, .int s3.1), (4, .int (s3.2 + 1)), (5, .int (((s3.2 + x2) + 1) - ((s3.2 + x2) + 1) / 8 * 8))]) M d_M_pick_90 4 rfl rfl (by decide) [1, 2, 3, 4, 0, 5] rfl ?_
                      refine ax_goto (tgt := 24) M d_M_pick_93 (by decide) ?_
                      obtain rfl := Option.some.inj E
                      refine ax_lv (lv' := [(0, .ref (al 0 0)), (1, .int x1), (2, .int x2), (3, .int s3.1), (4, .int (s3.2 + 1))]) [0, 1, 2, 3, 4] rfl ?_
                      exact K5 _ rfl h hG
                    · have E := ob_f E c33
                      refine ax_iload M d_M_pick_87 5 rfl ?_
                      refine ax_istore_n (lv' := [(0, .ref (al 0 0)), (1, .int x1), (2, .int x2), (3, .int (((s3.2 + x2) + 1) - ((s3.2 + x2) + 1) / 8 * 8)), (4, .int s3.2)]) M d_M_pick_89 (by decide) [1, 2, 3, 0, 4] rfl ?_
                      refine ax_iinc (v := s3.2 + 1) (lv' := [(0, .ref (al 0 0)), (1, .int x1), (2, .int x2), (3, .int (((s3.2 + x2) + 1) - ((s3.2 + x2) + 1) / 8 * 8)), (4, .int (s3.2 + 1))]) M d_M_pick_90 4 rfl rfl (by decide) [1, 2, 3, 4, 0] rfl ?_
                      refine ax_goto (tgt := 24) M d_M_pick_93 (by decide) ?_
                      obtain rfl := Option.some.inj E
                      refine ax_lv (lv' := [(0, .ref (al 0 0)), (1, .int x1), (2, .int x2), (3, .int (((s3.2 + x2) + 1) - ((s3.2 + x2) + 1) / 8 * 8)), (4, .int (s3.2 + 1))]) [0, 1, 2, 3, 4] rfl ?_
                      exact K5 _ rfl h hG
              · have E := ob_t E c30
                refine ax_goto (tgt := 90) M d_M_pick_61 (by decide) ?_
                refine ax_iinc (v := s3.2 + 1) (lv' := [(0, .ref (al 0 0)), (1, .int x1), (2, .int x2), (3, .int s3.1), (4, .int (s3.2 + 1)), (5, .int (((s3.2 + x2) + 1) - ((s3.2 + x2) + 1) / 8 * 8))]) M d_M_pick_90 4 rfl rfl (by decide) [1, 2, 3, 4, 0, 5] rfl ?_
                refine ax_goto (tgt := 24) M d_M_pick_93 (by decide) ?_
                obtain rfl := Option.some.inj E
                refine ax_lv (lv' := [(0, .ref (al 0 0)), (1, .int x1), (2, .int x2), (3, .int s3.1), (4, .int (s3.2 + 1))]) [0, 1, 2, 3, 4] rfl ?_
                exact K5 _ rfl h hG
        · intro h hG
          refine ax_iload_n M d_M_pick_96 3 rfl ?_
          obtain rfl := Option.some.inj E
          exact ax_iret M hR (by decide) (by decide) d_M_pick_97 ⟨rfl, hG⟩
      · have E := ob_f E c23
        refine ax_iload_n M d_M_pick_17 2 rfl ?_
        obtain rfl := Option.some.inj E
        exact ax_iret M hR (by decide) (by decide) d_M_pick_18 ⟨rfl, hG⟩
