def M_gcd (x0 : Int64) (x2 : Int64) : Option (Int64) :=
  (lp (fun s1 : Int64 × Int64 =>
  if (lg_cmp s1.2 0) = 0 then
  (some (.inr ((s1.1, s1.2)))) else
  (if ¬ s1.2 = 0 then 
  (some (.inl ((s1.2, s1.1 - s1.1 / s1.2 * s1.2)))) else none)) 1000 ((x0, x2))).bind (fun r1 : Int64 × Int64 =>
  some r1.1)
abbrev rm_M_gcd : Room := { frames := 0, cells := 0, slots := 0, locals := 0 }
set_option maxRecDepth 100000 in
set_option maxHeartbeats 4000000 in
theorem ac_M_gcd {l : Launch} {D : va_G} {cc : Nat → ClassId} {al : Nat → Nat → Nat} {σ : ST} {h0 h : AH} {x0 : Int64} {x2 : Int64} {res : Int64}  (hG : SW dmM (cfM cc) al σ h0 h) (E : M_gcd x0 x2 = some res) : AC l D vwCl (tysOf cc) NN y_M_gcd (Cond.code y_M_gcd b_M_gcd 10 (some .long) :: TT) rm_M_gcd [.long x0, .long x2] h (fun rv h' => rv = some (.long res) ∧ SW dmM (cfM cc) al σ h0 h') := by
  refine AC.of (by decide) rfl (Nat.le_of_ble_eq_true rfl) (fun X M hR hI => ?_)
  unfold M_gcd at E
  refine ax_lv (lv' := [(0, .long x0), (2, .long x2)]) [0, 1] rfl ?_
  refine ax_lload_n M d_M_gcd_0 0 rfl ?_
  refine ax_lstore (lv' := [(2, .long x2), (4, .long x0)]) M d_M_gcd_1 (by decide) [2, 0] rfl ?_
  refine ax_lload_n M d_M_gcd_3 0 rfl ?_
  refine ax_lstore (lv' := [(4, .long x0), (6, .long x2)]) M d_M_gcd_4 (by decide) [2, 0] rfl ?_
  refine ax_lv (lv' := [(4, .long x0), (6, .long x2)]) [0, 1] rfl ?_
  obtain ⟨r1, l1, E⟩ := ob_b E
  refine lp_walk (fun (s1 : Int64 × Int64) => ∀ h : AH, SW dmM (cfM cc) al σ h0 h → AW l D vwCl rm_M_gcd 10 X 0 0 h 6 [(4, .long s1.1), (6, .long s1.2)] []) (fun (r1 : Int64 × Int64) => ∀ h : AH, SW dmM (cfM cc) al σ h0 h → AW l D vwCl rm_M_gcd 10 X 0 0 h 31 [(4, .long r1.1), (6, .long r1.2)] []) ?_ _ _ _ l1 ?_ h hG
  · intro s1 y1 E K1 K2 h hG
    refine ax_lload M d_M_gcd_6 1 rfl ?_
    refine ax_lconst (v := 0) M d_M_gcd_8 (by decide) ?_
    refine ax_lcmp M d_M_gcd_9 ?_
    refine ax_if_eq (tgt := 31) M d_M_gcd_10 (by decide) (fun c1 => ?_) (fun c1 => ?_)
    · have E := ob_t E c1
      obtain rfl := Option.some.inj E
      refine ax_lv (lv' := [(4, .long s1.1), (6, .long s1.2)]) [0, 1] rfl ?_
      exact (K2 _ rfl) h hG
    · have E := ob_f E c1
      refine ax_lload M d_M_gcd_13 0 rfl ?_
      refine ax_lload M d_M_gcd_15 1 rfl ?_
      obtain ⟨k1, E⟩ := ob_c E
      refine ax_lrem M d_M_gcd_17 k1 ?_
      refine ax_lstore (lv' := [(6, .long s1.2), (8, .long (s1.1 - s1.1 / s1.2 * s1.2))]) M d_M_gcd_18 (by decide) [2, 0] rfl ?_
      refine ax_lload M d_M_gcd_20 0 rfl ?_
      refine ax_lstore (lv' := [(4, .long s1.2), (8, .long (s1.1 - s1.1 / s1.2 * s1.2))]) M d_M_gcd_22 (by decide) [0, 2] rfl ?_
      refine ax_lload M d_M_gcd_24 1 rfl ?_
      refine ax_lstore (lv' := [(4, .long s1.2), (6, .long (s1.1 - s1.1 / s1.2 * s1.2))]) M d_M_gcd_26 (by decide) [1, 0] rfl ?_
      refine ax_goto (tgt := 6) M d_M_gcd_28 (by decide) ?_
      obtain rfl := Option.some.inj E
      refine ax_lv (lv' := [(4, .long s1.2), (6, .long (s1.1 - s1.1 / s1.2 * s1.2))]) [0, 1] rfl ?_
      exact K1 _ rfl h hG
  · intro h hG
    refine ax_lload M d_M_gcd_31 0 rfl ?_
    obtain rfl := Option.some.inj E
    exact ax_lret M hR (by decide) (by decide) d_M_gcd_33 ⟨rfl, hG⟩
def M_setFraction (σ : ST) (x1 : Int32) (x2 : Int64) (x4 : Int64) : Option (ST) :=
  (M_gcd x2 x4).bind (fun b1 => 
  (if ¬ b1 = 0 then 
  (if inb x1 8 then 
  (some (sl (sl σ 11 0 (ix x1) (x2 / b1)) 12 0 (ix x1) (x4 / b1))) else none) else none))
abbrev rm_M_setFraction : Room := { frames := 1, cells := 0, slots := 0, locals := 29 }
set_option maxRecDepth 100000 in
set_option maxHeartbeats 4000000 in
theorem ac_M_setFraction {l : Launch} {D : va_G} {cc : Nat → ClassId} {al : Nat → Nat → Nat} {σ : ST} {h0 h : AH} {x1 : Int32} {x2 : Int64} {x4 : Int64} {res : ST}  (hG : SW dmM (cfM cc) al σ h0 h) (E : M_setFraction σ x1 x2 x4 = some res) : AC l D vwCl (tysOf cc) NN y_M_setFraction (Cond.code y_M_setFraction b_M_setFraction 8 none :: TT) rm_M_setFraction [.ref (al 0 0), .int x1, .long x2, .long x4] h (fun rv h' => rv = none ∧ SW dmM (cfM cc) al res h0 h') := by
  refine AC.of (by decide) rfl (Nat.le_of_ble_eq_true rfl) (fun X M hR hI => ?_)
  unfold M_setFraction at E
  refine ax_lv (lv' := [(0, .ref (al 0 0)), (1, .int x1), (2, .long x2), (4, .long x4)]) [0, 1, 2, 3] rfl ?_
  refine ax_lload_n M d_M_setFraction_0 2 rfl ?_
  refine ax_lload M d_M_setFraction_1 3 rfl ?_
  obtain ⟨b1, e1, E⟩ := ob_b E
  refine ax_callS (n := 2) M TT_good (ac_M_gcd hG e1) lm_M_87 (by decide) (by decide) rfl rfl (Nat.le_of_ble_eq_true rfl) d_M_setFraction_3 (by decide) (c1 := 0) (s1 := 0) (by decide) (ax_ret_l (fun h hG => ?_))
  refine ax_lstore (lv' := [(0, .ref (al 0 0)), (1, .int x1), (2, .long x2), (4, .long x4), (6, .long b1)]) M d_M_setFraction_6 (by decide) [1, 2, 3, 4, 0] rfl ?_
  refine ax_aload_n M d_M_setFraction_8 0 rfl ?_
  refine sw_get M hG 0 0 (by decide) in_M rfl rfl 10 (by decide) wd_414 rfl d_M_setFraction_9 ?_
  refine ax_iload_n M d_M_setFraction_12 1 rfl ?_
  refine ax_lload_n M d_M_setFraction_13 2 rfl ?_
  refine ax_lload M d_M_setFraction_14 4 rfl ?_
  obtain ⟨k1, E⟩ := ob_c E
  refine ax_ldiv M d_M_setFraction_16 k1 ?_
  obtain ⟨k2, E⟩ := ob_c E
  refine sw_last M hG 11 0 (by decide) rfl 5 rfl k2 rfl d_M_setFraction_17 (fun h hG => ?_)
  refine ax_aload_n M d_M_setFraction_18 0 rfl ?_
  refine sw_get M hG 0 0 (by decide) in_M rfl rfl 11 (by decide) wd_415 rfl d_M_setFraction_19 ?_
  refine ax_iload_n M d_M_setFraction_22 1 rfl ?_
  refine ax_lload M d_M_setFraction_23 3 rfl ?_
  refine ax_lload M d_M_setFraction_25 4 rfl ?_
  refine ax_ldiv M d_M_setFraction_27 k1 ?_
  refine sw_last M hG 12 0 (by decide) rfl 5 rfl k2 rfl d_M_setFraction_28 (fun h hG => ?_)
  obtain rfl := Option.some.inj E
  exact ax_vret M hR (by decide) (by decide) d_M_setFraction_29 ⟨rfl, hG⟩
def M_balance (σ : ST) (x1 : Int32) : Option (Int32 × ST) :=
  (lp (fun s1 : ST × Int32 =>
  if 8 ≤ s1.2 then
  (some (.inr ((s1.1, s1.2)))) else
  (if inb s1.2 8 then 
  (some (.inl ((su s1.1 13 0 (ix s1.2) (-1), s1.2 + 1)))) else none)) 1000 ((σ, 0))).bind (fun r1 : ST × Int32 =>
  (lp (fun s2 : ST × Int32 =>
  if 8 ≤ s2.2 then
  (some (.inr ((s2.1, s2.2)))) else
  (if inb s2.2 8 then 
  (if (gi s2.1 1 0 (ix s2.2)) = 0 then
  (some (.inl ((s2.1, s2.2 + 1)))) else
  (if (gi s2.1 13 0 (ix s2.2)) < 0 then
  ((lp (fun s3 : ST × Int32 =>
  if 8 ≤ s3.2 then
  (some (.inr ((s3.1, s3.2)))) else
  ((lp (fun s4 : ST × Int32 =>
  if x1 ≤ s4.2 then
  (some (.inr ((s4.1, s4.2)))) else
  (if inb s4.2 13 then 
  (if inb (gi s4.1 4 0 (ix s4.2)) 8 then 
  (if (gi s4.1 13 0 (ix (gi s4.1 4 0 (ix s4.2)))) = s2.2 then
  (if inb (gi s4.1 5 0 (ix s4.2)) 8 then 
  (if 0 ≤ (gi s4.1 13 0 (ix (gi s4.1 5 0 (ix s4.2)))) then
  (if (gi s4.1 13 0 (ix (gi s4.1 5 0 (ix s4.2)))) = s2.2 then
  (if 0 ≤ (gi s4.1 13 0 (ix (gi s4.1 4 0 (ix s4.2)))) then
  (some (.inl ((s4.1, s4.2 + 1)))) else
  ((M_setFraction (su s4.1 13 0 (ix (gi s4.1 4 0 (ix s4.2))) s2.2) (gi s4.1 4 0 (ix s4.2)) ((gl s4.1 11 0 (ix (gi s4.1 5 0 (ix s4.2)))) * ((gi s4.1 7 0 (ix s4.2)).toInt64)) ((gl s4.1 12 0 (ix (gi s4.1 5 0 (ix s4.2)))) * ((gi s4.1 6 0 (ix s4.2)).toInt64))).bind (fun b2 => 
  (some (.inl ((b2, s4.2 + 1))))))) else
  (some (.inl ((s4.1, s4.2 + 1))))) else
  ((M_setFraction (su s4.1 13 0 (ix (gi s4.1 5 0 (ix s4.2))) s2.2) (gi s4.1 5 0 (ix s4.2)) ((gl s4.1 11 0 (ix (gi s4.1 4 0 (ix s4.2)))) * ((gi s4.1 6 0 (ix s4.2)).toInt64)) ((gl s4.1 12 0 (ix (gi s4.1 4 0 (ix s4.2)))) * ((gi s4.1 7 0 (ix s4.2)).toInt64))).bind (fun b3 => 
  (if (gi b3 13 0 (ix (gi s4.1 5 0 (ix s4.2)))) = s2.2 then
  (if 0 ≤ (gi b3 13 0 (ix (gi s4.1 4 0 (ix s4.2)))) then
  (some (.inl ((b3, s4.2 + 1)))) else
  ((M_setFraction (su b3 13 0 (ix (gi s4.1 4 0 (ix s4.2))) s2.2) (gi s4.1 4 0 (ix s4.2)) ((gl b3 11 0 (ix (gi s4.1 5 0 (ix s4.2)))) * ((gi b3 7 0 (ix s4.2)).toInt64)) ((gl b3 12 0 (ix (gi s4.1 5 0 (ix s4.2)))) * ((gi b3 6 0 (ix s4.2)).toInt64))).bind (fun b4 => 
  (some (.inl ((b4, s4.2 + 1))))))) else
  (some (.inl ((b3, s4.2 + 1)))))))) else none) else
  (if inb (gi s4.1 5 0 (ix s4.2)) 8 then 
  (if (gi s4.1 13 0 (ix (gi s4.1 5 0 (ix s4.2)))) = s2.2 then
  (if 0 ≤ (gi s4.1 13 0 (ix (gi s4.1 4 0 (ix s4.2)))) then
  (some (.inl ((s4.1, s4.2 + 1)))) else
  ((M_setFraction (su s4.1 13 0 (ix (gi s4.1 4 0 (ix s4.2))) s2.2) (gi s4.1 4 0 (ix s4.2)) ((gl s4.1 11 0 (ix (gi s4.1 5 0 (ix s4.2)))) * ((gi s4.1 7 0 (ix s4.2)).toInt64)) ((gl s4.1 12 0 (ix (gi s4.1 5 0 (ix s4.2)))) * ((gi s4.1 6 0 (ix s4.2)).toInt64))).bind (fun b1 => 
  (some (.inl ((b1, s4.2 + 1))))))) else
  (some (.inl ((s4.1, s4.2 + 1))))) else none)) else none) else none)) 1000 ((s3.1, 0))).bind (fun r4 : ST × Int32 =>
  some (.inl ((r4.1, s3.2 + 1)))))) 1000 ((sl (sl (su s2.1 13 0 (ix s2.2) s2.2) 12 0 (ix s2.2) 1) 11 0 (ix s2.2) 1, 0))).bind (fun r3 : ST × Int32 =>
  some (.inl ((r3.1, s2.2 + 1))))) else
  (some (.inl ((s2.1, s2.2 + 1)))))) else none)) 1000 ((r1.1, 0))).bind (fun r2 : ST × Int32 =>
  (lp (fun s5 : Int32 =>
  if x1 ≤ s5 then
  (some (.inr (.inl s5))) else
  (if inb s5 13 then 
  (if inb (gi r2.1 4 0 (ix s5)) 8 then 
  (if inb (gi r2.1 5 0 (ix s5)) 8 then 
  (if (lg_cmp (((gl r2.1 11 0 (ix (gi r2.1 4 0 (ix s5)))) * ((gi r2.1 6 0 (ix s5)).toInt64)) * (gl r2.1 12 0 (ix (gi r2.1 5 0 (ix s5))))) (((gl r2.1 11 0 (ix (gi r2.1 5 0 (ix s5)))) * ((gi r2.1 7 0 (ix s5)).toInt64)) * (gl r2.1 12 0 (ix (gi r2.1 4 0 (ix s5)))))) = 0 then
  (some (.inl (s5 + 1))) else
  (some (.inr (.inr ((0, r2.1)))))) else none) else none) else none)) 1000 0).bind (fun r5 : (Int32) ⊕ (Int32 × ST) => Sum.elim (fun o1 : Int32 =>
  (some ((1, r2.1)))) (fun v1 : Int32 × ST => some v1) r5)))
abbrev rm_M_balance : Room := { frames := 2, cells := 0, slots := 0, locals := 56 }
set_option maxRecDepth 100000 in
set_option maxHeartbeats 4000000 in
theorem ac_M_balance {l : Launch} {D : va_G} {cc : Nat → ClassId} {al : Nat → Nat → Nat} {σ : ST} {h0 h : AH} {x1 : Int32} {res : Int32 × ST}  (hG : SW dmM (cfM cc) al σ h0 h) (E : M_balance σ x1 = some res) : AC l D vwCl (tysOf cc) NN y_M_balance (Cond.code y_M_balance b_M_balance 7 (some .boolean) :: TT) rm_M_balance [.ref (al 0 0), .int x1] h (fun rv h' => rv = some (.int res.1) ∧ SW dmM (cfM cc) al res.2 h0 h') := by
  refine AC.of (by decide) rfl (Nat.le_of_ble_eq_true rfl) (fun X M hR hI => ?_)
  unfold M_balance at E
  refine ax_lv (lv' := [(0, .ref (al 0 0)), (1, .int x1)]) [0, 1] rfl ?_
  refine ax_iconst (v := 0) M d_M_balance_0 (by decide) ?_
  refine ax_istore_n (lv' := [(0, .ref (al 0 0)), (1, .int x1), (2, .int 0)]) M d_M_balance_1 (by decide) [1, 2, 0] rfl ?_
  refine ax_lv (lv' := [(0, .ref (al 0 0)), (1, .int x1), (2, .int 0)]) [0, 1, 2] rfl ?_
  obtain ⟨r1, l1, E⟩ := ob_b E
  refine lp_walk (fun (s1 : ST × Int32) => ∀ h : AH, SW dmM (cfM cc) al s1.1 h0 h → AW l D vwCl rm_M_balance 7 X 0 0 h 2 [(0, .ref (al 0 0)), (1, .int x1), (2, .int s1.2)] []) (fun (r1 : ST × Int32) => ∀ h : AH, SW dmM (cfM cc) al r1.1 h0 h → AW l D vwCl rm_M_balance 7 X 0 0 h 21 [(0, .ref (al 0 0)), (1, .int x1), (2, .int r1.2)] []) ?_ _ _ _ l1 ?_ h hG
  · intro s1 y1 E K1 K2 h hG
    refine ax_iload_n M d_M_balance_2 2 rfl ?_
    refine ax_bipush (v := 8) M d_M_balance_3 (by decide) ?_
    refine ax_icmp_ge (tgt := 21) M d_M_balance_5 (by decide) (fun c1 => ?_) (fun c1 => ?_)
    · have E := ob_t E c1
      obtain rfl := Option.some.inj E
      refine ax_lv (lv' := [(0, .ref (al 0 0)), (1, .int x1), (2, .int s1.2)]) [0, 1, 2] rfl ?_
      exact (K2 _ rfl) h hG
    · have E := ob_f E c1
      refine ax_aload_n M d_M_balance_8 0 rfl ?_
      refine sw_get M hG 0 0 (by decide) in_M rfl rfl 12 (by decide) wd_416 rfl d_M_balance_9 ?_
      refine ax_iload_n M d_M_balance_12 2 rfl ?_
      refine ax_iconst (v := (-1)) M d_M_balance_13 (by decide) ?_
      obtain ⟨k1, E⟩ := ob_c E
      refine sw_iast M hG 13 0 (by decide) rfl 0 rfl k1 rfl d_M_balance_14 (fun h hG => ?_)
      refine ax_iinc (v := s1.2 + 1) (lv' := [(0, .ref (al 0 0)), (1, .int x1), (2, .int (s1.2 + 1))]) M d_M_balance_15 2 rfl rfl (by decide) [1, 2, 0] rfl ?_
      refine ax_goto (tgt := 2) M d_M_balance_18 (by decide) ?_
      obtain rfl := Option.some.inj E
      refine ax_lv (lv' := [(0, .ref (al 0 0)), (1, .int x1), (2, .int (s1.2 + 1))]) [0, 1, 2] rfl ?_
      exact K1 _ rfl h hG
  · intro h hG
    refine ax_iconst (v := 0) M d_M_balance_21 (by decide) ?_
    refine ax_istore_n (lv' := [(0, .ref (al 0 0)), (1, .int x1), (2, .int 0)]) M d_M_balance_22 (by decide) [1, 2, 0] rfl ?_
    refine ax_lv (lv' := [(0, .ref (al 0 0)), (1, .int x1), (2, .int 0)]) [0, 1, 2] rfl ?_
    obtain ⟨r2, l4, E⟩ := ob_b E
    refine lp_walk (fun (s2 : ST × Int32) => ∀ h : AH, SW dmM (cfM cc) al s2.1 h0 h → AW l D vwCl rm_M_balance 7 X 0 0 h 23 [(0, .ref (al 0 0)), (1, .int x1), (2, .int s2.2)] []) (fun (r2 : ST × Int32) => ∀ h : AH, SW dmM (cfM cc) al r2.1 h0 h → AW l D vwCl rm_M_balance 7 X 0 0 h 258 [(0, .ref (al 0 0)), (1, .int x1), (2, .int r2.2)] []) ?_ _ _ _ l4 ?_ h hG
    · intro s2 y2 E K3 K4 h hG
      refine ax_iload_n M d_M_balance_23 2 rfl ?_
      refine ax_bipush (v := 8) M d_M_balance_24 (by decide) ?_
      refine ax_icmp_ge (tgt := 258) M d_M_balance_26 (by decide) (fun c2 => ?_) (fun c2 => ?_)
      · have E := ob_t E c2
        obtain rfl := Option.some.inj E
        refine ax_lv (lv' := [(0, .ref (al 0 0)), (1, .int x1), (2, .int s2.2)]) [0, 1, 2] rfl ?_
        exact (K4 _ rfl) h hG
      · have E := ob_f E c2
        refine ax_aload_n M d_M_balance_29 0 rfl ?_
        refine sw_get M hG 0 0 (by decide) in_M rfl rfl 0 (by decide) wd_404 rfl d_M_balance_30 ?_
        refine ax_iload_n M d_M_balance_33 2 rfl ?_
        obtain ⟨k2, E⟩ := ob_c E
        refine sw_zald M hG 1 0 (by decide) rfl 4 rfl k2 d_M_balance_34 ?_
        refine ax_if_eq (tgt := 252) M d_M_balance_35 (by decide) (fun c3 => ?_) (fun c3 => ?_)
        · have E := ob_t E c3
          refine ax_iinc (v := s2.2 + 1) (lv' := [(0, .ref (al 0 0)), (1, .int x1), (2, .int (s2.2 + 1))]) M d_M_balance_252 2 rfl rfl (by decide) [1, 2, 0] rfl ?_
          refine ax_goto (tgt := 23) M d_M_balance_255 (by decide) ?_
          obtain rfl := Option.some.inj E
          refine ax_lv (lv' := [(0, .ref (al 0 0)), (1, .int x1), (2, .int (s2.2 + 1))]) [0, 1, 2] rfl ?_
          exact K3 _ rfl h hG
        · have E := ob_f E c3
          refine ax_aload_n M d_M_balance_38 0 rfl ?_
          refine sw_get M hG 0 0 (by decide) in_M rfl rfl 12 (by decide) wd_416 rfl d_M_balance_39 ?_
          refine ax_iload_n M d_M_balance_42 2 rfl ?_
          refine sw_iald M hG 13 0 (by decide) rfl 0 rfl k2 d_M_balance_43 ?_
          refine ax_if_lt (tgt := 50) M d_M_balance_44 (by decide) (fun c4 => ?_) (fun c4 => ?_)
          · have E := ob_t E c4
            refine ax_aload_n M d_M_balance_50 0 rfl ?_
            refine sw_get M hG 0 0 (by decide) in_M rfl rfl 12 (by decide) wd_416 rfl d_M_balance_51 ?_
            refine ax_iload_n M d_M_balance_54 2 rfl ?_
            refine ax_iload_n M d_M_balance_55 2 rfl ?_
            refine sw_iast M hG 13 0 (by decide) rfl 0 rfl k2 rfl d_M_balance_56 (fun h hG => ?_)
            refine ax_aload_n M d_M_balance_57 0 rfl ?_
            refine sw_get M hG 0 0 (by decide) in_M rfl rfl 10 (by decide) wd_414 rfl d_M_balance_58 ?_
            refine ax_iload_n M d_M_balance_61 2 rfl ?_
            refine ax_aload_n M d_M_balance_62 0 rfl ?_
            refine sw_get M hG 0 0 (by decide) in_M rfl rfl 11 (by decide) wd_415 rfl d_M_balance_63 ?_
            refine ax_iload_n M d_M_balance_66 2 rfl ?_
            refine ax_lconst (v := 1) M d_M_balance_67 (by decide) ?_
            refine ax_dup2_x2_2 M d_M_balance_68 rfl rfl rfl ?_
            refine sw_last M hG 12 0 (by decide) rfl 5 rfl k2 rfl d_M_balance_69 (fun h hG => ?_)
            refine sw_last M hG 11 0 (by decide) rfl 5 rfl k2 rfl d_M_balance_70 (fun h hG => ?_)
            refine ax_iconst (v := 0) M d_M_balance_71 (by decide) ?_
            refine ax_istore_n (lv' := [(0, .ref (al 0 0)), (1, .int x1), (2, .int s2.2), (3, .int 0)]) M d_M_balance_72 (by decide) [1, 2, 3, 0] rfl ?_
            refine ax_lv (lv' := [(0, .ref (al 0 0)), (1, .int x1), (2, .int s2.2), (3, .int 0)]) [0, 1, 2, 3] rfl ?_
            obtain ⟨r3, l3, E⟩ := ob_b E
            refine lp_walk (fun (s3 : ST × Int32) => ∀ h : AH, SW dmM (cfM cc) al s3.1 h0 h → AW l D vwCl rm_M_balance 7 X 0 0 h 73 [(0, .ref (al 0 0)), (1, .int x1), (2, .int s2.2), (3, .int s3.2)] []) (fun (r3 : ST × Int32) => ∀ h : AH, SW dmM (cfM cc) al r3.1 h0 h → AW l D vwCl rm_M_balance 7 X 0 0 h 252 [(0, .ref (al 0 0)), (1, .int x1), (2, .int s2.2), (3, .int r3.2)] []) ?_ _ _ _ l3 ?_ h hG
            · intro s3 y3 E K5 K6 h hG
              refine ax_iload_n M d_M_balance_73 3 rfl ?_
              refine ax_bipush (v := 8) M d_M_balance_74 (by decide) ?_
              refine ax_icmp_ge (tgt := 252) M d_M_balance_76 (by decide) (fun c5 => ?_) (fun c5 => ?_)
              · have E := ob_t E c5
                obtain rfl := Option.some.inj E
                refine ax_lv (lv' := [(0, .ref (al 0 0)), (1, .int x1), (2, .int s2.2), (3, .int s3.2)]) [0, 1, 2, 3] rfl ?_
                exact (K6 _ rfl) h hG
              · have E := ob_f E c5
                refine ax_iconst (v := 0) M d_M_balance_79 (by decide) ?_
                refine ax_istore (lv' := [(0, .ref (al 0 0)), (1, .int x1), (2, .int s2.2), (3, .int s3.2), (4, .int 0)]) M d_M_balance_80 (by decide) [1, 2, 3, 4, 0] rfl ?_
                refine ax_lv (lv' := [(0, .ref (al 0 0)), (1, .int x1), (2, .int s2.2), (3, .int s3.2), (4, .int 0)]) [0, 1, 2, 3, 4] rfl ?_
                obtain ⟨r4, l2, E⟩ := ob_b E
                refine lp_walk (fun (s4 : ST × Int32) => ∀ h : AH, SW dmM (cfM cc) al s4.1 h0 h → AW l D vwCl rm_M_balance 7 X 0 0 h 82 [(0, .ref (al 0 0)), (1, .int x1), (2, .int s2.2), (3, .int s3.2), (4, .int s4.2)] []) (fun (r4 : ST × Int32) => ∀ h : AH, SW dmM (cfM cc) al r4.1 h0 h → AW l D vwCl rm_M_balance 7 X 0 0 h 246 [(0, .ref (al 0 0)), (1, .int x1), (2, .int s2.2), (3, .int s3.2), (4, .int r4.2)] []) ?_ _ _ _ l2 ?_ h hG
                · intro s4 y4 E K7 K8 h hG
                  refine ax_iload M d_M_balance_82 4 rfl ?_
                  refine ax_iload_n M d_M_balance_84 1 rfl ?_
                  refine ax_icmp_ge (tgt := 246) M d_M_balance_85 (by decide) (fun c6 => ?_) (fun c6 => ?_)
                  · have E := ob_t E c6
                    obtain rfl := Option.some.inj E
                    refine ax_lv (lv' := [(0, .ref (al 0 0)), (1, .int x1), (2, .int s2.2), (3, .int s3.2), (4, .int s4.2)]) [0, 1, 2, 3, 4] rfl ?_
                    exact (K8 _ rfl) h hG
                  · have E := ob_f E c6
                    refine ax_aload_n M d_M_balance_88 0 rfl ?_
                    refine sw_get M hG 0 0 (by decide) in_M rfl rfl 3 (by decide) wd_407 rfl d_M_balance_89 ?_
                    refine ax_iload M d_M_balance_92 4 rfl ?_
                    obtain ⟨k3, E⟩ := ob_c E
                    refine sw_iald M hG 4 0 (by decide) rfl 0 rfl k3 d_M_balance_94 ?_
                    refine ax_istore (lv' := [(0, .ref (al 0 0)), (1, .int x1), (2, .int s2.2), (3, .int s3.2), (4, .int s4.2), (5, .int (gi s4.1 4 0 (ix s4.2)))]) M d_M_balance_95 (by decide) [1, 2, 3, 4, 5, 0] rfl ?_
                    refine ax_aload_n M d_M_balance_97 0 rfl ?_
                    refine sw_get M hG 0 0 (by decide) in_M rfl rfl 4 (by decide) wd_408 rfl d_M_balance_98 ?_
                    refine ax_iload M d_M_balance_101 4 rfl ?_
                    refine sw_iald M hG 5 0 (by decide) rfl 0 rfl k3 d_M_balance_103 ?_
                    refine ax_istore (lv' := [(0, .ref (al 0 0)), (1, .int x1), (2, .int s2.2), (3, .int s3.2), (4, .int s4.2), (5, .int (gi s4.1 4 0 (ix s4.2))), (6, .int (gi s4.1 5 0 (ix s4.2)))]) M d_M_balance_104 (by decide) [1, 2, 3, 4, 5, 6, 0] rfl ?_
                    refine ax_aload_n M d_M_balance_106 0 rfl ?_
                    refine sw_get M hG 0 0 (by decide) in_M rfl rfl 12 (by decide) wd_416 rfl d_M_balance_107 ?_
                    refine ax_iload M d_M_balance_110 5 rfl ?_
                    obtain ⟨k4, E⟩ := ob_c E
                    refine sw_iald M hG 13 0 (by decide) rfl 0 rfl k4 d_M_balance_112 ?_
                    refine ax_iload_n M d_M_balance_113 2 rfl ?_
                    refine ax_icmp_ne (tgt := 173) M d_M_balance_114 (by decide) (fun c7 => ?_) (fun c7 => ?_)
                    · have E := ob_f E c7
                      refine ax_aload_n M d_M_balance_173 0 rfl ?_
                      refine sw_get M hG 0 0 (by decide) in_M rfl rfl 12 (by decide) wd_416 rfl d_M_balance_174 ?_
                      refine ax_iload M d_M_balance_177 6 rfl ?_
                      obtain ⟨k5, E⟩ := ob_c E
                      refine sw_iald M hG 13 0 (by decide) rfl 0 rfl k5 d_M_balance_179 ?_
                      refine ax_iload_n M d_M_balance_180 2 rfl ?_
                      refine ax_icmp_ne (tgt := 240) M d_M_balance_181 (by decide) (fun c8 => ?_) (fun c8 => ?_)
                      · have E := ob_f E c8
                        refine ax_iinc (v := s4.2 + 1) (lv' := [(0, .ref (al 0 0)), (1, .int x1), (2, .int s2.2), (3, .int s3.2), (4, .int (s4.2 + 1)), (5, .int (gi s4.1 4 0 (ix s4.2))), (6, .int (gi s4.1 5 0 (ix s4.2)))]) M d_M_balance_240 4 rfl rfl (by decide) [1, 2, 3, 4, 0, 5, 6] rfl ?_
                        refine ax_goto (tgt := 82) M d_M_balance_243 (by decide) ?_
                        obtain rfl := Option.some.inj E
                        refine ax_lv (lv' := [(0, .ref (al 0 0)), (1, .int x1), (2, .int s2.2), (3, .int s3.2), (4, .int (s4.2 + 1))]) [0, 1, 2, 3, 4] rfl ?_
                        exact K7 _ rfl h hG
                      · have E := ob_t E c8
                        refine ax_aload_n M d_M_balance_184 0 rfl ?_
                        refine sw_get M hG 0 0 (by decide) in_M rfl rfl 12 (by decide) wd_416 rfl d_M_balance_185 ?_
                        refine ax_iload M d_M_balance_188 5 rfl ?_
                        refine sw_iald M hG 13 0 (by decide) rfl 0 rfl k4 d_M_balance_190 ?_
                        refine ax_if_ge (tgt := 240) M d_M_balance_191 (by decide) (fun c9 => ?_) (fun c9 => ?_)
                        · have E := ob_t E c9
                          refine ax_iinc (v := s4.2 + 1) (lv' := [(0, .ref (al 0 0)), (1, .int x1), (2, .int s2.2), (3, .int s3.2), (4, .int (s4.2 + 1)), (5, .int (gi s4.1 4 0 (ix s4.2))), (6, .int (gi s4.1 5 0 (ix s4.2)))]) M d_M_balance_240 4 rfl rfl (by decide) [1, 2, 3, 4, 0, 5, 6] rfl ?_
                          refine ax_goto (tgt := 82) M d_M_balance_243 (by decide) ?_
                          obtain rfl := Option.some.inj E
                          refine ax_lv (lv' := [(0, .ref (al 0 0)), (1, .int x1), (2, .int s2.2), (3, .int s3.2), (4, .int (s4.2 + 1))]) [0, 1, 2, 3, 4] rfl ?_
                          exact K7 _ rfl h hG
                        · have E := ob_f E c9
                          refine ax_aload_n M d_M_balance_194 0 rfl ?_
                          refine sw_get M hG 0 0 (by decide) in_M rfl rfl 12 (by decide) wd_416 rfl d_M_balance_195 ?_
                          refine ax_iload M d_M_balance_198 5 rfl ?_
                          refine ax_iload_n M d_M_balance_200 2 rfl ?_
                          refine sw_iast M hG 13 0 (by decide) rfl 0 rfl k4 rfl d_M_balance_201 (fun h hG => ?_)
                          refine ax_aload_n M d_M_balance_202 0 rfl ?_
                          refine ax_iload M d_M_balance_203 5 rfl ?_
                          refine ax_aload_n M d_M_balance_205 0 rfl ?_
                          refine sw_get M hG 0 0 (by decide) in_M rfl rfl 10 (by decide) wd_414 rfl d_M_balance_206 ?_
                          refine ax_iload M d_M_balance_209 6 rfl ?_
                          refine sw_lald M hG 11 0 (by decide) rfl 5 rfl k5 d_M_balance_211 ?_
                          refine ax_topl (gl s4.1 11 0 (ix (gi s4.1 5 0 (ix s4.2)))) gl_su ?_
                          refine ax_aload_n M d_M_balance_212 0 rfl ?_
                          refine sw_get M hG 0 0 (by decide) in_M rfl rfl 6 (by decide) wd_410 rfl d_M_balance_213 ?_
                          refine ax_iload M d_M_balance_216 4 rfl ?_
                          refine sw_iald M hG 7 0 (by decide) rfl 0 rfl k3 d_M_balance_218 ?_
                          refine ax_topi (gi s4.1 7 0 (ix s4.2)) (gi_K (by decide)) ?_
                          refine ax_i2l M d_M_balance_219 rfl ?_
                          refine ax_lmul M d_M_balance_220 ?_
                          refine ax_aload_n M d_M_balance_221 0 rfl ?_
                          refine sw_get M hG 0 0 (by decide) in_M rfl rfl 11 (by decide) wd_415 rfl d_M_balance_222 ?_
                          refine ax_iload M d_M_balance_225 6 rfl ?_
                          refine sw_lald M hG 12 0 (by decide) rfl 5 rfl k5 d_M_balance_227 ?_
                          refine ax_topl (gl s4.1 12 0 (ix (gi s4.1 5 0 (ix s4.2)))) gl_su ?_
                          refine ax_aload_n M d_M_balance_228 0 rfl ?_
                          refine sw_get M hG 0 0 (by decide) in_M rfl rfl 5 (by decide) wd_409 rfl d_M_balance_229 ?_
                          refine ax_iload M d_M_balance_232 4 rfl ?_
                          refine sw_iald M hG 6 0 (by decide) rfl 0 rfl k3 d_M_balance_234 ?_
                          refine ax_topi (gi s4.1 6 0 (ix s4.2)) (gi_K (by decide)) ?_
                          refine ax_i2l M d_M_balance_235 rfl ?_
                          refine ax_lmul M d_M_balance_236 ?_
                          obtain ⟨b1, e1, E⟩ := ob_b E
                          refine ax_callV (n := 3) (C := R_M) (q := (R_M, F_M, 25)) M TT_good rfl rfl (SW.at hG 0 0 (by decide)) (ac_M_setFraction hG e1) lm_M_91 (by decide) (by decide) rfl rfl (Nat.le_of_ble_eq_true rfl) d_M_balance_237 (by decide) (c1 := 0) (s1 := 0) (by decide) (ax_ret_v (fun h hG => ?_))
                          refine ax_iinc (v := s4.2 + 1) (lv' := [(0, .ref (al 0 0)), (1, .int x1), (2, .int s2.2), (3, .int s3.2), (4, .int (s4.2 + 1)), (5, .int (gi s4.1 4 0 (ix s4.2))), (6, .int (gi s4.1 5 0 (ix s4.2)))]) M d_M_balance_240 4 rfl rfl (by decide) [1, 2, 3, 4, 0, 5, 6] rfl ?_
                          refine ax_goto (tgt := 82) M d_M_balance_243 (by decide) ?_
                          obtain rfl := Option.some.inj E
                          refine ax_lv (lv' := [(0, .ref (al 0 0)), (1, .int x1), (2, .int s2.2), (3, .int s3.2), (4, .int (s4.2 + 1))]) [0, 1, 2, 3, 4] rfl ?_
                          exact K7 _ rfl h hG
                    · have E := ob_t E c7
                      refine ax_aload_n M d_M_balance_117 0 rfl ?_
                      refine sw_get M hG 0 0 (by decide) in_M rfl rfl 12 (by decide) wd_416 rfl d_M_balance_118 ?_
                      refine ax_iload M d_M_balance_121 6 rfl ?_
                      obtain ⟨k6, E⟩ := ob_c E
                      refine sw_iald M hG 13 0 (by decide) rfl 0 rfl k6 d_M_balance_123 ?_
                      refine ax_if_ge (tgt := 173) M d_M_balance_124 (by decide) (fun c10 => ?_) (fun c10 => ?_)
                      · have E := ob_t E c10
                        refine ax_aload_n M d_M_balance_173 0 rfl ?_
                        refine sw_get M hG 0 0 (by decide) in_M rfl rfl 12 (by decide) wd_416 rfl d_M_balance_174 ?_
                        refine ax_iload M d_M_balance_177 6 rfl ?_
                        refine sw_iald M hG 13 0 (by decide) rfl 0 rfl k6 d_M_balance_179 ?_
                        refine ax_iload_n M d_M_balance_180 2 rfl ?_
                        refine ax_icmp_ne (tgt := 240) M d_M_balance_181 (by decide) (fun c11 => ?_) (fun c11 => ?_)
                        · have E := ob_f E c11
                          refine ax_iinc (v := s4.2 + 1) (lv' := [(0, .ref (al 0 0)), (1, .int x1), (2, .int s2.2), (3, .int s3.2), (4, .int (s4.2 + 1)), (5, .int (gi s4.1 4 0 (ix s4.2))), (6, .int (gi s4.1 5 0 (ix s4.2)))]) M d_M_balance_240 4 rfl rfl (by decide) [1, 2, 3, 4, 0, 5, 6] rfl ?_
                          refine ax_goto (tgt := 82) M d_M_balance_243 (by decide) ?_
                          obtain rfl := Option.some.inj E
                          refine ax_lv (lv' := [(0, .ref (al 0 0)), (1, .int x1), (2, .int s2.2), (3, .int s3.2), (4, .int (s4.2 + 1))]) [0, 1, 2, 3, 4] rfl ?_
                          exact K7 _ rfl h hG
                        · have E := ob_t E c11
                          refine ax_aload_n M d_M_balance_184 0 rfl ?_
                          refine sw_get M hG 0 0 (by decide) in_M rfl rfl 12 (by decide) wd_416 rfl d_M_balance_185 ?_
                          refine ax_iload M d_M_balance_188 5 rfl ?_
                          refine sw_iald M hG 13 0 (by decide) rfl 0 rfl k4 d_M_balance_190 ?_
                          refine ax_if_ge (tgt := 240) M d_M_balance_191 (by decide) (fun c12 => ?_) (fun c12 => ?_)
                          · have E := ob_t E c12
                            refine ax_iinc (v := s4.2 + 1) (lv' := [(0, .ref (al 0 0)), (1, .int x1), (2, .int s2.2), (3, .int s3.2), (4, .int (s4.2 + 1)), (5, .int (gi s4.1 4 0 (ix s4.2))), (6, .int (gi s4.1 5 0 (ix s4.2)))]) M d_M_balance_240 4 rfl rfl (by decide) [1, 2, 3, 4, 0, 5, 6] rfl ?_
                            refine ax_goto (tgt := 82) M d_M_balance_243 (by decide) ?_
                            obtain rfl := Option.some.inj E
                            refine ax_lv (lv' := [(0, .ref (al 0 0)), (1, .int x1), (2, .int s2.2), (3, .int s3.2), (4, .int (s4.2 + 1))]) [0, 1, 2, 3, 4] rfl ?_
                            exact K7 _ rfl h hG
                          · have E := ob_f E c12
                            refine ax_aload_n M d_M_balance_194 0 rfl ?_
                            refine sw_get M hG 0 0 (by decide) in_M rfl rfl 12 (by decide) wd_416 rfl d_M_balance_195 ?_
                            refine ax_iload M d_M_balance_198 5 rfl ?_
                            refine ax_iload_n M d_M_balance_200 2 rfl ?_
                            refine sw_iast M hG 13 0 (by decide) rfl 0 rfl k4 rfl d_M_balance_201 (fun h hG => ?_)
                            refine ax_aload_n M d_M_balance_202 0 rfl ?_
                            refine ax_iload M d_M_balance_203 5 rfl ?_
                            refine ax_aload_n M d_M_balance_205 0 rfl ?_
                            refine sw_get M hG 0 0 (by decide) in_M rfl rfl 10 (by decide) wd_414 rfl d_M_balance_206 ?_
                            refine ax_iload M d_M_balance_209 6 rfl ?_
                            refine sw_lald M hG 11 0 (by decide) rfl 5 rfl k6 d_M_balance_211 ?_
                            refine ax_topl (gl s4.1 11 0 (ix (gi s4.1 5 0 (ix s4.2)))) gl_su ?_
                            refine ax_aload_n M d_M_balance_212 0 rfl ?_
                            refine sw_get M hG 0 0 (by decide) in_M rfl rfl 6 (by decide) wd_410 rfl d_M_balance_213 ?_
                            refine ax_iload M d_M_balance_216 4 rfl ?_
                            refine sw_iald M hG 7 0 (by decide) rfl 0 rfl k3 d_M_balance_218 ?_
                            refine ax_topi (gi s4.1 7 0 (ix s4.2)) (gi_K (by decide)) ?_
                            refine ax_i2l M d_M_balance_219 rfl ?_
                            refine ax_lmul M d_M_balance_220 ?_
                            refine ax_aload_n M d_M_balance_221 0 rfl ?_
                            refine sw_get M hG 0 0 (by decide) in_M rfl rfl 11 (by decide) wd_415 rfl d_M_balance_222 ?_
                            refine ax_iload M d_M_balance_225 6 rfl ?_
                            refine sw_lald M hG 12 0 (by decide) rfl 5 rfl k6 d_M_balance_227 ?_
                            refine ax_topl (gl s4.1 12 0 (ix (gi s4.1 5 0 (ix s4.2)))) gl_su ?_
                            refine ax_aload_n M d_M_balance_228 0 rfl ?_
                            refine sw_get M hG 0 0 (by decide) in_M rfl rfl 5 (by decide) wd_409 rfl d_M_balance_229 ?_
                            refine ax_iload M d_M_balance_232 4 rfl ?_
                            refine sw_iald M hG 6 0 (by decide) rfl 0 rfl k3 d_M_balance_234 ?_
                            refine ax_topi (gi s4.1 6 0 (ix s4.2)) (gi_K (by decide)) ?_
                            refine ax_i2l M d_M_balance_235 rfl ?_
                            refine ax_lmul M d_M_balance_236 ?_
                            obtain ⟨b2, e2, E⟩ := ob_b E
                            refine ax_callV (n := 3) (C := R_M) (q := (R_M, F_M, 25)) M TT_good rfl rfl (SW.at hG 0 0 (by decide)) (ac_M_setFraction hG e2) lm_M_91 (by decide) (by decide) rfl rfl (Nat.le_of_ble_eq_true rfl) d_M_balance_237 (by decide) (c1 := 0) (s1 := 0) (by decide) (ax_ret_v (fun h hG => ?_))
                            refine ax_iinc (v := s4.2 + 1) (lv' := [(0, .ref (al 0 0)), (1, .int x1), (2, .int s2.2), (3, .int s3.2), (4, .int (s4.2 + 1)), (5, .int (gi s4.1 4 0 (ix s4.2))), (6, .int (gi s4.1 5 0 (ix s4.2)))]) M d_M_balance_240 4 rfl rfl (by decide) [1, 2, 3, 4, 0, 5, 6] rfl ?_
                            refine ax_goto (tgt := 82) M d_M_balance_243 (by decide) ?_
                            obtain rfl := Option.some.inj E
                            refine ax_lv (lv' := [(0, .ref (al 0 0)), (1, .int x1), (2, .int s2.2), (3, .int s3.2), (4, .int (s4.2 + 1))]) [0, 1, 2, 3, 4] rfl ?_
                            exact K7 _ rfl h hG
                      · have E := ob_f E c10
                        refine ax_aload_n M d_M_balance_127 0 rfl ?_
                        refine sw_get M hG 0 0 (by decide) in_M rfl rfl 12 (by decide) wd_416 rfl d_M_balance_128 ?_
                        refine ax_iload M d_M_balance_131 6 rfl ?_
                        refine ax_iload_n M d_M_balance_133 2 rfl ?_
                        refine sw_iast M hG 13 0 (by decide) rfl 0 rfl k6 rfl d_M_balance_134 (fun h hG => ?_)
                        refine ax_aload_n M d_M_balance_135 0 rfl ?_
                        refine ax_iload M d_M_balance_136 6 rfl ?_
                        refine ax_aload_n M d_M_balance_138 0 rfl ?_
                        refine sw_get M hG 0 0 (by decide) in_M rfl rfl 10 (by decide) wd_414 rfl d_M_balance_139 ?_
                        refine ax_iload M d_M_balance_142 5 rfl ?_
                        refine sw_lald M hG 11 0 (by decide) rfl 5 rfl k4 d_M_balance_144 ?_
                        refine ax_topl (gl s4.1 11 0 (ix (gi s4.1 4 0 (ix s4.2)))) gl_su ?_
                        refine ax_aload_n M d_M_balance_145 0 rfl ?_
                        refine sw_get M hG 0 0 (by decide) in_M rfl rfl 5 (by decide) wd_409 rfl d_M_balance_146 ?_
                        refine ax_iload M d_M_balance_149 4 rfl ?_
                        refine sw_iald M hG 6 0 (by decide) rfl 0 rfl k3 d_M_balance_151 ?_
                        refine ax_topi (gi s4.1 6 0 (ix s4.2)) (gi_K (by decide)) ?_
                        refine ax_i2l M d_M_balance_152 rfl ?_
                        refine ax_lmul M d_M_balance_153 ?_
                        refine ax_aload_n M d_M_balance_154 0 rfl ?_
                        refine sw_get M hG 0 0 (by decide) in_M rfl rfl 11 (by decide) wd_415 rfl d_M_balance_155 ?_
                        refine ax_iload M d_M_balance_158 5 rfl ?_
                        refine sw_lald M hG 12 0 (by decide) rfl 5 rfl k4 d_M_balance_160 ?_
                        refine ax_topl (gl s4.1 12 0 (ix (gi s4.1 4 0 (ix s4.2)))) gl_su ?_
                        refine ax_aload_n M d_M_balance_161 0 rfl ?_
                        refine sw_get M hG 0 0 (by decide) in_M rfl rfl 6 (by decide) wd_410 rfl d_M_balance_162 ?_
                        refine ax_iload M d_M_balance_165 4 rfl ?_
                        refine sw_iald M hG 7 0 (by decide) rfl 0 rfl k3 d_M_balance_167 ?_
                        refine ax_topi (gi s4.1 7 0 (ix s4.2)) (gi_K (by decide)) ?_
                        refine ax_i2l M d_M_balance_168 rfl ?_
                        refine ax_lmul M d_M_balance_169 ?_
                        obtain ⟨b3, e3, E⟩ := ob_b E
                        refine ax_callV (n := 3) (C := R_M) (q := (R_M, F_M, 25)) M TT_good rfl rfl (SW.at hG 0 0 (by decide)) (ac_M_setFraction hG e3) lm_M_91 (by decide) (by decide) rfl rfl (Nat.le_of_ble_eq_true rfl) d_M_balance_170 (by decide) (c1 := 0) (s1 := 0) (by decide) (ax_ret_v (fun h hG => ?_))
                        refine ax_aload_n M d_M_balance_173 0 rfl ?_
                        refine sw_get M hG 0 0 (by decide) in_M rfl rfl 12 (by decide) wd_416 rfl d_M_balance_174 ?_
                        refine ax_iload M d_M_balance_177 6 rfl ?_
                        refine sw_iald M hG 13 0 (by decide) rfl 0 rfl k6 d_M_balance_179 ?_
                        refine ax_iload_n M d_M_balance_180 2 rfl ?_
                        refine ax_icmp_ne (tgt := 240) M d_M_balance_181 (by decide) (fun c13 => ?_) (fun c13 => ?_)
                        · have E := ob_f E c13
                          refine ax_iinc (v := s4.2 + 1) (lv' := [(0, .ref (al 0 0)), (1, .int x1), (2, .int s2.2), (3, .int s3.2), (4, .int (s4.2 + 1)), (5, .int (gi s4.1 4 0 (ix s4.2))), (6, .int (gi s4.1 5 0 (ix s4.2)))]) M d_M_balance_240 4 rfl rfl (by decide) [1, 2, 3, 4, 0, 5, 6] rfl ?_
                          refine ax_goto (tgt := 82) M d_M_balance_243 (by decide) ?_
                          obtain rfl := Option.some.inj E
                          refine ax_lv (lv' := [(0, .ref (al 0 0)), (1, .int x1), (2, .int s2.2), (3, .int s3.2), (4, .int (s4.2 + 1))]) [0, 1, 2, 3, 4] rfl ?_
                          exact K7 _ rfl h hG
                        · have E := ob_t E c13
                          refine ax_aload_n M d_M_balance_184 0 rfl ?_
                          refine sw_get M hG 0 0 (by decide) in_M rfl rfl 12 (by decide) wd_416 rfl d_M_balance_185 ?_
                          refine ax_iload M d_M_balance_188 5 rfl ?_
                          refine sw_iald M hG 13 0 (by decide) rfl 0 rfl k4 d_M_balance_190 ?_
                          refine ax_if_ge (tgt := 240) M d_M_balance_191 (by decide) (fun c14 => ?_) (fun c14 => ?_)
                          · have E := ob_t E c14
                            refine ax_iinc (v := s4.2 + 1) (lv' := [(0, .ref (al 0 0)), (1, .int x1), (2, .int s2.2), (3, .int s3.2), (4, .int (s4.2 + 1)), (5, .int (gi s4.1 4 0 (ix s4.2))), (6, .int (gi s4.1 5 0 (ix s4.2)))]) M d_M_balance_240 4 rfl rfl (by decide) [1, 2, 3, 4, 0, 5, 6] rfl ?_
                            refine ax_goto (tgt := 82) M d_M_balance_243 (by decide) ?_
                            obtain rfl := Option.some.inj E
                            refine ax_lv (lv' := [(0, .ref (al 0 0)), (1, .int x1), (2, .int s2.2), (3, .int s3.2), (4, .int (s4.2 + 1))]) [0, 1, 2, 3, 4] rfl ?_
                            exact K7 _ rfl h hG
                          · have E := ob_f E c14
                            refine ax_aload_n M d_M_balance_194 0 rfl ?_
                            refine sw_get M hG 0 0 (by decide) in_M rfl rfl 12 (by decide) wd_416 rfl d_M_balance_195 ?_
                            refine ax_iload M d_M_balance_198 5 rfl ?_
                            refine ax_iload_n M d_M_balance_200 2 rfl ?_
                            refine sw_iast M hG 13 0 (by decide) rfl 0 rfl k4 rfl d_M_balance_201 (fun h hG => ?_)
                            refine ax_aload_n M d_M_balance_202 0 rfl ?_
                            refine ax_iload M d_M_balance_203 5 rfl ?_
                            refine ax_aload_n M d_M_balance_205 0 rfl ?_
                            refine sw_get M hG 0 0 (by decide) in_M rfl rfl 10 (by decide) wd_414 rfl d_M_balance_206 ?_
                            refine ax_iload M d_M_balance_209 6 rfl ?_
                            refine sw_lald M hG 11 0 (by decide) rfl 5 rfl k6 d_M_balance_211 ?_
                            refine ax_topl (gl b3 11 0 (ix (gi s4.1 5 0 (ix s4.2)))) gl_su ?_
                            refine ax_aload_n M d_M_balance_212 0 rfl ?_
                            refine sw_get M hG 0 0 (by decide) in_M rfl rfl 6 (by decide) wd_410 rfl d_M_balance_213 ?_
                            refine ax_iload M d_M_balance_216 4 rfl ?_
                            refine sw_iald M hG 7 0 (by decide) rfl 0 rfl k3 d_M_balance_218 ?_
                            refine ax_topi (gi b3 7 0 (ix s4.2)) (gi_K (by decide)) ?_
                            refine ax_i2l M d_M_balance_219 rfl ?_
                            refine ax_lmul M d_M_balance_220 ?_
                            refine ax_aload_n M d_M_balance_221 0 rfl ?_
                            refine sw_get M hG 0 0 (by decide) in_M rfl rfl 11 (by decide) wd_415 rfl d_M_balance_222 ?_
                            refine ax_iload M d_M_balance_225 6 rfl ?_
                            refine sw_lald M hG 12 0 (by decide) rfl 5 rfl k6 d_M_balance_227 ?_
                            refine ax_topl (gl b3 12 0 (ix (gi s4.1 5 0 (ix s4.2)))) gl_su ?_
                            refine ax_aload_n M d_M_balance_228 0 rfl ?_
                            refine sw_get M hG 0 0 (by decide) in_M rfl rfl 5 (by decide) wd_409 rfl d_M_balance_229 ?_
                            refine ax_iload M d_M_balance_232 4 rfl ?_
                            refine sw_iald M hG 6 0 (by decide) rfl 0 rfl k3 d_M_balance_234 ?_
                            refine ax_topi (gi b3 6 0 (ix s4.2)) (gi_K (by decide)) ?_
                            refine ax_i2l M d_M_balance_235 rfl ?_
                            refine ax_lmul M d_M_balance_236 ?_
                            obtain ⟨b4, e4, E⟩ := ob_b E
                            refine ax_callV (n := 3) (C := R_M) (q := (R_M, F_M, 25)) M TT_good rfl rfl (SW.at hG 0 0 (by decide)) (ac_M_setFraction hG e4) lm_M_91 (by decide) (by decide) rfl rfl (Nat.le_of_ble_eq_true rfl) d_M_balance_237 (by decide) (c1 := 0) (s1 := 0) (by decide) (ax_ret_v (fun h hG => ?_))
                            refine ax_iinc (v := s4.2 + 1) (lv' := [(0, .ref (al 0 0)), (1, .int x1), (2, .int s2.2), (3, .int s3.2), (4, .int (s4.2 + 1)), (5, .int (gi s4.1 4 0 (ix s4.2))), (6, .int (gi s4.1 5 0 (ix s4.2)))]) M d_M_balance_240 4 rfl rfl (by decide) [1, 2, 3, 4, 0, 5, 6] rfl ?_
                            refine ax_goto (tgt := 82) M d_M_balance_243 (by decide) ?_
                            obtain rfl := Option.some.inj E
                            refine ax_lv (lv' := [(0, .ref (al 0 0)), (1, .int x1), (2, .int s2.2), (3, .int s3.2), (4, .int (s4.2 + 1))]) [0, 1, 2, 3, 4] rfl ?_
                            exact K7 _ rfl h hG
                · intro h hG
                  refine ax_iinc (v := s3.2 + 1) (lv' := [(0, .ref (al 0 0)), (1, .int x1), (2, .int s2.2), (3, .int (s3.2 + 1)), (4, .int r4.2)]) M d_M_balance_246 3 rfl rfl (by decide) [1, 2, 3, 0, 4] rfl ?_
                  refine ax_goto (tgt := 73) M d_M_balance_249 (by decide) ?_
                  obtain rfl := Option.some.inj E
                  refine ax_lv (lv' := [(0, .ref (al 0 0)), (1, .int x1), (2, .int s2.2), (3, .int (s3.2 + 1))]) [0, 1, 2, 3] rfl ?_
                  exact K5 _ rfl h hG
            · intro h hG
              refine ax_iinc (v := s2.2 + 1) (lv' := [(0, .ref (al 0 0)), (1, .int x1), (2, .int (s2.2 + 1)), (3, .int r3.2)]) M d_M_balance_252 2 rfl rfl (by decide) [1, 2, 0, 3] rfl ?_
              refine ax_goto (tgt := 23) M d_M_balance_255 (by decide) ?_
              obtain rfl := Option.some.inj E
              refine ax_lv (lv' := [(0, .ref (al 0 0)), (1, .int x1), (2, .int (s2.2 + 1))]) [0, 1, 2] rfl ?_
              exact K3 _ rfl h hG
          · have E := ob_f E c4
            refine ax_goto (tgt := 252) M d_M_balance_47 (by decide) ?_
            refine ax_iinc (v := s2.2 + 1) (lv' := [(0, .ref (al 0 0)), (1, .int x1), (2, .int (s2.2 + 1))]) M d_M_balance_252 2 rfl rfl (by decide) [1, 2, 0] rfl ?_
            refine ax_goto (tgt := 23) M d_M_balance_255 (by decide) ?_
            obtain rfl := Option.some.inj E
            refine ax_lv (lv' := [(0, .ref (al 0 0)), (1, .int x1), (2, .int (s2.2 + 1))]) [0, 1, 2] rfl ?_
            exact K3 _ rfl h hG
    · intro h hG
      refine ax_iconst (v := 0) M d_M_balance_258 (by decide) ?_
      refine ax_istore_n (lv' := [(0, .ref (al 0 0)), (1, .int x1), (2, .int 0)]) M d_M_balance_259 (by decide) [1, 2, 0] rfl ?_
      refine ax_lv (lv' := [(0, .ref (al 0 0)), (1, .int x1), (2, .int 0)]) [0, 1, 2] rfl ?_
      obtain ⟨r5, l5, E⟩ := ob_b E
      refine lp_walk (fun (s5 : Int32) => ∀ h : AH, SW dmM (cfM cc) al r2.1 h0 h → AW l D vwCl rm_M_balance 7 X 0 0 h 260 [(0, .ref (al 0 0)), (1, .int x1), (2, .int s5)] []) (fun (r5 : (Int32) ⊕ (Int32 × ST)) => Sum.elim (fun o1 : Int32 => ∀ h : AH, SW dmM (cfM cc) al r2.1 h0 h → AW l D vwCl rm_M_balance 7 X 0 0 h 339 [(0, .ref (al 0 0)), (1, .int x1), (2, .int o1)] []) (fun v1 : Int32 × ST => ∀ h : AH, SW dmM (cfM cc) al v1.2 h0 h → some (Value.int v1.1) = some (.int res.1) ∧ SW dmM (cfM cc) al res.2 h0 h) r5) ?_ _ _ _ l5 ?_ h hG
      · intro s5 y5 E K9 K10 h hG
        refine ax_iload_n M d_M_balance_260 2 rfl ?_
        refine ax_iload_n M d_M_balance_261 1 rfl ?_
        refine ax_icmp_ge (tgt := 339) M d_M_balance_262 (by decide) (fun c15 => ?_) (fun c15 => ?_)
        · have E := ob_t E c15
          obtain rfl := Option.some.inj E
          refine ax_lv (lv' := [(0, .ref (al 0 0)), (1, .int x1), (2, .int s5)]) [0, 1, 2] rfl ?_
          exact (qe_l (K10 _ rfl)) h hG
        · have E := ob_f E c15
          refine ax_aload_n M d_M_balance_265 0 rfl ?_
          refine sw_get M hG 0 0 (by decide) in_M rfl rfl 10 (by decide) wd_414 rfl d_M_balance_266 ?_
          refine ax_aload_n M d_M_balance_269 0 rfl ?_
          refine sw_get M hG 0 0 (by decide) in_M rfl rfl 3 (by decide) wd_407 rfl d_M_balance_270 ?_
          refine ax_iload_n M d_M_balance_273 2 rfl ?_
          obtain ⟨k7, E⟩ := ob_c E
          refine sw_iald M hG 4 0 (by decide) rfl 0 rfl k7 d_M_balance_274 ?_
          obtain ⟨k8, E⟩ := ob_c E
          refine sw_lald M hG 11 0 (by decide) rfl 5 rfl k8 d_M_balance_275 ?_
          refine ax_aload_n M d_M_balance_276 0 rfl ?_
          refine sw_get M hG 0 0 (by decide) in_M rfl rfl 5 (by decide) wd_409 rfl d_M_balance_277 ?_
          refine ax_iload_n M d_M_balance_280 2 rfl ?_
          refine sw_iald M hG 6 0 (by decide) rfl 0 rfl k7 d_M_balance_281 ?_
          refine ax_i2l M d_M_balance_282 rfl ?_
          refine ax_lmul M d_M_balance_283 ?_
          refine ax_aload_n M d_M_balance_284 0 rfl ?_
          refine sw_get M hG 0 0 (by decide) in_M rfl rfl 11 (by decide) wd_415 rfl d_M_balance_285 ?_
          refine ax_aload_n M d_M_balance_288 0 rfl ?_
          refine sw_get M hG 0 0 (by decide) in_M rfl rfl 4 (by decide) wd_408 rfl d_M_balance_289 ?_
          refine ax_iload_n M d_M_balance_292 2 rfl ?_
          refine sw_iald M hG 5 0 (by decide) rfl 0 rfl k7 d_M_balance_293 ?_
          obtain ⟨k9, E⟩ := ob_c E
          refine sw_lald M hG 12 0 (by decide) rfl 5 rfl k9 d_M_balance_294 ?_
          refine ax_lmul M d_M_balance_295 ?_
          refine ax_aload_n M d_M_balance_296 0 rfl ?_
          refine sw_get M hG 0 0 (by decide) in_M rfl rfl 10 (by decide) wd_414 rfl d_M_balance_297 ?_
          refine ax_aload_n M d_M_balance_300 0 rfl ?_
          refine sw_get M hG 0 0 (by decide) in_M rfl rfl 4 (by decide) wd_408 rfl d_M_balance_301 ?_
          refine ax_iload_n M d_M_balance_304 2 rfl ?_
          refine sw_iald M hG 5 0 (by decide) rfl 0 rfl k7 d_M_balance_305 ?_
          refine sw_lald M hG 11 0 (by decide) rfl 5 rfl k9 d_M_balance_306 ?_
          refine ax_aload_n M d_M_balance_307 0 rfl ?_
          refine sw_get M hG 0 0 (by decide) in_M rfl rfl 6 (by decide) wd_410 rfl d_M_balance_308 ?_
          refine ax_iload_n M d_M_balance_311 2 rfl ?_
          refine sw_iald M hG 7 0 (by decide) rfl 0 rfl k7 d_M_balance_312 ?_
          refine ax_i2l M d_M_balance_313 rfl ?_
          refine ax_lmul M d_M_balance_314 ?_
          refine ax_aload_n M d_M_balance_315 0 rfl ?_
          refine sw_get M hG 0 0 (by decide) in_M rfl rfl 11 (by decide) wd_415 rfl d_M_balance_316 ?_
          refine ax_aload_n M d_M_balance_319 0 rfl ?_
          refine sw_get M hG 0 0 (by decide) in_M rfl rfl 3 (by decide) wd_407 rfl d_M_balance_320 ?_
          refine ax_iload_n M d_M_balance_323 2 rfl ?_
          refine sw_iald M hG 4 0 (by decide) rfl 0 rfl k7 d_M_balance_324 ?_
          refine sw_lald M hG 12 0 (by decide) rfl 5 rfl k8 d_M_balance_325 ?_
          refine ax_lmul M d_M_balance_326 ?_
          refine ax_lcmp M d_M_balance_327 ?_
          refine ax_if_eq (tgt := 333) M d_M_balance_328 (by decide) (fun c16 => ?_) (fun c16 => ?_)
          · have E := ob_t E c16
            refine ax_iinc (v := s5 + 1) (lv' := [(0, .ref (al 0 0)), (1, .int x1), (2, .int (s5 + 1))]) M d_M_balance_333 2 rfl rfl (by decide) [1, 2, 0] rfl ?_
            refine ax_goto (tgt := 260) M d_M_balance_336 (by decide) ?_
            obtain rfl := Option.some.inj E
            refine ax_lv (lv' := [(0, .ref (al 0 0)), (1, .int x1), (2, .int (s5 + 1))]) [0, 1, 2] rfl ?_
            exact K9 _ rfl h hG
          · have E := ob_f E c16
            refine ax_iconst (v := 0) M d_M_balance_331 (by decide) ?_
            obtain rfl := Option.some.inj E
            exact ax_zret M hR rfl (by decide) (by decide) d_M_balance_332 ((qe_r (K10 _ rfl)) h hG)
      · rcases r5 with o1 | v1
        · have E := se_l E
          refine qi_l ?_
          intro h hG
          refine ax_iconst (v := 1) M d_M_balance_339 (by decide) ?_
          obtain rfl := Option.some.inj E
          exact ax_zret M hR rfl (by decide) (by decide) d_M_balance_340 ⟨rfl, hG⟩
        · have E := se_r E
          refine qi_r ?_
          obtain rfl := Option.some.inj E
          exact fun h hG => ⟨rfl, hG⟩
def M_whole (σ : ST) (x1 : Int32) (x2 : Int32) : Option (Int32 × ST) :=
  (lp (fun s1 : ST × Int32 =>
  if 8 ≤ s1.2 then
  (some (.inr (.inl ((s1.1, s1.2))))) else
  (if inb s1.2 8 then 
  (if (gi s1.1 13 0 (ix s1.2)) = x1 then
  (if ¬ (gl s1.1 12 0 (ix s1.2)) = 0 then 
  (if (lg_cmp ((x2.toInt64 * (gl s1.1 11 0 (ix s1.2))) - (x2.toInt64 * (gl s1.1 11 0 (ix s1.2))) / (gl s1.1 12 0 (ix s1.2)) * (gl s1.1 12 0 (ix s1.2))) 0) = 0 then
  (if (lg_cmp ((x2.toInt64 * (gl s1.1 11 0 (ix s1.2))) / (gl s1.1 12 0 (ix s1.2))) 1000) ≤ 0 then
  (some (.inl ((su s1.1 14 0 (ix s1.2) (((x2.toInt64 * (gl s1.1 11 0 (ix s1.2))) / (gl s1.1 12 0 (ix s1.2))).toInt32), s1.2 + 1)))) else
  (some (.inl ((su s1.1 14 0 (ix s1.2) 1000, s1.2 + 1))))) else
  (some (.inr (.inr ((0, s1.1)))))) else none) else
  (some (.inl ((s1.1, s1.2 + 1))))) else none)) 1000 ((σ, 0))).bind (fun r1 : (ST × Int32) ⊕ (Int32 × ST) => Sum.elim (fun o1 : ST × Int32 =>
  (some ((1, o1.1)))) (fun v1 : Int32 × ST => some v1) r1)
abbrev rm_M_whole : Room := { frames := 0, cells := 0, slots := 0, locals := 0 }
set_option maxRecDepth 100000 in
set_option maxHeartbeats 4000000 in
theorem ac_M_whole {l : Launch} {D : va_G} {cc : Nat → ClassId} {al : Nat → Nat → Nat} {σ : ST} {h0 h : AH} {x1 : Int32} {x2 : Int32} {res : Int32 × ST}  (hG : SW dmM (cfM cc) al σ h0 h) (E : M_whole σ x1 x2 = some res) : AC l D vwCl (tysOf cc) NN y_M_whole (Cond.code y_M_whole b_M_whole 6 (some .boolean) :: TT) rm_M_whole [.ref (al 0 0), .int x1, .int x2] h (fun rv h' => rv = some (.int res.1) ∧ SW dmM (cfM cc) al res.2 h0 h') := by
  refine AC.of (by decide) rfl (Nat.le_of_ble_eq_true rfl) (fun X M hR hI => ?_)
  unfold M_whole at E
  refine ax_lv (lv' := [(0, .ref (al 0 0)), (1, .int x1), (2, .int x2)]) [0, 1, 2] rfl ?_
  refine ax_iconst (v := 0) M d_M_whole_0 (by decide) ?_
  refine ax_istore_n (lv' := [(0, .ref (al 0 0)), (1, .int x1), (2, .int x2), (3, .int 0)]) M d_M_whole_1 (by decide) [1, 2, 3, 0] rfl ?_
  refine ax_lv (lv' := [(0, .ref (al 0 0)), (1, .int x1), (2, .int x2), (3, .int 0)]) [0, 1, 2, 3] rfl ?_
  obtain ⟨r1, l1, E⟩ := ob_b E
  refine lp_walk (fun (s1 : ST × Int32) => ∀ h : AH, SW dmM (cfM cc) al s1.1 h0 h → AW l D vwCl rm_M_whole 6 X 0 0 h 2 [(0, .ref (al 0 0)), (1, .int x1), (2, .int x2), (3, .int s1.2)] []) (fun (r1 : (ST × Int32) ⊕ (Int32 × ST)) => Sum.elim (fun o1 : ST × Int32 => ∀ h : AH, SW dmM (cfM cc) al o1.1 h0 h → AW l D vwCl rm_M_whole 6 X 0 0 h 92 [(0, .ref (al 0 0)), (1, .int x1), (2, .int x2), (3, .int o1.2)] []) (fun v1 : Int32 × ST => ∀ h : AH, SW dmM (cfM cc) al v1.2 h0 h → some (Value.int v1.1) = some (.int res.1) ∧ SW dmM (cfM cc) al res.2 h0 h) r1) ?_ _ _ _ l1 ?_ h hG
  · intro s1 y1 E K1 K2 h hG
    refine ax_iload_n M d_M_whole_2 3 rfl ?_
    refine ax_bipush (v := 8) M d_M_whole_3 (by decide) ?_
    refine ax_icmp_ge (tgt := 92) M d_M_whole_5 (by decide) (fun c1 => ?_) (fun c1 => ?_)
    · have E := ob_t E c1
      obtain rfl := Option.some.inj E
      refine ax_lv (lv' := [(0, .ref (al 0 0)), (1, .int x1), (2, .int x2), (3, .int s1.2)]) [0, 1, 2, 3] rfl ?_
      exact (qe_l (K2 _ rfl)) h hG
    · have E := ob_f E c1
      refine ax_aload_n M d_M_whole_8 0 rfl ?_
      refine sw_get M hG 0 0 (by decide) in_M rfl rfl 12 (by decide) wd_416 rfl d_M_whole_9 ?_
      refine ax_iload_n M d_M_whole_12 3 rfl ?_
      obtain ⟨k1, E⟩ := ob_c E
      refine sw_iald M hG 13 0 (by decide) rfl 0 rfl k1 d_M_whole_13 ?_
      refine ax_iload_n M d_M_whole_14 1 rfl ?_
      refine ax_icmp_eq (tgt := 21) M d_M_whole_15 (by decide) (fun c2 => ?_) (fun c2 => ?_)
      · have E := ob_t E c2
        refine ax_iload_n M d_M_whole_21 2 rfl ?_
        refine ax_i2l M d_M_whole_22 rfl ?_
        refine ax_aload_n M d_M_whole_23 0 rfl ?_
        refine sw_get M hG 0 0 (by decide) in_M rfl rfl 10 (by decide) wd_414 rfl d_M_whole_24 ?_
        refine ax_iload_n M d_M_whole_27 3 rfl ?_
        refine sw_lald M hG 11 0 (by decide) rfl 5 rfl k1 d_M_whole_28 ?_
        refine ax_lmul M d_M_whole_29 ?_
        refine ax_aload_n M d_M_whole_30 0 rfl ?_
        refine sw_get M hG 0 0 (by decide) in_M rfl rfl 11 (by decide) wd_415 rfl d_M_whole_31 ?_
        refine ax_iload_n M d_M_whole_34 3 rfl ?_
        refine sw_lald M hG 12 0 (by decide) rfl 5 rfl k1 d_M_whole_35 ?_
        obtain ⟨k2, E⟩ := ob_c E
        refine ax_lrem M d_M_whole_36 k2 ?_
        refine ax_lconst (v := 0) M d_M_whole_37 (by decide) ?_
        refine ax_lcmp M d_M_whole_38 ?_
        refine ax_if_eq (tgt := 44) M d_M_whole_39 (by decide) (fun c3 => ?_) (fun c3 => ?_)
        · have E := ob_t E c3
          refine ax_iload_n M d_M_whole_44 2 rfl ?_
          refine ax_i2l M d_M_whole_45 rfl ?_
          refine ax_aload_n M d_M_whole_46 0 rfl ?_
          refine sw_get M hG 0 0 (by decide) in_M rfl rfl 10 (by decide) wd_414 rfl d_M_whole_47 ?_
          refine ax_iload_n M d_M_whole_50 3 rfl ?_
          refine sw_lald M hG 11 0 (by decide) rfl 5 rfl k1 d_M_whole_51 ?_
          refine ax_lmul M d_M_whole_52 ?_
          refine ax_aload_n M d_M_whole_53 0 rfl ?_
          refine sw_get M hG 0 0 (by decide) in_M rfl rfl 11 (by decide) wd_415 rfl d_M_whole_54 ?_
          refine ax_iload_n M d_M_whole_57 3 rfl ?_
          refine sw_lald M hG 12 0 (by decide) rfl 5 rfl k1 d_M_whole_58 ?_
          refine ax_ldiv M d_M_whole_59 k2 ?_
          refine ax_lstore (lv' := [(0, .ref (al 0 0)), (1, .int x1), (2, .int x2), (3, .int s1.2), (4, .long ((x2.toInt64 * (gl s1.1 11 0 (ix s1.2))) / (gl s1.1 12 0 (ix s1.2))))]) M d_M_whole_60 (by decide) [1, 2, 3, 4, 0] rfl ?_
          refine ax_aload_n M d_M_whole_62 0 rfl ?_
          refine sw_get M hG 0 0 (by decide) in_M rfl rfl 13 (by decide) wd_417 rfl d_M_whole_63 ?_
          refine ax_iload_n M d_M_whole_66 3 rfl ?_
          refine ax_lload M d_M_whole_67 4 rfl ?_
          refine ax_ldc2 (v := 1000) M wd_521 d_M_whole_69 ?_
          refine ax_lcmp M d_M_whole_72 ?_
          refine ax_if_le (tgt := 82) M d_M_whole_73 (by decide) (fun c4 => ?_) (fun c4 => ?_)
          · have E := ob_t E c4
            refine ax_lload M d_M_whole_82 4 rfl ?_
            refine ax_l2i M d_M_whole_84 rfl ?_
            refine sw_iast M hG 14 0 (by decide) rfl 0 rfl k1 rfl d_M_whole_85 (fun h hG => ?_)
            refine ax_iinc (v := s1.2 + 1) (lv' := [(0, .ref (al 0 0)), (1, .int x1), (2, .int x2), (3, .int (s1.2 + 1)), (4, .long ((x2.toInt64 * (gl s1.1 11 0 (ix s1.2))) / (gl s1.1 12 0 (ix s1.2))))]) M d_M_whole_86 3 rfl rfl (by decide) [1, 2, 3, 0, 4] rfl ?_
            refine ax_goto (tgt := 2) M d_M_whole_89 (by decide) ?_
            obtain rfl := Option.some.inj E
            refine ax_lv (lv' := [(0, .ref (al 0 0)), (1, .int x1), (2, .int x2), (3, .int (s1.2 + 1))]) [0, 1, 2, 3] rfl ?_
            exact K1 _ rfl h hG
          · have E := ob_f E c4
            refine ax_sipush (v := 1000) M d_M_whole_76 (by decide) ?_
            refine ax_goto (tgt := 85) M d_M_whole_79 (by decide) ?_
            refine sw_iast M hG 14 0 (by decide) rfl 0 rfl k1 rfl d_M_whole_85 (fun h hG => ?_)
            refine ax_iinc (v := s1.2 + 1) (lv' := [(0, .ref (al 0 0)), (1, .int x1), (2, .int x2), (3, .int (s1.2 + 1)), (4, .long ((x2.toInt64 * (gl s1.1 11 0 (ix s1.2))) / (gl s1.1 12 0 (ix s1.2))))]) M d_M_whole_86 3 rfl rfl (by decide) [1, 2, 3, 0, 4] rfl ?_
            refine ax_goto (tgt := 2) M d_M_whole_89 (by decide) ?_
            obtain rfl := Option.some.inj E
            refine ax_lv (lv' := [(0, .ref (al 0 0)), (1, .int x1), (2, .int x2), (3, .int (s1.2 + 1))]) [0, 1, 2, 3] rfl ?_
            exact K1 _ rfl h hG
        · have E := ob_f E c3
          refine ax_iconst (v := 0) M d_M_whole_42 (by decide) ?_
          obtain rfl := Option.some.inj E
          exact ax_zret M hR rfl (by decide) (by decide) d_M_whole_43 ((qe_r (K2 _ rfl)) h hG)
      · have E := ob_f E c2
        refine ax_goto (tgt := 86) M d_M_whole_18 (by decide) ?_
        refine ax_iinc (v := s1.2 + 1) (lv' := [(0, .ref (al 0 0)), (1, .int x1), (2, .int x2), (3, .int (s1.2 + 1))]) M d_M_whole_86 3 rfl rfl (by decide) [1, 2, 3, 0] rfl ?_
        refine ax_goto (tgt := 2) M d_M_whole_89 (by decide) ?_
        obtain rfl := Option.some.inj E
        refine ax_lv (lv' := [(0, .ref (al 0 0)), (1, .int x1), (2, .int x2), (3, .int (s1.2 + 1))]) [0, 1, 2, 3] rfl ?_
        exact K1 _ rfl h hG
  · rcases r1 with o1 | v1
    · have E := se_l E
      refine qi_l ?_
      intro h hG
      refine ax_iconst (v := 1) M d_M_whole_92 (by decide) ?_
      obtain rfl := Option.some.inj E
      exact ax_zret M hR rfl (by decide) (by decide) d_M_whole_93 ⟨rfl, hG⟩
    · have E := se_r E
      refine qi_r ?_
      obtain rfl := Option.some.inj E
      exact fun h hG => ⟨rfl, hG⟩
