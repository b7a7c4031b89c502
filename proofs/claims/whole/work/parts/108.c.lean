def C_countParts (σ : ST) : Option (Int32 × ST) :=
  (C_makePartsOfOne σ).bind (fun b1 => 
  ((C_countActors b1).bind (fun b2 => 
  ((lp (fun s1 : ST × Int32 × Int32 =>
  if (gi s1.1 0 0 5) ≤ s1.2.2 then
  (some (.inr ((s1.1, s1.2.1, s1.2.2)))) else
  (if inb s1.2.2 12 then 
  (if ix (gi s1.1 5 0 (ix s1.2.2)) < 12 then 
  (if inb (gi s1.1 2 (ix (gi s1.1 5 0 (ix s1.2.2))) 1) 8 then 
  (if inb (gi s1.1 2 (ix (gi s1.1 5 0 (ix s1.2.2))) 2) 8 then 
  (if (gi s1.1 1 (ix (gi s1.1 2 (ix (gi s1.1 5 0 (ix s1.2.2))) 1)) 3) = (gi s1.1 1 (ix (gi s1.1 2 (ix (gi s1.1 5 0 (ix s1.2.2))) 2)) 3) then
  (some (.inl ((s1.1, s1.2.1, s1.2.2 + 1)))) else
  ((C_joinParts s1.1 (gi s1.1 1 (ix (gi s1.1 2 (ix (gi s1.1 5 0 (ix s1.2.2))) 1)) 3) (gi s1.1 1 (ix (gi s1.1 2 (ix (gi s1.1 5 0 (ix s1.2.2))) 2)) 3)).bind (fun b3 => 
  (some (.inl ((b3, s1.2.1 + -1, s1.2.2 + 1))))))) else none) else none) else none) else none)) 1000 ((b1, b2, 0))).bind (fun r1 : ST × Int32 × Int32 =>
  some ((r1.2.1, r1.1)))))))
abbrev rm_C_countParts : Room := { frames := 1, cells := 0, slots := 0, locals := 23 }
set_option maxRecDepth 100000 in
set_option maxHeartbeats 4000000 in
theorem ac_C_countParts {l : Launch} {D : va_G} {cc : Nat → ClassId} {al : Nat → Nat → Nat} {σ : ST} {h0 h : AH}  {res : Int32 × ST}  (hG : SW dmC (cfC cc) al σ h0 h) (E : C_countParts σ = some res) : AC l D vwCl (tysOf cc) NN y_G_countParts (Cond.code y_G_countParts b_G_countParts 5 (some .int) :: TT) rm_C_countParts [.ref (al 0 0)] h (fun rv h' => rv = some (.int res.1) ∧ SW dmC (cfC cc) al res.2 h0 h') := by
  refine AC.of (by decide) rfl (Nat.le_of_ble_eq_true rfl) (fun X M hR hI => ?_)
  unfold C_countParts at E
  refine ax_lv (lv' := [(0, .ref (al 0 0))]) [0] rfl ?_
  refine ax_aload_n M d_G_countParts_0 0 rfl ?_
  obtain ⟨b1, e1, E⟩ := ob_b E
  refine ax_callV (n := 0) (C := R_G) (q := (R_G, F_G, 9)) M TT_good rfl rfl (SW.at hG 0 0 (by decide)) (ac_C_makePartsOfOne hG e1) lm_G_147 (by decide) (by decide) rfl rfl (Nat.le_of_ble_eq_true rfl) d_G_countParts_1 (by decide) (c1 := 0) (s1 := 0) (by decide) (ax_ret_v (fun h hG => ?_))
  refine ax_aload_n M d_G_countParts_4 0 rfl ?_
  obtain ⟨b2, e2, E⟩ := ob_b E
  refine ax_callV (n := 0) (C := R_G) (q := (R_G, F_G, 9)) M TT_good rfl rfl (SW.at hG 0 0 (by decide)) (ac_C_countActors hG e2) lm_G_78 (by decide) (by decide) rfl rfl (Nat.le_of_ble_eq_true rfl) d_G_countParts_5 (by decide) (c1 := 0) (s1 := 0) (by decide) (ax_ret_i (fun h hG => ?_))
  refine ax_istore_n (lv' := [(0, .ref (al 0 0)), (1, .int b2)]) M d_G_countParts_8 (by decide) [1, 0] rfl ?_
  refine ax_iconst (v := 0) M d_G_countParts_9 (by decide) ?_
  refine ax_istore_n (lv' := [(0, .ref (al 0 0)), (1, .int b2), (2, .int 0)]) M d_G_countParts_10 (by decide) [1, 2, 0] rfl ?_
  refine ax_lv (lv' := [(0, .ref (al 0 0)), (1, .int b2), (2, .int 0)]) [0, 1, 2] rfl ?_
  obtain ⟨r1, l1, E⟩ := ob_b E
  refine lp_walk (fun (s1 : ST × Int32 × Int32) => ∀ h : AH, SW dmC (cfC cc) al s1.1 h0 h → AW l D vwCl rm_C_countParts 5 X 0 0 h 11 [(0, .ref (al 0 0)), (1, .int s1.2.1), (2, .int s1.2.2)] []) (fun (r1 : ST × Int32 × Int32) => ∀ h : AH, SW dmC (cfC cc) al r1.1 h0 h → AW l D vwCl rm_C_countParts 5 X 0 0 h 78 [(0, .ref (al 0 0)), (1, .int r1.2.1), (2, .int r1.2.2)] []) ?_ _ _ _ l1 ?_ h hG
  · intro s1 y1 E K1 K2 h hG
    refine ax_iload_n M d_G_countParts_11 2 rfl ?_
    refine ax_aload_n M d_G_countParts_12 0 rfl ?_
    refine sw_get M hG 0 0 (by decide) in_G rfl rfl 5 (by decide) wd_157 rfl d_G_countParts_13 ?_
    refine ax_icmp_ge (tgt := 78) M d_G_countParts_16 (by decide) (fun c1 => ?_) (fun c1 => ?_)
    · have E := ob_t E c1
      obtain rfl := Option.some.inj E
      refine ax_lv (lv' := [(0, .ref (al 0 0)), (1, .int s1.2.1), (2, .int s1.2.2)]) [0, 1, 2] rfl ?_
      exact (K2 _ rfl) h hG
    · have E := ob_f E c1
      refine ax_aload_n M d_G_countParts_19 0 rfl ?_
      refine sw_get M hG 0 0 (by decide) in_G rfl rfl 0 (by decide) wd_152 rfl d_G_countParts_20 ?_
      refine ax_aload_n M d_G_countParts_23 0 rfl ?_
      refine sw_get M hG 0 0 (by decide) in_G rfl rfl 1 (by decide) wd_153 rfl d_G_countParts_24 ?_
      refine ax_iload_n M d_G_countParts_27 2 rfl ?_
      obtain ⟨k1, E⟩ := ob_c E
      refine sw_aldq (g := fun e => ix (gi s1.1 5 0 e)) M hG 5 0 (by decide) rfl 2 rfl rfl k1 d_G_countParts_28 ?_
      obtain ⟨k2, E⟩ := ob_c E
      refine sw_getN M hG 2 (ix (gi s1.1 5 0 (ix s1.2.2))) k2 in_E rfl rfl 1 (by decide) wd_120 rfl d_G_countParts_29 ?_
      obtain ⟨k3, E⟩ := ob_c E
      refine sw_aldq (g := fun e => e) M hG 4 0 (by decide) rfl 1 rfl rfl k3 d_G_countParts_32 ?_
      refine sw_getN M hG 1 (ix (gi s1.1 2 (ix (gi s1.1 5 0 (ix s1.2.2))) 1)) (in_lt k3) in_A rfl rfl 3 (by decide) wd_81 rfl d_G_countParts_33 ?_
      refine ax_istore_n (lv' := [(0, .ref (al 0 0)), (1, .int s1.2.1), (2, .int s1.2.2), (3, .int (gi s1.1 1 (ix (gi s1.1 2 (ix (gi s1.1 5 0 (ix s1.2.2))) 1)) 3))]) M d_G_countParts_36 (by decide) [1, 2, 3, 0] rfl ?_
      refine ax_aload_n M d_G_countParts_37 0 rfl ?_
      refine sw_get M hG 0 0 (by decide) in_G rfl rfl 0 (by decide) wd_152 rfl d_G_countParts_38 ?_
      refine ax_aload_n M d_G_countParts_41 0 rfl ?_
      refine sw_get M hG 0 0 (by decide) in_G rfl rfl 1 (by decide) wd_153 rfl d_G_countParts_42 ?_
      refine ax_iload_n M d_G_countParts_45 2 rfl ?_
      refine sw_aldq (g := fun e => ix (gi s1.1 5 0 e)) M hG 5 0 (by decide) rfl 2 rfl rfl k1 d_G_countParts_46 ?_
      refine sw_getN M hG 2 (ix (gi s1.1 5 0 (ix s1.2.2))) k2 in_E rfl rfl 2 (by decide) wd_122 rfl d_G_countParts_47 ?_
      obtain ⟨k4, E⟩ := ob_c E
      refine sw_aldq (g := fun e => e) M hG 4 0 (by decide) rfl 1 rfl rfl k4 d_G_countParts_50 ?_
      refine sw_getN M hG 1 (ix (gi s1.1 2 (ix (gi s1.1 5 0 (ix s1.2.2))) 2)) (in_lt k4) in_A rfl rfl 3 (by decide) wd_81 rfl d_G_countParts_51 ?_
      refine ax_istore (lv' := [(0, .ref (al 0 0)), (1, .int s1.2.1), (2, .int s1.2.2), (3, .int (gi s1.1 1 (ix (gi s1.1 2 (ix (gi s1.1 5 0 (ix s1.2.2))) 1)) 3)), (4, .int (gi s1.1 1 (ix (gi s1.1 2 (ix (gi s1.1 5 0 (ix s1.2.2))) 2)) 3))]) M d_G_countParts_54 (by decide) [1, 2, 3, 4, 0] rfl ?_
      refine ax_iload_n M d_G_countParts_56 3 rfl ?_
      refine ax_iload M d_G_countParts_57 4 rfl ?_
      refine ax_icmp_eq (tgt := 72) M d_G_countParts_59 (by decide) (fun c2 => ?_) (fun c2 => ?_)
      · have E := ob_t E c2
        refine ax_iinc (v := s1.2.2 + 1) (lv' := [(0, .ref (al 0 0)), (1, .int s1.2.1), (2, .int (s1.2.2 + 1)), (3, .int (gi s1.1 1 (ix (gi s1.1 2 (ix (gi s1.1 5 0 (ix s1.2.2))) 1)) 3)), (4, .int (gi s1.1 1 (ix (gi s1.1 2 (ix (gi s1.1 5 0 (ix s1.2.2))) 2)) 3))]) M d_G_countParts_72 2 rfl rfl (by decide) [1, 2, 0, 3, 4] rfl ?_
        refine ax_goto (tgt := 11) M d_G_countParts_75 (by decide) ?_
        obtain rfl := Option.some.inj E
        refine ax_lv (lv' := [(0, .ref (al 0 0)), (1, .int s1.2.1), (2, .int (s1.2.2 + 1))]) [0, 1, 2] rfl ?_
        exact K1 _ rfl h hG
      · have E := ob_f E c2
        refine ax_aload_n M d_G_countParts_62 0 rfl ?_
        refine ax_iload_n M d_G_countParts_63 3 rfl ?_
        refine ax_iload M d_G_countParts_64 4 rfl ?_
        obtain ⟨b3, e3, E⟩ := ob_b E
        refine ax_callV (n := 2) (C := R_G) (q := (R_G, F_G, 9)) M TT_good rfl rfl (SW.at hG 0 0 (by decide)) (ac_C_joinParts hG e3) lm_G_153 (by decide) (by decide) rfl rfl (Nat.le_of_ble_eq_true rfl) d_G_countParts_66 (by decide) (c1 := 0) (s1 := 0) (by decide) (ax_ret_v (fun h hG => ?_))
        refine ax_iinc (v := s1.2.1 + -1) (lv' := [(0, .ref (al 0 0)), (1, .int (s1.2.1 + -1)), (2, .int s1.2.2), (3, .int (gi s1.1 1 (ix (gi s1.1 2 (ix (gi s1.1 5 0 (ix s1.2.2))) 1)) 3)), (4, .int (gi s1.1 1 (ix (gi s1.1 2 (ix (gi s1.1 5 0 (ix s1.2.2))) 2)) 3))]) M d_G_countParts_69 1 rfl rfl (by decide) [1, 0, 2, 3, 4] rfl ?_
        refine ax_iinc (v := s1.2.2 + 1) (lv' := [(0, .ref (al 0 0)), (1, .int (s1.2.1 + -1)), (2, .int (s1.2.2 + 1)), (3, .int (gi s1.1 1 (ix (gi s1.1 2 (ix (gi s1.1 5 0 (ix s1.2.2))) 1)) 3)), (4, .int (gi s1.1 1 (ix (gi s1.1 2 (ix (gi s1.1 5 0 (ix s1.2.2))) 2)) 3))]) M d_G_countParts_72 2 rfl rfl (by decide) [1, 2, 0, 3, 4] rfl ?_
        refine ax_goto (tgt := 11) M d_G_countParts_75 (by decide) ?_
        obtain rfl := Option.some.inj E
        refine ax_lv (lv' := [(0, .ref (al 0 0)), (1, .int (s1.2.1 + -1)), (2, .int (s1.2.2 + 1))]) [0, 1, 2] rfl ?_
        exact K1 _ rfl h hG
  · intro h hG
    refine ax_iload_n M d_G_countParts_78 1 rfl ?_
    obtain rfl := Option.some.inj E
    exact ax_iret M hR (by decide) (by decide) d_G_countParts_79 ⟨rfl, hG⟩
def C_countRuns (σ : ST) : Option (Int32) :=
  (lp (fun s1 : Int32 × Int32 =>
  if (gi σ 0 0 6) ≤ s1.2 then
  (some (.inr ((s1.1, s1.2)))) else
  (if s1.2 = 0 then
  (some (.inl ((s1.1 + 1, s1.2 + 1)))) else
  (if inb s1.2 64 then 
  (if inb (s1.2 - 1) 64 then 
  (if (gi σ 8 0 (ix s1.2)) = (gi σ 8 0 (ix (s1.2 - 1))) then
  (some (.inl ((s1.1, s1.2 + 1)))) else
  (some (.inl ((s1.1 + 1, s1.2 + 1))))) else none) else none))) 1000 ((0, 0))).bind (fun r1 : Int32 × Int32 =>
  some r1.1)
abbrev rm_C_countRuns : Room := { frames := 0, cells := 0, slots := 0, locals := 0 }
set_option maxRecDepth 100000 in
set_option maxHeartbeats 4000000 in
theorem ac_C_countRuns {l : Launch} {D : va_G} {cc : Nat → ClassId} {al : Nat → Nat → Nat} {σ : ST} {h0 h : AH}  {res : Int32}  (hG : SW dmC (cfC cc) al σ h0 h) (E : C_countRuns σ = some res) : AC l D vwCl (tysOf cc) NN y_G_countRuns (Cond.code y_G_countRuns b_G_countRuns 3 (some .int) :: TT) rm_C_countRuns [.ref (al 0 0)] h (fun rv h' => rv = some (.int res) ∧ SW dmC (cfC cc) al σ h0 h') := by
  refine AC.of (by decide) rfl (Nat.le_of_ble_eq_true rfl) (fun X M hR hI => ?_)
  unfold C_countRuns at E
  refine ax_lv (lv' := [(0, .ref (al 0 0))]) [0] rfl ?_
  refine ax_iconst (v := 0) M d_G_countRuns_0 (by decide) ?_
  refine ax_istore_n (lv' := [(0, .ref (al 0 0)), (1, .int 0)]) M d_G_countRuns_1 (by decide) [1, 0] rfl ?_
  refine ax_iconst (v := 0) M d_G_countRuns_2 (by decide) ?_
  refine ax_istore_n (lv' := [(0, .ref (al 0 0)), (1, .int 0), (2, .int 0)]) M d_G_countRuns_3 (by decide) [1, 2, 0] rfl ?_
  refine ax_lv (lv' := [(0, .ref (al 0 0)), (1, .int 0), (2, .int 0)]) [0, 1, 2] rfl ?_
  obtain ⟨r1, l1, E⟩ := ob_b E
  refine lp_walk (fun (s1 : Int32 × Int32) => ∀ h : AH, SW dmC (cfC cc) al σ h0 h → AW l D vwCl rm_C_countRuns 3 X 0 0 h 4 [(0, .ref (al 0 0)), (1, .int s1.1), (2, .int s1.2)] []) (fun (r1 : Int32 × Int32) => ∀ h : AH, SW dmC (cfC cc) al σ h0 h → AW l D vwCl rm_C_countRuns 3 X 0 0 h 42 [(0, .ref (al 0 0)), (1, .int r1.1), (2, .int r1.2)] []) ?_ _ _ _ l1 ?_ h hG
  · intro s1 y1 E K1 K2 h hG
    refine ax_iload_n M d_G_countRuns_4 2 rfl ?_
    refine ax_aload_n M d_G_countRuns_5 0 rfl ?_
    refine sw_get M hG 0 0 (by decide) in_G rfl rfl 6 (by decide) wd_158 rfl d_G_countRuns_6 ?_
    refine ax_icmp_ge (tgt := 42) M d_G_countRuns_9 (by decide) (fun c1 => ?_) (fun c1 => ?_)
    · have E := ob_t E c1
      obtain rfl := Option.some.inj E
      refine ax_lv (lv' := [(0, .ref (al 0 0)), (1, .int s1.1), (2, .int s1.2)]) [0, 1, 2] rfl ?_
      exact (K2 _ rfl) h hG
    · have E := ob_f E c1
      refine ax_iload_n M d_G_countRuns_12 2 rfl ?_
      refine ax_if_eq (tgt := 33) M d_G_countRuns_13 (by decide) (fun c2 => ?_) (fun c2 => ?_)
      · have E := ob_t E c2
        refine ax_iinc (v := s1.1 + 1) (lv' := [(0, .ref (al 0 0)), (1, .int (s1.1 + 1)), (2, .int s1.2)]) M d_G_countRuns_33 1 rfl rfl (by decide) [1, 0, 2] rfl ?_
        refine ax_iinc (v := s1.2 + 1) (lv' := [(0, .ref (al 0 0)), (1, .int (s1.1 + 1)), (2, .int (s1.2 + 1))]) M d_G_countRuns_36 2 rfl rfl (by decide) [1, 2, 0] rfl ?_
        refine ax_goto (tgt := 4) M d_G_countRuns_39 (by decide) ?_
        obtain rfl := Option.some.inj E
        refine ax_lv (lv' := [(0, .ref (al 0 0)), (1, .int (s1.1 + 1)), (2, .int (s1.2 + 1))]) [0, 1, 2] rfl ?_
        exact K1 _ rfl h hG
      · have E := ob_f E c2
        refine ax_aload_n M d_G_countRuns_16 0 rfl ?_
        refine sw_get M hG 0 0 (by decide) in_G rfl rfl 4 (by decide) wd_156 rfl d_G_countRuns_17 ?_
        refine ax_iload_n M d_G_countRuns_20 2 rfl ?_
        obtain ⟨k1, E⟩ := ob_c E
        refine sw_iald M hG 8 0 (by decide) rfl 0 rfl k1 d_G_countRuns_21 ?_
        refine ax_aload_n M d_G_countRuns_22 0 rfl ?_
        refine sw_get M hG 0 0 (by decide) in_G rfl rfl 4 (by decide) wd_156 rfl d_G_countRuns_23 ?_
        refine ax_iload_n M d_G_countRuns_26 2 rfl ?_
        refine ax_iconst (v := 1) M d_G_countRuns_27 (by decide) ?_
        refine ax_isub M d_G_countRuns_28 ?_
        obtain ⟨k2, E⟩ := ob_c E
        refine sw_iald M hG 8 0 (by decide) rfl 0 rfl k2 d_G_countRuns_29 ?_
        refine ax_icmp_eq (tgt := 36) M d_G_countRuns_30 (by decide) (fun c3 => ?_) (fun c3 => ?_)
        · have E := ob_t E c3
          refine ax_iinc (v := s1.2 + 1) (lv' := [(0, .ref (al 0 0)), (1, .int s1.1), (2, .int (s1.2 + 1))]) M d_G_countRuns_36 2 rfl rfl (by decide) [1, 2, 0] rfl ?_
          refine ax_goto (tgt := 4) M d_G_countRuns_39 (by decide) ?_
          obtain rfl := Option.some.inj E
          refine ax_lv (lv' := [(0, .ref (al 0 0)), (1, .int s1.1), (2, .int (s1.2 + 1))]) [0, 1, 2] rfl ?_
          exact K1 _ rfl h hG
        · have E := ob_f E c3
          refine ax_iinc (v := s1.1 + 1) (lv' := [(0, .ref (al 0 0)), (1, .int (s1.1 + 1)), (2, .int s1.2)]) M d_G_countRuns_33 1 rfl rfl (by decide) [1, 0, 2] rfl ?_
          refine ax_iinc (v := s1.2 + 1) (lv' := [(0, .ref (al 0 0)), (1, .int (s1.1 + 1)), (2, .int (s1.2 + 1))]) M d_G_countRuns_36 2 rfl rfl (by decide) [1, 2, 0] rfl ?_
          refine ax_goto (tgt := 4) M d_G_countRuns_39 (by decide) ?_
          obtain rfl := Option.some.inj E
          refine ax_lv (lv' := [(0, .ref (al 0 0)), (1, .int (s1.1 + 1)), (2, .int (s1.2 + 1))]) [0, 1, 2] rfl ?_
          exact K1 _ rfl h hG
  · intro h hG
    refine ax_iload_n M d_G_countRuns_42 1 rfl ?_
    obtain rfl := Option.some.inj E
    exact ax_iret M hR (by decide) (by decide) d_G_countRuns_43 ⟨rfl, hG⟩
def C_sumOfPeaks (σ : ST) : Option (Int32) :=
  (lp (fun s1 : Int32 × Int32 =>
  if (gi σ 0 0 5) ≤ s1.2 then
  (some (.inr ((s1.1, s1.2)))) else
  (if inb s1.2 12 then 
  (if ix (gi σ 5 0 (ix s1.2)) < 12 then 
  (some (.inl ((s1.1 + (gi σ 2 (ix (gi σ 5 0 (ix s1.2))) 8), s1.2 + 1)))) else none) else none)) 1000 ((0, 0))).bind (fun r1 : Int32 × Int32 =>
  some r1.1)
abbrev rm_C_sumOfPeaks : Room := { frames := 0, cells := 0, slots := 0, locals := 0 }
set_option maxRecDepth 100000 in
set_option maxHeartbeats 4000000 in
theorem ac_C_sumOfPeaks {l : Launch} {D : va_G} {cc : Nat → ClassId} {al : Nat → Nat → Nat} {σ : ST} {h0 h : AH}  {res : Int32}  (hG : SW dmC (cfC cc) al σ h0 h) (E : C_sumOfPeaks σ = some res) : AC l D vwCl (tysOf cc) NN y_G_sumOfPeaks (Cond.code y_G_sumOfPeaks b_G_sumOfPeaks 3 (some .int) :: TT) rm_C_sumOfPeaks [.ref (al 0 0)] h (fun rv h' => rv = some (.int res) ∧ SW dmC (cfC cc) al σ h0 h') := by
  refine AC.of (by decide) rfl (Nat.le_of_ble_eq_true rfl) (fun X M hR hI => ?_)
  unfold C_sumOfPeaks at E
  refine ax_lv (lv' := [(0, .ref (al 0 0))]) [0] rfl ?_
  refine ax_iconst (v := 0) M d_G_sumOfPeaks_0 (by decide) ?_
  refine ax_istore_n (lv' := [(0, .ref (al 0 0)), (1, .int 0)]) M d_G_sumOfPeaks_1 (by decide) [1, 0] rfl ?_
  refine ax_iconst (v := 0) M d_G_sumOfPeaks_2 (by decide) ?_
  refine ax_istore_n (lv' := [(0, .ref (al 0 0)), (1, .int 0), (2, .int 0)]) M d_G_sumOfPeaks_3 (by decide) [1, 2, 0] rfl ?_
  refine ax_lv (lv' := [(0, .ref (al 0 0)), (1, .int 0), (2, .int 0)]) [0, 1, 2] rfl ?_
  obtain ⟨r1, l1, E⟩ := ob_b E
  refine lp_walk (fun (s1 : Int32 × Int32) => ∀ h : AH, SW dmC (cfC cc) al σ h0 h → AW l D vwCl rm_C_sumOfPeaks 3 X 0 0 h 4 [(0, .ref (al 0 0)), (1, .int s1.1), (2, .int s1.2)] []) (fun (r1 : Int32 × Int32) => ∀ h : AH, SW dmC (cfC cc) al σ h0 h → AW l D vwCl rm_C_sumOfPeaks 3 X 0 0 h 30 [(0, .ref (al 0 0)), (1, .int r1.1), (2, .int r1.2)] []) ?_ _ _ _ l1 ?_ h hG
  · intro s1 y1 E K1 K2 h hG
    refine ax_iload_n M d_G_sumOfPeaks_4 2 rfl ?_
    refine ax_aload_n M d_G_sumOfPeaks_5 0 rfl ?_
    refine sw_get M hG 0 0 (by decide) in_G rfl rfl 5 (by decide) wd_157 rfl d_G_sumOfPeaks_6 ?_
    refine ax_icmp_ge (tgt := 30) M d_G_sumOfPeaks_9 (by decide) (fun c1 => ?_) (fun c1 => ?_)
    · have E := ob_t E c1
      obtain rfl := Option.some.inj E
      refine ax_lv (lv' := [(0, .ref (al 0 0)), (1, .int s1.1), (2, .int s1.2)]) [0, 1, 2] rfl ?_
      exact (K2 _ rfl) h hG
    · have E := ob_f E c1
      refine ax_iload_n M d_G_sumOfPeaks_12 1 rfl ?_
      refine ax_aload_n M d_G_sumOfPeaks_13 0 rfl ?_
      refine sw_get M hG 0 0 (by decide) in_G rfl rfl 1 (by decide) wd_153 rfl d_G_sumOfPeaks_14 ?_
      refine ax_iload_n M d_G_sumOfPeaks_17 2 rfl ?_
      obtain ⟨k1, E⟩ := ob_c E
      refine sw_aldq (g := fun e => ix (gi σ 5 0 e)) M hG 5 0 (by decide) rfl 2 rfl rfl k1 d_G_sumOfPeaks_18 ?_
      obtain ⟨k2, E⟩ := ob_c E
      refine sw_getN M hG 2 (ix (gi σ 5 0 (ix s1.2))) k2 in_E rfl rfl 8 (by decide) wd_132 rfl d_G_sumOfPeaks_19 ?_
      refine ax_iadd M d_G_sumOfPeaks_22 ?_
      refine ax_istore_n (lv' := [(0, .ref (al 0 0)), (1, .int (s1.1 + (gi σ 2 (ix (gi σ 5 0 (ix s1.2))) 8))), (2, .int s1.2)]) M d_G_sumOfPeaks_23 (by decide) [1, 0, 2] rfl ?_
      refine ax_iinc (v := s1.2 + 1) (lv' := [(0, .ref (al 0 0)), (1, .int (s1.1 + (gi σ 2 (ix (gi σ 5 0 (ix s1.2))) 8))), (2, .int (s1.2 + 1))]) M d_G_sumOfPeaks_24 2 rfl rfl (by decide) [1, 2, 0] rfl ?_
      refine ax_goto (tgt := 4) M d_G_sumOfPeaks_27 (by decide) ?_
      obtain rfl := Option.some.inj E
      refine ax_lv (lv' := [(0, .ref (al 0 0)), (1, .int (s1.1 + (gi σ 2 (ix (gi σ 5 0 (ix s1.2))) 8))), (2, .int (s1.2 + 1))]) [0, 1, 2] rfl ?_
      exact K1 _ rfl h hG
  · intro h hG
    refine ax_iload_n M d_G_sumOfPeaks_30 1 rfl ?_
    obtain rfl := Option.some.inj E
    exact ax_iret M hR (by decide) (by decide) d_G_sumOfPeaks_31 ⟨rfl, hG⟩
def C_sumOfTokens (σ : ST) : Option (Int32) :=
  (lp (fun s1 : Int32 × Int32 =>
  if (gi σ 0 0 5) ≤ s1.2 then
  (some (.inr ((s1.1, s1.2)))) else
  (if inb s1.2 12 then 
  (if ix (gi σ 5 0 (ix s1.2)) < 12 then 
  (some (.inl ((s1.1 + (gi σ 2 (ix (gi σ 5 0 (ix s1.2))) 7), s1.2 + 1)))) else none) else none)) 1000 ((0, 0))).bind (fun r1 : Int32 × Int32 =>
  some r1.1)
abbrev rm_C_sumOfTokens : Room := { frames := 0, cells := 0, slots := 0, locals := 0 }
set_option maxRecDepth 100000 in
set_option maxHeartbeats 4000000 in
theorem ac_C_sumOfTokens {l : Launch} {D : va_G} {cc : Nat → ClassId} {al : Nat → Nat → Nat} {σ : ST} {h0 h : AH}  {res : Int32}  (hG : SW dmC (cfC cc) al σ h0 h) (E : C_sumOfTokens σ = some res) : AC l D vwCl (tysOf cc) NN y_G_sumOfTokens (Cond.code y_G_sumOfTokens b_G_sumOfTokens 3 (some .int) :: TT) rm_C_sumOfTokens [.ref (al 0 0)] h (fun rv h' => rv = some (.int res) ∧ SW dmC (cfC cc) al σ h0 h') := by
  refine AC.of (by decide) rfl (Nat.le_of_ble_eq_true rfl) (fun X M hR hI => ?_)
  unfold C_sumOfTokens at E
  refine ax_lv (lv' := [(0, .ref (al 0 0))]) [0] rfl ?_
  refine ax_iconst (v := 0) M d_G_sumOfTokens_0 (by decide) ?_
  refine ax_istore_n (lv' := [(0, .ref (al 0 0)), (1, .int 0)]) M d_G_sumOfTokens_1 (by decide) [1, 0] rfl ?_
  refine ax_iconst (v := 0) M d_G_sumOfTokens_2 (by decide) ?_
  refine ax_istore_n (lv' := [(0, .ref (al 0 0)), (1, .int 0), (2, .int 0)]) M d_G_sumOfTokens_3 (by decide) [1, 2, 0] rfl ?_
  refine ax_lv (lv' := [(0, .ref (al 0 0)), (1, .int 0), (2, .int 0)]) [0, 1, 2] rfl ?_
  obtain ⟨r1, l1, E⟩ := ob_b E
  refine lp_walk (fun (s1 : Int32 × Int32) => ∀ h : AH, SW dmC (cfC cc) al σ h0 h → AW l D vwCl rm_C_sumOfTokens 3 X 0 0 h 4 [(0, .ref (al 0 0)), (1, .int s1.1), (2, .int s1.2)] []) (fun (r1 : Int32 × Int32) => ∀ h : AH, SW dmC (cfC cc) al σ h0 h → AW l D vwCl rm_C_sumOfTokens 3 X 0 0 h 30 [(0, .ref (al 0 0)), (1, .int r1.1), (2, .int r1.2)] []) ?_ _ _ _ l1 ?_ h hG
  · intro s1 y1 E K1 K2 h hG
    refine ax_iload_n M d_G_sumOfTokens_4 2 rfl ?_
    refine ax_aload_n M d_G_sumOfTokens_5 0 rfl ?_
    refine sw_get M hG 0 0 (by decide) in_G rfl rfl 5 (by decide) wd_157 rfl d_G_sumOfTokens_6 ?_
    refine ax_icmp_ge (tgt := 30) M d_G_sumOfTokens_9 (by decide) (fun c1 => ?_) (fun c1 => ?_)
    · have E := ob_t E c1
      obtain rfl := Option.some.inj E
      refine ax_lv (lv' := [(0, .ref (al 0 0)), (1, .int s1.1), (2, .int s1.2)]) [0, 1, 2] rfl ?_
      exact (K2 _ rfl) h hG
    · have E := ob_f E c1
      refine ax_iload_n M d_G_sumOfTokens_12 1 rfl ?_
      refine ax_aload_n M d_G_sumOfTokens_13 0 rfl ?_
      refine sw_get M hG 0 0 (by decide) in_G rfl rfl 1 (by decide) wd_153 rfl d_G_sumOfTokens_14 ?_
      refine ax_iload_n M d_G_sumOfTokens_17 2 rfl ?_
      obtain ⟨k1, E⟩ := ob_c E
      refine sw_aldq (g := fun e => ix (gi σ 5 0 e)) M hG 5 0 (by decide) rfl 2 rfl rfl k1 d_G_sumOfTokens_18 ?_
      obtain ⟨k2, E⟩ := ob_c E
      refine sw_getN M hG 2 (ix (gi σ 5 0 (ix s1.2))) k2 in_E rfl rfl 7 (by decide) wd_131 rfl d_G_sumOfTokens_19 ?_
      refine ax_iadd M d_G_sumOfTokens_22 ?_
      refine ax_istore_n (lv' := [(0, .ref (al 0 0)), (1, .int (s1.1 + (gi σ 2 (ix (gi σ 5 0 (ix s1.2))) 7))), (2, .int s1.2)]) M d_G_sumOfTokens_23 (by decide) [1, 0, 2] rfl ?_
      refine ax_iinc (v := s1.2 + 1) (lv' := [(0, .ref (al 0 0)), (1, .int (s1.1 + (gi σ 2 (ix (gi σ 5 0 (ix s1.2))) 7))), (2, .int (s1.2 + 1))]) M d_G_sumOfTokens_24 2 rfl rfl (by decide) [1, 2, 0] rfl ?_
      refine ax_goto (tgt := 4) M d_G_sumOfTokens_27 (by decide) ?_
      obtain rfl := Option.some.inj E
      refine ax_lv (lv' := [(0, .ref (al 0 0)), (1, .int (s1.1 + (gi σ 2 (ix (gi σ 5 0 (ix s1.2))) 7))), (2, .int (s1.2 + 1))]) [0, 1, 2] rfl ?_
      exact K1 _ rfl h hG
  · intro h hG
    refine ax_iload_n M d_G_sumOfTokens_30 1 rfl ?_
    obtain rfl := Option.some.inj E
    exact ax_iret M hR (by decide) (by decide) d_G_sumOfTokens_31 ⟨rfl, hG⟩
def C_count (σ : ST) (x1 : Int32) : Option (Int32 × ST) :=
  if x1 = 0 then
  ((C_countActors σ).bind (fun b1 => 
  (some ((b1, σ))))) else
  (if x1 = 1 then
  (some ((gi σ 0 0 5, σ))) else
  (if x1 = 2 then
  ((C_countParts σ).bind (fun b2 => 
  (some ((b2.1, b2.2))))) else
  (if x1 = 3 then
  (if (gi σ 0 0 8) = 0 then
  (some ((0, σ))) else
  (some ((1, σ)))) else
  (if x1 = 4 then
  (if (gi σ 0 0 8) = 0 then
  (some ((0, σ))) else
  (some ((gi σ 0 0 6, σ)))) else
  (if x1 = 5 then
  (if (gi σ 0 0 8) = 0 then
  (some ((0, σ))) else
  ((C_countRuns σ).bind (fun b3 => 
  (some ((b3, σ)))))) else
  (if x1 = 6 then
  (if (gi σ 0 0 8) = 0 then
  (some ((0, σ))) else
  ((C_sumOfPeaks σ).bind (fun b4 => 
  (some ((b4, σ)))))) else
  (if x1 = 7 then
  (if (gi σ 0 0 8) = 0 then
  (some ((0, σ))) else
  (some ((gi σ 0 0 7, σ)))) else
  (if x1 = 8 then
  (if (gi σ 0 0 8) = 0 then
  (some ((0, σ))) else
  ((C_sumOfTokens σ).bind (fun b5 => 
  (some ((b5, σ)))))) else
  (some ((-1, σ)))))))))))
abbrev rm_C_count : Room := { frames := 2, cells := 0, slots := 0, locals := 47 }
set_option maxRecDepth 100000 in
set_option maxHeartbeats 4000000 in
theorem ac_C_count {l : Launch} {D : va_G} {cc : Nat → ClassId} {al : Nat → Nat → Nat} {σ : ST} {h0 h : AH} {x1 : Int32} {res : Int32 × ST}  (hG : SW dmC (cfC cc) al σ h0 h) (E : C_count σ x1 = some res) : AC l D vwCl (tysOf cc) NN y_G_count (Cond.code y_G_count b_G_count 2 (some .int) :: TT) rm_C_count [.ref (al 0 0), .int x1] h (fun rv h' => rv = some (.int res.1) ∧ SW dmC (cfC cc) al res.2 h0 h') := by
  refine AC.of (by decide) rfl (Nat.le_of_ble_eq_true rfl) (fun X M hR hI => ?_)
  unfold C_count at E
  refine ax_lv (lv' := [(0, .ref (al 0 0)), (1, .int x1)]) [0, 1] rfl ?_
  refine ax_iload_n M d_G_count_0 1 rfl ?_
  by_cases c1_0 : x1 = 0
  · have E := ob_t E c1_0
    refine ax_tableIn (tgt := 52) M d_G_count_1 (by rw [c1_0]; decide) (by rw [c1_0]; decide) (by rw [c1_0]; rfl) (by decide) ?_
    refine ax_aload_n M d_G_count_52 0 rfl ?_
    obtain ⟨b1, e1, E⟩ := ob_b E
    refine ax_callV (n := 0) (C := R_G) (q := (R_G, F_G, 9)) M TT_good rfl rfl (SW.at hG 0 0 (by decide)) (ac_C_countActors hG e1) lm_G_78 (by decide) (by decide) rfl rfl (Nat.le_of_ble_eq_true rfl) d_G_count_53 (by decide) (c1 := 0) (s1 := 0) (by decide) (ax_ret_i (fun h hG => ?_))
    obtain rfl := Option.some.inj E
    exact ax_iret M hR (by decide) (by decide) d_G_count_56 ⟨rfl, hG⟩
  · have E := ob_f E c1_0
    by_cases c1_1 : x1 = 1
    · have E := ob_t E c1_1
      refine ax_tableIn (tgt := 57) M d_G_count_1 (by rw [c1_1]; decide) (by rw [c1_1]; decide) (by rw [c1_1]; rfl) (by decide) ?_
      refine ax_aload_n M d_G_count_57 0 rfl ?_
      refine sw_get M hG 0 0 (by decide) in_G rfl rfl 5 (by decide) wd_157 rfl d_G_count_58 ?_
      obtain rfl := Option.some.inj E
      exact ax_iret M hR (by decide) (by decide) d_G_count_61 ⟨rfl, hG⟩
    · have E := ob_f E c1_1
      by_cases c1_2 : x1 = 2
      · have E := ob_t E c1_2
        refine ax_tableIn (tgt := 62) M d_G_count_1 (by rw [c1_2]; decide) (by rw [c1_2]; decide) (by rw [c1_2]; rfl) (by decide) ?_
        refine ax_aload_n M d_G_count_62 0 rfl ?_
        obtain ⟨b2, e2, E⟩ := ob_b E
        refine ax_callV (n := 0) (C := R_G) (q := (R_G, F_G, 9)) M TT_good rfl rfl (SW.at hG 0 0 (by decide)) (ac_C_countParts hG e2) lm_G_129 (by decide) (by decide) rfl rfl (Nat.le_of_ble_eq_true rfl) d_G_count_63 (by decide) (c1 := 0) (s1 := 0) (by decide) (ax_ret_i (fun h hG => ?_))
        obtain rfl := Option.some.inj E
        exact ax_iret M hR (by decide) (by decide) d_G_count_66 ⟨rfl, hG⟩
      · have E := ob_f E c1_2
        by_cases c1_3 : x1 = 3
        · have E := ob_t E c1_3
          refine ax_tableIn (tgt := 67) M d_G_count_1 (by rw [c1_3]; decide) (by rw [c1_3]; decide) (by rw [c1_3]; rfl) (by decide) ?_
          refine ax_aload_n M d_G_count_67 0 rfl ?_
          refine sw_get M hG 0 0 (by decide) in_G rfl rfl 8 (by decide) wd_160 rfl d_G_count_68 ?_
          refine ax_if_eq (tgt := 78) M d_G_count_71 (by decide) (fun c2 => ?_) (fun c2 => ?_)
          · have E := ob_t E c2
            refine ax_iconst (v := 0) M d_G_count_78 (by decide) ?_
            obtain rfl := Option.some.inj E
            exact ax_iret M hR (by decide) (by decide) d_G_count_79 ⟨rfl, hG⟩
          · have E := ob_f E c2
            refine ax_iconst (v := 1) M d_G_count_74 (by decide) ?_
            refine ax_goto (tgt := 79) M d_G_count_75 (by decide) ?_
            obtain rfl := Option.some.inj E
            exact ax_iret M hR (by decide) (by decide) d_G_count_79 ⟨rfl, hG⟩
        · have E := ob_f E c1_3
          by_cases c1_4 : x1 = 4
          · have E := ob_t E c1_4
            refine ax_tableIn (tgt := 80) M d_G_count_1 (by rw [c1_4]; decide) (by rw [c1_4]; decide) (by rw [c1_4]; rfl) (by decide) ?_
            refine ax_aload_n M d_G_count_80 0 rfl ?_
            refine sw_get M hG 0 0 (by decide) in_G rfl rfl 8 (by decide) wd_160 rfl d_G_count_81 ?_
            refine ax_if_eq (tgt := 94) M d_G_count_84 (by decide) (fun c3 => ?_) (fun c3 => ?_)
            · have E := ob_t E c3
              refine ax_iconst (v := 0) M d_G_count_94 (by decide) ?_
              obtain rfl := Option.some.inj E
              exact ax_iret M hR (by decide) (by decide) d_G_count_95 ⟨rfl, hG⟩
            · have E := ob_f E c3
              refine ax_aload_n M d_G_count_87 0 rfl ?_
              refine sw_get M hG 0 0 (by decide) in_G rfl rfl 6 (by decide) wd_158 rfl d_G_count_88 ?_
              refine ax_goto (tgt := 95) M d_G_count_91 (by decide) ?_
              obtain rfl := Option.some.inj E
              exact ax_iret M hR (by decide) (by decide) d_G_count_95 ⟨rfl, hG⟩
          · have E := ob_f E c1_4
            by_cases c1_5 : x1 = 5
            · have E := ob_t E c1_5
              refine ax_tableIn (tgt := 96) M d_G_count_1 (by rw [c1_5]; decide) (by rw [c1_5]; decide) (by rw [c1_5]; rfl) (by decide) ?_
              refine ax_aload_n M d_G_count_96 0 rfl ?_
              refine sw_get M hG 0 0 (by decide) in_G rfl rfl 8 (by decide) wd_160 rfl d_G_count_97 ?_
              refine ax_if_eq (tgt := 110) M d_G_count_100 (by decide) (fun c4 => ?_) (fun c4 => ?_)
              · have E := ob_t E c4
                refine ax_iconst (v := 0) M d_G_count_110 (by decide) ?_
                obtain rfl := Option.some.inj E
                exact ax_iret M hR (by decide) (by decide) d_G_count_111 ⟨rfl, hG⟩
              · have E := ob_f E c4
                refine ax_aload_n M d_G_count_103 0 rfl ?_
                obtain ⟨b3, e3, E⟩ := ob_b E
                refine ax_callV (n := 0) (C := R_G) (q := (R_G, F_G, 9)) M TT_good rfl rfl (SW.at hG 0 0 (by decide)) (ac_C_countRuns hG e3) lm_G_132 (by decide) (by decide) rfl rfl (Nat.le_of_ble_eq_true rfl) d_G_count_104 (by decide) (c1 := 0) (s1 := 0) (by decide) (ax_ret_i (fun h hG => ?_))
                refine ax_goto (tgt := 111) M d_G_count_107 (by decide) ?_
                obtain rfl := Option.some.inj E
                exact ax_iret M hR (by decide) (by decide) d_G_count_111 ⟨rfl, hG⟩
            · have E := ob_f E c1_5
              by_cases c1_6 : x1 = 6
              · have E := ob_t E c1_6
                refine ax_tableIn (tgt := 112) M d_G_count_1 (by rw [c1_6]; decide) (by rw [c1_6]; decide) (by rw [c1_6]; rfl) (by decide) ?_
                refine ax_aload_n M d_G_count_112 0 rfl ?_
                refine sw_get M hG 0 0 (by decide) in_G rfl rfl 8 (by decide) wd_160 rfl d_G_count_113 ?_
                refine ax_if_eq (tgt := 126) M d_G_count_116 (by decide) (fun c5 => ?_) (fun c5 => ?_)
                · have E := ob_t E c5
                  refine ax_iconst (v := 0) M d_G_count_126 (by decide) ?_
                  obtain rfl := Option.some.inj E
                  exact ax_iret M hR (by decide) (by decide) d_G_count_127 ⟨rfl, hG⟩
                · have E := ob_f E c5
                  refine ax_aload_n M d_G_count_119 0 rfl ?_
                  obtain ⟨b4, e4, E⟩ := ob_b E
                  refine ax_callV (n := 0) (C := R_G) (q := (R_G, F_G, 9)) M TT_good rfl rfl (SW.at hG 0 0 (by decide)) (ac_C_sumOfPeaks hG e4) lm_G_135 (by decide) (by decide) rfl rfl (Nat.le_of_ble_eq_true rfl) d_G_count_120 (by decide) (c1 := 0) (s1 := 0) (by decide) (ax_ret_i (fun h hG => ?_))
                  refine ax_goto (tgt := 127) M d_G_count_123 (by decide) ?_
                  obtain rfl := Option.some.inj E
                  exact ax_iret M hR (by decide) (by decide) d_G_count_127 ⟨rfl, hG⟩
              · have E := ob_f E c1_6
                by_cases c1_7 : x1 = 7
                · have E := ob_t E c1_7
                  refine ax_tableIn (tgt := 128) M d_G_count_1 (by rw [c1_7]; decide) (by rw [c1_7]; decide) (by rw [c1_7]; rfl) (by decide) ?_
                  refine ax_aload_n M d_G_count_128 0 rfl ?_
                  refine sw_get M hG 0 0 (by decide) in_G rfl rfl 8 (by decide) wd_160 rfl d_G_count_129 ?_
                  refine ax_if_eq (tgt := 142) M d_G_count_132 (by decide) (fun c6 => ?_) (fun c6 => ?_)
                  · have E := ob_t E c6
                    refine ax_iconst (v := 0) M d_G_count_142 (by decide) ?_
                    obtain rfl := Option.some.inj E
                    exact ax_iret M hR (by decide) (by decide) d_G_count_143 ⟨rfl, hG⟩
                  · have E := ob_f E c6
                    refine ax_aload_n M d_G_count_135 0 rfl ?_
                    refine sw_get M hG 0 0 (by decide) in_G rfl rfl 7 (by decide) wd_159 rfl d_G_count_136 ?_
                    refine ax_goto (tgt := 143) M d_G_count_139 (by decide) ?_
                    obtain rfl := Option.some.inj E
                    exact ax_iret M hR (by decide) (by decide) d_G_count_143 ⟨rfl, hG⟩
                · have E := ob_f E c1_7
                  by_cases c1_8 : x1 = 8
                  · have E := ob_t E c1_8
                    refine ax_tableIn (tgt := 144) M d_G_count_1 (by rw [c1_8]; decide) (by rw [c1_8]; decide) (by rw [c1_8]; rfl) (by decide) ?_
                    refine ax_aload_n M d_G_count_144 0 rfl ?_
                    refine sw_get M hG 0 0 (by decide) in_G rfl rfl 8 (by decide) wd_160 rfl d_G_count_145 ?_
                    refine ax_if_eq (tgt := 158) M d_G_count_148 (by decide) (fun c7 => ?_) (fun c7 => ?_)
                    · have E := ob_t E c7
                      refine ax_iconst (v := 0) M d_G_count_158 (by decide) ?_
                      obtain rfl := Option.some.inj E
                      exact ax_iret M hR (by decide) (by decide) d_G_count_159 ⟨rfl, hG⟩
                    · have E := ob_f E c7
                      refine ax_aload_n M d_G_count_151 0 rfl ?_
                      obtain ⟨b5, e5, E⟩ := ob_b E
                      refine ax_callV (n := 0) (C := R_G) (q := (R_G, F_G, 9)) M TT_good rfl rfl (SW.at hG 0 0 (by decide)) (ac_C_sumOfTokens hG e5) lm_G_138 (by decide) (by decide) rfl rfl (Nat.le_of_ble_eq_true rfl) d_G_count_152 (by decide) (c1 := 0) (s1 := 0) (by decide) (ax_ret_i (fun h hG => ?_))
                      refine ax_goto (tgt := 159) M d_G_count_155 (by decide) ?_
                      obtain rfl := Option.some.inj E
                      exact ax_iret M hR (by decide) (by decide) d_G_count_159 ⟨rfl, hG⟩
                  · have E := ob_f E c1_8
                    refine ax_tableOut (tgt := 160) M d_G_count_1 (so_0_8 c1_0 c1_1 c1_2 c1_3 c1_4 c1_5 c1_6 c1_7 c1_8) (by decide) ?_
                    refine ax_iconst (v := (-1)) M d_G_count_160 (by decide) ?_
                    obtain rfl := Option.some.inj E
                    exact ax_iret M hR (by decide) (by decide) d_G_count_161 ⟨rfl, hG⟩
