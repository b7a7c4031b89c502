def C_chooseFewestTokens (σ : ST) : Option (Int32) :=
  (lp (fun s1 : Int32 × Int32 × Int32 =>
  if 8 ≤ s1.2.2 then
  (some (.inr ((s1.1, s1.2.1, s1.2.2)))) else
  ((C_canFire σ s1.2.2).bind (fun b1 => 
  (if b1 = 0 then
  (some (.inl ((s1.1, s1.2.1, s1.2.2 + 1)))) else
  ((C_tokensWonBy σ s1.2.2).bind (fun b2 => 
  (if s1.1 = (-1) then
  (some (.inl ((s1.2.2, b2, s1.2.2 + 1)))) else
  (if s1.2.1 ≤ b2 then
  (some (.inl ((s1.1, s1.2.1, s1.2.2 + 1)))) else
  (some (.inl ((s1.2.2, b2, s1.2.2 + 1)))))))))))) 1000 ((-1, 0, 0))).bind (fun r1 : Int32 × Int32 × Int32 =>
  some r1.1)
abbrev rm_C_chooseFewestTokens : Room := { frames := 2, cells := 0, slots := 0, locals := 44 }
set_option maxRecDepth 100000 in
set_option maxHeartbeats 4000000 in
theorem ac_C_chooseFewestTokens {l : Launch} {D : va_G} {cc : Nat → ClassId} {al : Nat → Nat → Nat} {σ : ST} {h0 h : AH}  {res : Int32}  (hG : SW dmC (cfC cc) al σ h0 h) (E : C_chooseFewestTokens σ = some res) : AC l D vwCl (tysOf cc) NN y_G_chooseFewestTokens (Cond.code y_G_chooseFewestTokens b_G_chooseFewestTokens 5 (some .int) :: TT) rm_C_chooseFewestTokens [.ref (al 0 0)] h (fun rv h' => rv = some (.int res) ∧ SW dmC (cfC cc) al σ h0 h') := by
  refine AC.of (by decide) rfl (Nat.le_of_ble_eq_true rfl) (fun X M hR hI => ?_)
  unfold C_chooseFewestTokens at E
  refine ax_lv (lv' := [(0, .ref (al 0 0))]) [0] rfl ?_
  refine ax_iconst (v := (-1)) M d_G_chooseFewestTokens_0 (by decide) ?_
  refine ax_istore_n (lv' := [(0, .ref (al 0 0)), (1, .int (-1))]) M d_G_chooseFewestTokens_1 (by decide) [1, 0] rfl ?_
  refine ax_iconst (v := 0) M d_G_chooseFewestTokens_2 (by decide) ?_
  refine ax_istore_n (lv' := [(0, .ref (al 0 0)), (1, .int (-1)), (2, .int 0)]) M d_G_chooseFewestTokens_3 (by decide) [1, 2, 0] rfl ?_
  refine ax_iconst (v := 0) M d_G_chooseFewestTokens_4 (by decide) ?_
  refine ax_istore_n (lv' := [(0, .ref (al 0 0)), (1, .int (-1)), (2, .int 0), (3, .int 0)]) M d_G_chooseFewestTokens_5 (by decide) [1, 2, 3, 0] rfl ?_
  refine ax_lv (lv' := [(0, .ref (al 0 0)), (1, .int (-1)), (2, .int 0), (3, .int 0)]) [0, 1, 2, 3] rfl ?_
  obtain ⟨r1, l1, E⟩ := ob_b E
  refine lp_walk (fun (s1 : Int32 × Int32 × Int32) => ∀ h : AH, SW dmC (cfC cc) al σ h0 h → AW l D vwCl rm_C_chooseFewestTokens 5 X 0 0 h 6 [(0, .ref (al 0 0)), (1, .int s1.1), (2, .int s1.2.1), (3, .int s1.2.2)] []) (fun (r1 : Int32 × Int32 × Int32) => ∀ h : AH, SW dmC (cfC cc) al σ h0 h → AW l D vwCl rm_C_chooseFewestTokens 5 X 0 0 h 49 [(0, .ref (al 0 0)), (1, .int r1.1), (2, .int r1.2.1), (3, .int r1.2.2)] []) ?_ _ _ _ l1 ?_ h hG
  · intro s1 y1 E K1 K2 h hG
    refine ax_iload_n M d_G_chooseFewestTokens_6 3 rfl ?_
    refine ax_bipush (v := 8) M d_G_chooseFewestTokens_7 (by decide) ?_
    refine ax_icmp_ge (tgt := 49) M d_G_chooseFewestTokens_9 (by decide) (fun c1 => ?_) (fun c1 => ?_)
    · have E := ob_t E c1
      obtain rfl := Option.some.inj E
      refine ax_lv (lv' := [(0, .ref (al 0 0)), (1, .int s1.1), (2, .int s1.2.1), (3, .int s1.2.2)]) [0, 1, 2, 3] rfl ?_
      exact (K2 _ rfl) h hG
    · have E := ob_f E c1
      refine ax_aload_n M d_G_chooseFewestTokens_12 0 rfl ?_
      refine ax_iload_n M d_G_chooseFewestTokens_13 3 rfl ?_
      obtain ⟨b1, e1, E⟩ := ob_b E
      refine ax_callV (n := 1) (C := R_G) (q := (R_G, F_G, 9)) M TT_good rfl rfl (SW.at hG 0 0 (by decide)) (ac_C_canFire hG e1) lm_G_188 (by decide) (by decide) rfl rfl (Nat.le_of_ble_eq_true rfl) d_G_chooseFewestTokens_14 (by decide) (c1 := 0) (s1 := 0) (by decide) (ax_ret_i (fun h hG => ?_))
      refine ax_if_eq (tgt := 43) M d_G_chooseFewestTokens_17 (by decide) (fun c2 => ?_) (fun c2 => ?_)
      · have E := ob_t E c2
        refine ax_iinc (v := s1.2.2 + 1) (lv' := [(0, .ref (al 0 0)), (1, .int s1.1), (2, .int s1.2.1), (3, .int (s1.2.2 + 1))]) M d_G_chooseFewestTokens_43 3 rfl rfl (by decide) [1, 2, 3, 0] rfl ?_
        refine ax_goto (tgt := 6) M d_G_chooseFewestTokens_46 (by decide) ?_
        obtain rfl := Option.some.inj E
        refine ax_lv (lv' := [(0, .ref (al 0 0)), (1, .int s1.1), (2, .int s1.2.1), (3, .int (s1.2.2 + 1))]) [0, 1, 2, 3] rfl ?_
        exact K1 _ rfl h hG
      · have E := ob_f E c2
        refine ax_aload_n M d_G_chooseFewestTokens_20 0 rfl ?_
        refine ax_iload_n M d_G_chooseFewestTokens_21 3 rfl ?_
        obtain ⟨b2, e2, E⟩ := ob_b E
        refine ax_callV (n := 1) (C := R_G) (q := (R_G, F_G, 9)) M TT_good rfl rfl (SW.at hG 0 0 (by decide)) (ac_C_tokensWonBy hG e2) lm_G_191 (by decide) (by decide) rfl rfl (Nat.le_of_ble_eq_true rfl) d_G_chooseFewestTokens_22 (by decide) (c1 := 0) (s1 := 0) (by decide) (ax_ret_i (fun h hG => ?_))
        refine ax_istore (lv' := [(0, .ref (al 0 0)), (1, .int s1.1), (2, .int s1.2.1), (3, .int s1.2.2), (4, .int b2)]) M d_G_chooseFewestTokens_25 (by decide) [1, 2, 3, 4, 0] rfl ?_
        refine ax_iload_n M d_G_chooseFewestTokens_27 1 rfl ?_
        refine ax_iconst (v := (-1)) M d_G_chooseFewestTokens_28 (by decide) ?_
        refine ax_icmp_eq (tgt := 38) M d_G_chooseFewestTokens_29 (by decide) (fun c3 => ?_) (fun c3 => ?_)
        · have E := ob_t E c3
          refine ax_iload_n M d_G_chooseFewestTokens_38 3 rfl ?_
          refine ax_istore_n (lv' := [(0, .ref (al 0 0)), (1, .int s1.2.2), (3, .int s1.2.2), (4, .int b2)]) M d_G_chooseFewestTokens_39 (by decide) [1, 0, 3, 4] rfl ?_
          refine ax_iload M d_G_chooseFewestTokens_40 3 rfl ?_
          refine ax_istore_n (lv' := [(0, .ref (al 0 0)), (1, .int s1.2.2), (2, .int b2), (3, .int s1.2.2)]) M d_G_chooseFewestTokens_42 (by decide) [1, 2, 0, 3] rfl ?_
          refine ax_iinc (v := s1.2.2 + 1) (lv' := [(0, .ref (al 0 0)), (1, .int s1.2.2), (2, .int b2), (3, .int (s1.2.2 + 1))]) M d_G_chooseFewestTokens_43 3 rfl rfl (by decide) [1, 2, 3, 0] rfl ?_
          refine ax_goto (tgt := 6) M d_G_chooseFewestTokens_46 (by decide) ?_
          obtain rfl := Option.some.inj E
          refine ax_lv (lv' := [(0, .ref (al 0 0)), (1, .int s1.2.2), (2, .int b2), (3, .int (s1.2.2 + 1))]) [0, 1, 2, 3] rfl ?_
          exact K1 _ rfl h hG
        · have E := ob_f E c3
          refine ax_iload M d_G_chooseFewestTokens_32 4 rfl ?_
          refine ax_iload_n M d_G_chooseFewestTokens_34 2 rfl ?_
          refine ax_icmp_ge (tgt := 43) M d_G_chooseFewestTokens_35 (by decide) (fun c4 => ?_) (fun c4 => ?_)
          · have E := ob_t E c4
            refine ax_iinc (v := s1.2.2 + 1) (lv' := [(0, .ref (al 0 0)), (1, .int s1.1), (2, .int s1.2.1), (3, .int (s1.2.2 + 1)), (4, .int b2)]) M d_G_chooseFewestTokens_43 3 rfl rfl (by decide) [1, 2, 3, 0, 4] rfl ?_
            refine ax_goto (tgt := 6) M d_G_chooseFewestTokens_46 (by decide) ?_
            obtain rfl := Option.some.inj E
            refine ax_lv (lv' := [(0, .ref (al 0 0)), (1, .int s1.1), (2, .int s1.2.1), (3, .int (s1.2.2 + 1))]) [0, 1, 2, 3] rfl ?_
            exact K1 _ rfl h hG
          · have E := ob_f E c4
            refine ax_iload_n M d_G_chooseFewestTokens_38 3 rfl ?_
            refine ax_istore_n (lv' := [(0, .ref (al 0 0)), (1, .int s1.2.2), (3, .int s1.2.2), (4, .int b2)]) M d_G_chooseFewestTokens_39 (by decide) [1, 0, 3, 4] rfl ?_
            refine ax_iload M d_G_chooseFewestTokens_40 3 rfl ?_
            refine ax_istore_n (lv' := [(0, .ref (al 0 0)), (1, .int s1.2.2), (2, .int b2), (3, .int s1.2.2)]) M d_G_chooseFewestTokens_42 (by decide) [1, 2, 0, 3] rfl ?_
            refine ax_iinc (v := s1.2.2 + 1) (lv' := [(0, .ref (al 0 0)), (1, .int s1.2.2), (2, .int b2), (3, .int (s1.2.2 + 1))]) M d_G_chooseFewestTokens_43 3 rfl rfl (by decide) [1, 2, 3, 0] rfl ?_
            refine ax_goto (tgt := 6) M d_G_chooseFewestTokens_46 (by decide) ?_
            obtain rfl := Option.some.inj E
            refine ax_lv (lv' := [(0, .ref (al 0 0)), (1, .int s1.2.2), (2, .int b2), (3, .int (s1.2.2 + 1))]) [0, 1, 2, 3] rfl ?_
            exact K1 _ rfl h hG
  · intro h hG
    refine ax_iload_n M d_G_chooseFewestTokens_49 1 rfl ?_
    obtain rfl := Option.some.inj E
    exact ax_iret M hR (by decide) (by decide) d_G_chooseFewestTokens_50 ⟨rfl, hG⟩
def C_chooseFrom (σ : ST) (x1 : Int32) : Option (Int32) :=
  (lp (fun s1 : Int32 =>
  if 8 ≤ s1 then
  (some (.inr (.inl s1))) else
  ((C_canFire σ ((x1 + s1) - (x1 + s1) / 8 * 8)).bind (fun b1 => 
  (if b1 = 0 then
  (some (.inl (s1 + 1))) else
  (some (.inr (.inr ((x1 + s1) - (x1 + s1) / 8 * 8)))))))) 1000 0).bind (fun r1 : (Int32) ⊕ (Int32) => Sum.elim (fun o1 : Int32 =>
  (some (-1))) (fun v1 : Int32 => some v1) r1)
abbrev rm_C_chooseFrom : Room := { frames := 2, cells := 0, slots := 0, locals := 44 }
set_option maxRecDepth 100000 in
set_option maxHeartbeats 4000000 in
theorem ac_C_chooseFrom {l : Launch} {D : va_G} {cc : Nat → ClassId} {al : Nat → Nat → Nat} {σ : ST} {h0 h : AH} {x1 : Int32} {res : Int32}  (hG : SW dmC (cfC cc) al σ h0 h) (E : C_chooseFrom σ x1 = some res) : AC l D vwCl (tysOf cc) NN y_G_chooseFrom (Cond.code y_G_chooseFrom b_G_chooseFrom 4 (some .int) :: TT) rm_C_chooseFrom [.ref (al 0 0), .int x1] h (fun rv h' => rv = some (.int res) ∧ SW dmC (cfC cc) al σ h0 h') := by
  refine AC.of (by decide) rfl (Nat.le_of_ble_eq_true rfl) (fun X M hR hI => ?_)
  unfold C_chooseFrom at E
  refine ax_lv (lv' := [(0, .ref (al 0 0)), (1, .int x1)]) [0, 1] rfl ?_
  refine ax_iconst (v := 0) M d_G_chooseFrom_0 (by decide) ?_
  refine ax_istore_n (lv' := [(0, .ref (al 0 0)), (1, .int x1), (2, .int 0)]) M d_G_chooseFrom_1 (by decide) [1, 2, 0] rfl ?_
  refine ax_lv (lv' := [(0, .ref (al 0 0)), (1, .int x1), (2, .int 0)]) [0, 1, 2] rfl ?_
  obtain ⟨r1, l1, E⟩ := ob_b E
  refine lp_walk (fun (s1 : Int32) => ∀ h : AH, SW dmC (cfC cc) al σ h0 h → AW l D vwCl rm_C_chooseFrom 4 X 0 0 h 2 [(0, .ref (al 0 0)), (1, .int x1), (2, .int s1)] []) (fun (r1 : (Int32) ⊕ (Int32)) => Sum.elim (fun o1 : Int32 => ∀ h : AH, SW dmC (cfC cc) al σ h0 h → AW l D vwCl rm_C_chooseFrom 4 X 0 0 h 31 [(0, .ref (al 0 0)), (1, .int x1), (2, .int o1)] []) (fun v1 : Int32 => ∀ h : AH, SW dmC (cfC cc) al σ h0 h → some (Value.int v1) = some (.int res) ∧ SW dmC (cfC cc) al σ h0 h) r1) ?_ _ _ _ l1 ?_ h hG
  · intro s1 y1 E K1 K2 h hG
    refine ax_iload_n M d_G_chooseFrom_2 2 rfl ?_
    refine ax_bipush (v := 8) M d_G_chooseFrom_3 (by decide) ?_
    refine ax_icmp_ge (tgt := 31) M d_G_chooseFrom_5 (by decide) (fun c1 => ?_) (fun c1 => ?_)
    · have E := ob_t E c1
      obtain rfl := Option.some.inj E
      refine ax_lv (lv' := [(0, .ref (al 0 0)), (1, .int x1), (2, .int s1)]) [0, 1, 2] rfl ?_
      exact (qe_l (K2 _ rfl)) h hG
    · have E := ob_f E c1
      refine ax_iload_n M d_G_chooseFrom_8 1 rfl ?_
      refine ax_iload_n M d_G_chooseFrom_9 2 rfl ?_
      refine ax_iadd M d_G_chooseFrom_10 ?_
      refine ax_bipush (v := 8) M d_G_chooseFrom_11 (by decide) ?_
      refine ax_irem M d_G_chooseFrom_13 (by decide) ?_
      refine ax_istore_n (lv' := [(0, .ref (al 0 0)), (1, .int x1), (2, .int s1), (3, .int ((x1 + s1) - (x1 + s1) / 8 * 8))]) M d_G_chooseFrom_14 (by decide) [1, 2, 3, 0] rfl ?_
      refine ax_aload_n M d_G_chooseFrom_15 0 rfl ?_
      refine ax_iload_n M d_G_chooseFrom_16 3 rfl ?_
      obtain ⟨b1, e1, E⟩ := ob_b E
      refine ax_callV (n := 1) (C := R_G) (q := (R_G, F_G, 9)) M TT_good rfl rfl (SW.at hG 0 0 (by decide)) (ac_C_canFire hG e1) lm_G_188 (by decide) (by decide) rfl rfl (Nat.le_of_ble_eq_true rfl) d_G_chooseFrom_17 (by decide) (c1 := 0) (s1 := 0) (by decide) (ax_ret_i (fun h hG => ?_))
      refine ax_if_eq (tgt := 25) M d_G_chooseFrom_20 (by decide) (fun c2 => ?_) (fun c2 => ?_)
      · have E := ob_t E c2
        refine ax_iinc (v := s1 + 1) (lv' := [(0, .ref (al 0 0)), (1, .int x1), (2, .int (s1 + 1)), (3, .int ((x1 + s1) - (x1 + s1) / 8 * 8))]) M d_G_chooseFrom_25 2 rfl rfl (by decide) [1, 2, 0, 3] rfl ?_
        refine ax_goto (tgt := 2) M d_G_chooseFrom_28 (by decide) ?_
        obtain rfl := Option.some.inj E
        refine ax_lv (lv' := [(0, .ref (al 0 0)), (1, .int x1), (2, .int (s1 + 1))]) [0, 1, 2] rfl ?_
        exact K1 _ rfl h hG
      · have E := ob_f E c2
        refine ax_iload_n M d_G_chooseFrom_23 3 rfl ?_
        obtain rfl := Option.some.inj E
        exact ax_iret M hR (by decide) (by decide) d_G_chooseFrom_24 ((qe_r (K2 _ rfl)) h hG)
  · rcases r1 with o1 | v1
    · have E := se_l E
      refine qi_l ?_
      intro h hG
      refine ax_iconst (v := (-1)) M d_G_chooseFrom_31 (by decide) ?_
      obtain rfl := Option.some.inj E
      exact ax_iret M hR (by decide) (by decide) d_G_chooseFrom_32 ⟨rfl, hG⟩
    · have E := se_r E
      refine qi_r ?_
      obtain rfl := Option.some.inj E
      exact fun h hG => ⟨rfl, hG⟩
def C_choose (σ : ST) (x1 : Int32) (x2 : Int32) : Option (Int32) :=
  if x1 = 1 then
  ((C_chooseFewestTokens σ).bind (fun b3 => 
  (some b3))) else
  (if x1 = 2 then
  ((C_chooseFrom σ x2).bind (fun b2 => 
  (some b2))) else
  ((C_chooseFrom σ 0).bind (fun b1 => 
  (some b1))))
abbrev rm_C_choose : Room := { frames := 3, cells := 0, slots := 0, locals := 68 }
set_option maxRecDepth 100000 in
set_option maxHeartbeats 4000000 in
theorem ac_C_choose {l : Launch} {D : va_G} {cc : Nat → ClassId} {al : Nat → Nat → Nat} {σ : ST} {h0 h : AH} {x1 : Int32} {x2 : Int32} {res : Int32}  (hG : SW dmC (cfC cc) al σ h0 h) (E : C_choose σ x1 x2 = some res) : AC l D vwCl (tysOf cc) NN y_G_choose (Cond.code y_G_choose b_G_choose 3 (some .int) :: TT) rm_C_choose [.ref (al 0 0), .int x1, .int x2] h (fun rv h' => rv = some (.int res) ∧ SW dmC (cfC cc) al σ h0 h') := by
  refine AC.of (by decide) rfl (Nat.le_of_ble_eq_true rfl) (fun X M hR hI => ?_)
  unfold C_choose at E
  refine ax_lv (lv' := [(0, .ref (al 0 0)), (1, .int x1), (2, .int x2)]) [0, 1, 2] rfl ?_
  refine ax_iload_n M d_G_choose_0 1 rfl ?_
  refine ax_iconst (v := 1) M d_G_choose_1 (by decide) ?_
  refine ax_icmp_ne (tgt := 10) M d_G_choose_2 (by decide) (fun c1 => ?_) (fun c1 => ?_)
  · have E := ob_f E c1
    refine ax_aload_n M d_G_choose_10 0 rfl ?_
    refine ax_iload_n M d_G_choose_11 1 rfl ?_
    refine ax_iconst (v := 2) M d_G_choose_12 (by decide) ?_
    refine ax_icmp_ne (tgt := 20) M d_G_choose_13 (by decide) (fun c2 => ?_) (fun c2 => ?_)
    · have E := ob_f E c2
      refine ax_iconst (v := 0) M d_G_choose_20 (by decide) ?_
      obtain ⟨b1, e1, E⟩ := ob_b E
      refine ax_callV (n := 1) (C := R_G) (q := (R_G, F_G, 9)) M TT_good rfl rfl (SW.at hG 0 0 (by decide)) (ac_C_chooseFrom hG e1) lm_G_185 (by decide) (by decide) rfl rfl (Nat.le_of_ble_eq_true rfl) d_G_choose_21 (by decide) (c1 := 0) (s1 := 0) (by decide) (ax_ret_i (fun h hG => ?_))
      obtain rfl := Option.some.inj E
      exact ax_iret M hR (by decide) (by decide) d_G_choose_24 ⟨rfl, hG⟩
    · have E := ob_t E c2
      refine ax_iload_n M d_G_choose_16 2 rfl ?_
      refine ax_goto (tgt := 21) M d_G_choose_17 (by decide) ?_
      obtain ⟨b2, e2, E⟩ := ob_b E
      refine ax_callV (n := 1) (C := R_G) (q := (R_G, F_G, 9)) M TT_good rfl rfl (SW.at hG 0 0 (by decide)) (ac_C_chooseFrom hG e2) lm_G_185 (by decide) (by decide) rfl rfl (Nat.le_of_ble_eq_true rfl) d_G_choose_21 (by decide) (c1 := 0) (s1 := 0) (by decide) (ax_ret_i (fun h hG => ?_))
      obtain rfl := Option.some.inj E
      exact ax_iret M hR (by decide) (by decide) d_G_choose_24 ⟨rfl, hG⟩
  · have E := ob_t E c1
    refine ax_aload_n M d_G_choose_5 0 rfl ?_
    obtain ⟨b3, e3, E⟩ := ob_b E
    refine ax_callV (n := 0) (C := R_G) (q := (R_G, F_G, 9)) M TT_good rfl rfl (SW.at hG 0 0 (by decide)) (ac_C_chooseFewestTokens hG e3) lm_G_182 (by decide) (by decide) rfl rfl (Nat.le_of_ble_eq_true rfl) d_G_choose_6 (by decide) (c1 := 0) (s1 := 0) (by decide) (ax_ret_i (fun h hG => ?_))
    obtain rfl := Option.some.inj E
    exact ax_iret M hR (by decide) (by decide) d_G_choose_9 ⟨rfl, hG⟩
def C_leastDue (σ : ST) : Option (Int32) :=
  (lp (fun s1 : Int32 =>
  if 8 ≤ s1 then
  (some (.inr (.inl s1))) else
  (if inb s1 8 then 
  ((C_Actor_isDue σ (ix s1)).bind (fun b1 => 
  (if b1 = 0 then
  (some (.inl (s1 + 1))) else
  (some (.inr (.inr s1)))))) else none)) 1000 0).bind (fun r1 : (Int32) ⊕ (Int32) => Sum.elim (fun o1 : Int32 =>
  (some (-1))) (fun v1 : Int32 => some v1) r1)
abbrev rm_C_leastDue : Room := { frames := 1, cells := 0, slots := 0, locals := 20 }
set_option maxRecDepth 100000 in
set_option maxHeartbeats 4000000 in
theorem ac_C_leastDue {l : Launch} {D : va_G} {cc : Nat → ClassId} {al : Nat → Nat → Nat} {σ : ST} {h0 h : AH}  {res : Int32}  (hG : SW dmC (cfC cc) al σ h0 h) (E : C_leastDue σ = some res) : AC l D vwCl (tysOf cc) NN y_G_leastDue (Cond.code y_G_leastDue b_G_leastDue 2 (some .int) :: TT) rm_C_leastDue [.ref (al 0 0)] h (fun rv h' => rv = some (.int res) ∧ SW dmC (cfC cc) al σ h0 h') := by
  refine AC.of (by decide) rfl (Nat.le_of_ble_eq_true rfl) (fun X M hR hI => ?_)
  unfold C_leastDue at E
  refine ax_lv (lv' := [(0, .ref (al 0 0))]) [0] rfl ?_
  refine ax_iconst (v := 0) M d_G_leastDue_0 (by decide) ?_
  refine ax_istore_n (lv' := [(0, .ref (al 0 0)), (1, .int 0)]) M d_G_leastDue_1 (by decide) [1, 0] rfl ?_
  refine ax_lv (lv' := [(0, .ref (al 0 0)), (1, .int 0)]) [0, 1] rfl ?_
  obtain ⟨r1, l1, E⟩ := ob_b E
  refine lp_walk (fun (s1 : Int32) => ∀ h : AH, SW dmC (cfC cc) al σ h0 h → AW l D vwCl rm_C_leastDue 2 X 0 0 h 2 [(0, .ref (al 0 0)), (1, .int s1)] []) (fun (r1 : (Int32) ⊕ (Int32)) => Sum.elim (fun o1 : Int32 => ∀ h : AH, SW dmC (cfC cc) al σ h0 h → AW l D vwCl rm_C_leastDue 2 X 0 0 h 28 [(0, .ref (al 0 0)), (1, .int o1)] []) (fun v1 : Int32 => ∀ h : AH, SW dmC (cfC cc) al σ h0 h → some (Value.int v1) = some (.int res) ∧ SW dmC (cfC cc) al σ h0 h) r1) ?_ _ _ _ l1 ?_ h hG
  · intro s1 y1 E K1 K2 h hG
    refine ax_iload_n M d_G_leastDue_2 1 rfl ?_
    refine ax_bipush (v := 8) M d_G_leastDue_3 (by decide) ?_
    refine ax_icmp_ge (tgt := 28) M d_G_leastDue_5 (by decide) (fun c1 => ?_) (fun c1 => ?_)
    · have E := ob_t E c1
      obtain rfl := Option.some.inj E
      refine ax_lv (lv' := [(0, .ref (al 0 0)), (1, .int s1)]) [0, 1] rfl ?_
      exact (qe_l (K2 _ rfl)) h hG
    · have E := ob_f E c1
      refine ax_aload_n M d_G_leastDue_8 0 rfl ?_
      refine sw_get M hG 0 0 (by decide) in_G rfl rfl 0 (by decide) wd_152 rfl d_G_leastDue_9 ?_
      refine ax_iload_n M d_G_leastDue_12 1 rfl ?_
      obtain ⟨k1, E⟩ := ob_c E
      refine sw_aldq (g := fun e => e) M hG 4 0 (by decide) rfl 1 rfl rfl k1 d_G_leastDue_13 ?_
      obtain ⟨b1, e1, E⟩ := ob_b E
      refine ax_callVN (n := 0) (q := (R_A, F_A, 10)) M TT_good rfl (SW.at hG 1 (ix s1) (in_lt k1)) (ac_C_Actor_isDue (in_lt k1) hG e1) wd_257 lm_G_194 (by decide) (by decide) rfl rfl (Nat.le_of_ble_eq_true rfl) d_G_leastDue_14 (by decide) (c1 := 0) (s1 := 0) (by decide) (ax_ret_i (fun h hG => ?_))
      refine ax_if_eq (tgt := 22) M d_G_leastDue_17 (by decide) (fun c2 => ?_) (fun c2 => ?_)
      · have E := ob_t E c2
        refine ax_iinc (v := s1 + 1) (lv' := [(0, .ref (al 0 0)), (1, .int (s1 + 1))]) M d_G_leastDue_22 1 rfl rfl (by decide) [1, 0] rfl ?_
        refine ax_goto (tgt := 2) M d_G_leastDue_25 (by decide) ?_
        obtain rfl := Option.some.inj E
        refine ax_lv (lv' := [(0, .ref (al 0 0)), (1, .int (s1 + 1))]) [0, 1] rfl ?_
        exact K1 _ rfl h hG
      · have E := ob_f E c2
        refine ax_iload_n M d_G_leastDue_20 1 rfl ?_
        obtain rfl := Option.some.inj E
        exact ax_iret M hR (by decide) (by decide) d_G_leastDue_21 ((qe_r (K2 _ rfl)) h hG)
  · rcases r1 with o1 | v1
    · have E := se_l E
      refine qi_l ?_
      intro h hG
      refine ax_iconst (v := (-1)) M d_G_leastDue_28 (by decide) ?_
      obtain rfl := Option.some.inj E
      exact ax_iret M hR (by decide) (by decide) d_G_leastDue_29 ⟨rfl, hG⟩
    · have E := se_r E
      refine qi_r ?_
      obtain rfl := Option.some.inj E
      exact fun h hG => ⟨rfl, hG⟩
def C_fireCounting (σ : ST) (x1 : Int32) : Option (ST) :=
  (lp (fun s1 : ST × Int32 =>
  if (gi s1.1 0 0 5) ≤ s1.2 then
  (some (.inr ((s1.1, s1.2)))) else
  (if inb s1.2 12 then 
  (if ix (gi s1.1 5 0 (ix s1.2)) < 12 then 
  (if (gi s1.1 2 (ix (gi s1.1 5 0 (ix s1.2))) 2) = x1 then
  (if (gi s1.1 2 (ix (gi s1.1 5 0 (ix s1.2))) 1) = x1 then
  (some (.inl ((su (su (su s1.1 2 (ix (gi s1.1 5 0 (ix s1.2))) 7 ((gi s1.1 2 (ix (gi s1.1 5 0 (ix s1.2))) 7) - (gi s1.1 2 (ix (gi s1.1 5 0 (ix s1.2))) 4))) 2 (ix (gi s1.1 5 0 (ix s1.2))) 7 (((gi s1.1 2 (ix (gi s1.1 5 0 (ix s1.2))) 7) - (gi s1.1 2 (ix (gi s1.1 5 0 (ix s1.2))) 4)) + (gi s1.1 2 (ix (gi s1.1 5 0 (ix s1.2))) 3))) 2 (ix (gi s1.1 5 0 (ix s1.2))) 8 (if (gi s1.1 2 (ix (gi s1.1 5 0 (ix s1.2))) 8) < (((gi s1.1 2 (ix (gi s1.1 5 0 (ix s1.2))) 7) - (gi s1.1 2 (ix (gi s1.1 5 0 (ix s1.2))) 4)) + (gi s1.1 2 (ix (gi s1.1 5 0 (ix s1.2))) 3)) then ((gi s1.1 2 (ix (gi s1.1 5 0 (ix s1.2))) 7) - (gi s1.1 2 (ix (gi s1.1 5 0 (ix s1.2))) 4)) + (gi s1.1 2 (ix (gi s1.1 5 0 (ix s1.2))) 3) else gi s1.1 2 (ix (gi s1.1 5 0 (ix s1.2))) 8), s1.2 + 1)))) else
  (some (.inl ((su (su s1.1 2 (ix (gi s1.1 5 0 (ix s1.2))) 7 ((gi s1.1 2 (ix (gi s1.1 5 0 (ix s1.2))) 7) - (gi s1.1 2 (ix (gi s1.1 5 0 (ix s1.2))) 4))) 2 (ix (gi s1.1 5 0 (ix s1.2))) 8 (if (gi s1.1 2 (ix (gi s1.1 5 0 (ix s1.2))) 8) < ((gi s1.1 2 (ix (gi s1.1 5 0 (ix s1.2))) 7) - (gi s1.1 2 (ix (gi s1.1 5 0 (ix s1.2))) 4)) then (gi s1.1 2 (ix (gi s1.1 5 0 (ix s1.2))) 7) - (gi s1.1 2 (ix (gi s1.1 5 0 (ix s1.2))) 4) else gi s1.1 2 (ix (gi s1.1 5 0 (ix s1.2))) 8), s1.2 + 1))))) else
  (if (gi s1.1 2 (ix (gi s1.1 5 0 (ix s1.2))) 1) = x1 then
  (some (.inl ((su (su s1.1 2 (ix (gi s1.1 5 0 (ix s1.2))) 7 ((gi s1.1 2 (ix (gi s1.1 5 0 (ix s1.2))) 7) + (gi s1.1 2 (ix (gi s1.1 5 0 (ix s1.2))) 3))) 2 (ix (gi s1.1 5 0 (ix s1.2))) 8 (if (gi s1.1 2 (ix (gi s1.1 5 0 (ix s1.2))) 8) < ((gi s1.1 2 (ix (gi s1.1 5 0 (ix s1.2))) 7) + (gi s1.1 2 (ix (gi s1.1 5 0 (ix s1.2))) 3)) then (gi s1.1 2 (ix (gi s1.1 5 0 (ix s1.2))) 7) + (gi s1.1 2 (ix (gi s1.1 5 0 (ix s1.2))) 3) else gi s1.1 2 (ix (gi s1.1 5 0 (ix s1.2))) 8), s1.2 + 1)))) else
  (some (.inl ((su s1.1 2 (ix (gi s1.1 5 0 (ix s1.2))) 8 (if (gi s1.1 2 (ix (gi s1.1 5 0 (ix s1.2))) 8) < (gi s1.1 2 (ix (gi s1.1 5 0 (ix s1.2))) 7) then gi s1.1 2 (ix (gi s1.1 5 0 (ix s1.2))) 7 else gi s1.1 2 (ix (gi s1.1 5 0 (ix s1.2))) 8), s1.2 + 1)))))) else none) else none)) 1000 ((σ, 0))).bind (fun r1 : ST × Int32 =>
  if inb x1 8 then 
  (some (su r1.1 1 (ix x1) 6 ((gi r1.1 1 (ix x1) 6) + 1))) else none)
abbrev rm_C_fireCounting : Room := { frames := 1, cells := 0, slots := 0, locals := 21 }
set_option maxRecDepth 100000 in
set_option maxHeartbeats 4000000 in
theorem ac_C_fireCounting {l : Launch} {D : va_G} {cc : Nat → ClassId} {al : Nat → Nat → Nat} {σ : ST} {h0 h : AH} {x1 : Int32} {res : ST}  (hG : SW dmC (cfC cc) al σ h0 h) (E : C_fireCounting σ x1 = some res) : AC l D vwCl (tysOf cc) NN y_G_fireCounting (Cond.code y_G_fireCounting b_G_fireCounting 4 none :: TT) rm_C_fireCounting [.ref (al 0 0), .int x1] h (fun rv h' => rv = none ∧ SW dmC (cfC cc) al res h0 h') := by
  refine AC.of (by decide) rfl (Nat.le_of_ble_eq_true rfl) (fun X M hR hI => ?_)
  unfold C_fireCounting at E
  refine ax_lv (lv' := [(0, .ref (al 0 0)), (1, .int x1)]) [0, 1] rfl ?_
  refine ax_iconst (v := 0) M d_G_fireCounting_0 (by decide) ?_
  refine ax_istore_n (lv' := [(0, .ref (al 0 0)), (1, .int x1), (2, .int 0)]) M d_G_fireCounting_1 (by decide) [1, 2, 0] rfl ?_
  refine ax_lv (lv' := [(0, .ref (al 0 0)), (1, .int x1), (2, .int 0)]) [0, 1, 2] rfl ?_
  obtain ⟨r1, l1, E⟩ := ob_b E
  refine lp_walk (fun (s1 : ST × Int32) => ∀ h : AH, SW dmC (cfC cc) al s1.1 h0 h → AW l D vwCl rm_C_fireCounting 4 X 0 0 h 2 [(0, .ref (al 0 0)), (1, .int x1), (2, .int s1.2)] []) (fun (r1 : ST × Int32) => ∀ h : AH, SW dmC (cfC cc) al r1.1 h0 h → AW l D vwCl rm_C_fireCounting 4 X 0 0 h 80 [(0, .ref (al 0 0)), (1, .int x1), (2, .int r1.2)] []) ?_ _ _ _ l1 ?_ h hG
  · intro s1 y1 E K1 K2 h hG
    refine ax_iload_n M d_G_fireCounting_2 2 rfl ?_
    refine ax_aload_n M d_G_fireCounting_3 0 rfl ?_
    refine sw_get M hG 0 0 (by decide) in_G rfl rfl 5 (by decide) wd_157 rfl d_G_fireCounting_4 ?_
    refine ax_icmp_ge (tgt := 80) M d_G_fireCounting_7 (by decide) (fun c1 => ?_) (fun c1 => ?_)
    · have E := ob_t E c1
      obtain rfl := Option.some.inj E
      refine ax_lv (lv' := [(0, .ref (al 0 0)), (1, .int x1), (2, .int s1.2)]) [0, 1, 2] rfl ?_
      exact (K2 _ rfl) h hG
    · have E := ob_f E c1
      refine ax_aload_n M d_G_fireCounting_10 0 rfl ?_
      refine sw_get M hG 0 0 (by decide) in_G rfl rfl 1 (by decide) wd_153 rfl d_G_fireCounting_11 ?_
      refine ax_iload_n M d_G_fireCounting_14 2 rfl ?_
      obtain ⟨k1, E⟩ := ob_c E
      refine sw_aldq (g := fun e => ix (gi s1.1 5 0 e)) M hG 5 0 (by decide) rfl 2 rfl rfl k1 d_G_fireCounting_15 ?_
      obtain ⟨k2, E⟩ := ob_c E
      refine ax_astore_n (lv' := [(0, .ref (al 0 0)), (1, .int x1), (2, .int s1.2), (3, .ref (al 2 (ix (gi s1.1 5 0 (ix s1.2)))))]) M d_G_fireCounting_16 (by decide) [1, 2, 3, 0] rfl ?_
      refine ax_aload_n M d_G_fireCounting_17 3 rfl ?_
      refine sw_getN M hG 2 (ix (gi s1.1 5 0 (ix s1.2))) k2 in_E rfl rfl 2 (by decide) wd_122 rfl d_G_fireCounting_18 ?_
      refine ax_iload_n M d_G_fireCounting_21 1 rfl ?_
      refine ax_icmp_ne (tgt := 38) M d_G_fireCounting_22 (by decide) (fun c2 => ?_) (fun c2 => ?_)
      · have E := ob_f E c2
        refine ax_aload_n M d_G_fireCounting_38 3 rfl ?_
        refine sw_getN M hG 2 (ix (gi s1.1 5 0 (ix s1.2))) k2 in_E rfl rfl 1 (by decide) wd_120 rfl d_G_fireCounting_39 ?_
        refine ax_iload_n M d_G_fireCounting_42 1 rfl ?_
        refine ax_icmp_ne (tgt := 59) M d_G_fireCounting_43 (by decide) (fun c3 => ?_) (fun c3 => ?_)
        · have E := ob_f E c3
          refine ax_aload_n M d_G_fireCounting_59 3 rfl ?_
          refine ax_aload_n M d_G_fireCounting_60 3 rfl ?_
          refine sw_getN M hG 2 (ix (gi s1.1 5 0 (ix s1.2))) k2 in_E rfl rfl 8 (by decide) wd_132 rfl d_G_fireCounting_61 ?_
          refine ax_aload_n M d_G_fireCounting_64 3 rfl ?_
          refine sw_getN M hG 2 (ix (gi s1.1 5 0 (ix s1.2))) k2 in_E rfl rfl 7 (by decide) wd_131 rfl d_G_fireCounting_65 ?_
          refine ax_mmax M lm_G_141 (by decide) (Nat.le_of_ble_eq_true rfl) (by decide) (by decide) d_G_fireCounting_68 ?_
          refine sw_putN M hG 2 (ix (gi s1.1 5 0 (ix s1.2))) k2 in_E t_E tok_E nok_E rfl rfl 8 (by decide) wd_132 rfl rfl rfl (Nat.le_of_ble_eq_true rfl) rfl d_G_fireCounting_71 (fun h hG => ?_)
          refine ax_iinc (v := s1.2 + 1) (lv' := [(0, .ref (al 0 0)), (1, .int x1), (2, .int (s1.2 + 1)), (3, .ref (al 2 (ix (gi s1.1 5 0 (ix s1.2)))))]) M d_G_fireCounting_74 2 rfl rfl (by decide) [1, 2, 0, 3] rfl ?_
          refine ax_goto (tgt := 2) M d_G_fireCounting_77 (by decide) ?_
          obtain rfl := Option.some.inj E
          refine ax_lv (lv' := [(0, .ref (al 0 0)), (1, .int x1), (2, .int (s1.2 + 1))]) [0, 1, 2] rfl ?_
          exact K1 _ rfl h hG
        · have E := ob_t E c3
          refine ax_aload_n M d_G_fireCounting_46 3 rfl ?_
          refine ax_dup M d_G_fireCounting_47 rfl ?_
          refine sw_getN M hG 2 (ix (gi s1.1 5 0 (ix s1.2))) k2 in_E rfl rfl 7 (by decide) wd_131 rfl d_G_fireCounting_48 ?_
          refine ax_aload_n M d_G_fireCounting_51 3 rfl ?_
          refine sw_getN M hG 2 (ix (gi s1.1 5 0 (ix s1.2))) k2 in_E rfl rfl 3 (by decide) wd_123 rfl d_G_fireCounting_52 ?_
          refine ax_iadd M d_G_fireCounting_55 ?_
          refine sw_putN M hG 2 (ix (gi s1.1 5 0 (ix s1.2))) k2 in_E t_E tok_E nok_E rfl rfl 7 (by decide) wd_131 rfl rfl rfl (Nat.le_of_ble_eq_true rfl) rfl d_G_fireCounting_56 (fun h hG => ?_)
          refine ax_aload_n M d_G_fireCounting_59 3 rfl ?_
          refine ax_aload_n M d_G_fireCounting_60 3 rfl ?_
          refine sw_getN M hG 2 (ix (gi s1.1 5 0 (ix s1.2))) k2 in_E rfl rfl 8 (by decide) wd_132 rfl d_G_fireCounting_61 ?_
          refine ax_topi (gi s1.1 2 (ix (gi s1.1 5 0 (ix s1.2))) 8) (gi_k (by decide)) ?_
          refine ax_aload_n M d_G_fireCounting_64 3 rfl ?_
          refine sw_getN M hG 2 (ix (gi s1.1 5 0 (ix s1.2))) k2 in_E rfl rfl 7 (by decide) wd_131 rfl d_G_fireCounting_65 ?_
          refine ax_topi ((gi s1.1 2 (ix (gi s1.1 5 0 (ix s1.2))) 7) + (gi s1.1 2 (ix (gi s1.1 5 0 (ix s1.2))) 3)) gi_same ?_
          refine ax_mmax M lm_G_141 (by decide) (Nat.le_of_ble_eq_true rfl) (by decide) (by decide) d_G_fireCounting_68 ?_
          refine sw_putN M hG 2 (ix (gi s1.1 5 0 (ix s1.2))) k2 in_E t_E tok_E nok_E rfl rfl 8 (by decide) wd_132 rfl rfl rfl (Nat.le_of_ble_eq_true rfl) rfl d_G_fireCounting_71 (fun h hG => ?_)
          refine ax_iinc (v := s1.2 + 1) (lv' := [(0, .ref (al 0 0)), (1, .int x1), (2, .int (s1.2 + 1)), (3, .ref (al 2 (ix (gi s1.1 5 0 (ix s1.2)))))]) M d_G_fireCounting_74 2 rfl rfl (by decide) [1, 2, 0, 3] rfl ?_
          refine ax_goto (tgt := 2) M d_G_fireCounting_77 (by decide) ?_
          obtain rfl := Option.some.inj E
          refine ax_lv (lv' := [(0, .ref (al 0 0)), (1, .int x1), (2, .int (s1.2 + 1))]) [0, 1, 2] rfl ?_
          exact K1 _ rfl h hG
      · have E := ob_t E c2
        refine ax_aload_n M d_G_fireCounting_25 3 rfl ?_
        refine ax_dup M d_G_fireCounting_26 rfl ?_
        refine sw_getN M hG 2 (ix (gi s1.1 5 0 (ix s1.2))) k2 in_E rfl rfl 7 (by decide) wd_131 rfl d_G_fireCounting_27 ?_
        refine ax_aload_n M d_G_fireCounting_30 3 rfl ?_
        refine sw_getN M hG 2 (ix (gi s1.1 5 0 (ix s1.2))) k2 in_E rfl rfl 4 (by decide) wd_125 rfl d_G_fireCounting_31 ?_
        refine ax_isub M d_G_fireCounting_34 ?_
        refine sw_putN M hG 2 (ix (gi s1.1 5 0 (ix s1.2))) k2 in_E t_E tok_E nok_E rfl rfl 7 (by decide) wd_131 rfl rfl rfl (Nat.le_of_ble_eq_true rfl) rfl d_G_fireCounting_35 (fun h hG => ?_)
        refine ax_aload_n M d_G_fireCounting_38 3 rfl ?_
        refine sw_getN M hG 2 (ix (gi s1.1 5 0 (ix s1.2))) k2 in_E rfl rfl 1 (by decide) wd_120 rfl d_G_fireCounting_39 ?_
        refine ax_topi (gi s1.1 2 (ix (gi s1.1 5 0 (ix s1.2))) 1) (gi_k (by decide)) ?_
        refine ax_iload_n M d_G_fireCounting_42 1 rfl ?_
        refine ax_icmp_ne (tgt := 59) M d_G_fireCounting_43 (by decide) (fun c4 => ?_) (fun c4 => ?_)
        · have E := ob_f E c4
          refine ax_aload_n M d_G_fireCounting_59 3 rfl ?_
          refine ax_aload_n M d_G_fireCounting_60 3 rfl ?_
          refine sw_getN M hG 2 (ix (gi s1.1 5 0 (ix s1.2))) k2 in_E rfl rfl 8 (by decide) wd_132 rfl d_G_fireCounting_61 ?_
          refine ax_topi (gi s1.1 2 (ix (gi s1.1 5 0 (ix s1.2))) 8) (gi_k (by decide)) ?_
          refine ax_aload_n M d_G_fireCounting_64 3 rfl ?_
          refine sw_getN M hG 2 (ix (gi s1.1 5 0 (ix s1.2))) k2 in_E rfl rfl 7 (by decide) wd_131 rfl d_G_fireCounting_65 ?_
          refine ax_topi ((gi s1.1 2 (ix (gi s1.1 5 0 (ix s1.2))) 7) - (gi s1.1 2 (ix (gi s1.1 5 0 (ix s1.2))) 4)) gi_same ?_
          refine ax_mmax M lm_G_141 (by decide) (Nat.le_of_ble_eq_true rfl) (by decide) (by decide) d_G_fireCounting_68 ?_
          refine sw_putN M hG 2 (ix (gi s1.1 5 0 (ix s1.2))) k2 in_E t_E tok_E nok_E rfl rfl 8 (by decide) wd_132 rfl rfl rfl (Nat.le_of_ble_eq_true rfl) rfl d_G_fireCounting_71 (fun h hG => ?_)
          refine ax_iinc (v := s1.2 + 1) (lv' := [(0, .ref (al 0 0)), (1, .int x1), (2, .int (s1.2 + 1)), (3, .ref (al 2 (ix (gi s1.1 5 0 (ix s1.2)))))]) M d_G_fireCounting_74 2 rfl rfl (by decide) [1, 2, 0, 3] rfl ?_
          refine ax_goto (tgt := 2) M d_G_fireCounting_77 (by decide) ?_
          obtain rfl := Option.some.inj E
          refine ax_lv (lv' := [(0, .ref (al 0 0)), (1, .int x1), (2, .int (s1.2 + 1))]) [0, 1, 2] rfl ?_
          exact K1 _ rfl h hG
        · have E := ob_t E c4
          refine ax_aload_n M d_G_fireCounting_46 3 rfl ?_
          refine ax_dup M d_G_fireCounting_47 rfl ?_
          refine sw_getN M hG 2 (ix (gi s1.1 5 0 (ix s1.2))) k2 in_E rfl rfl 7 (by decide) wd_131 rfl d_G_fireCounting_48 ?_
          refine ax_topi ((gi s1.1 2 (ix (gi s1.1 5 0 (ix s1.2))) 7) - (gi s1.1 2 (ix (gi s1.1 5 0 (ix s1.2))) 4)) gi_same ?_
          refine ax_aload_n M d_G_fireCounting_51 3 rfl ?_
          refine sw_getN M hG 2 (ix (gi s1.1 5 0 (ix s1.2))) k2 in_E rfl rfl 3 (by decide) wd_123 rfl d_G_fireCounting_52 ?_
          refine ax_topi (gi s1.1 2 (ix (gi s1.1 5 0 (ix s1.2))) 3) (gi_k (by decide)) ?_
          refine ax_iadd M d_G_fireCounting_55 ?_
          refine sw_putN M hG 2 (ix (gi s1.1 5 0 (ix s1.2))) k2 in_E t_E tok_E nok_E rfl rfl 7 (by decide) wd_131 rfl rfl rfl (Nat.le_of_ble_eq_true rfl) rfl d_G_fireCounting_56 (fun h hG => ?_)
          refine ax_aload_n M d_G_fireCounting_59 3 rfl ?_
          refine ax_aload_n M d_G_fireCounting_60 3 rfl ?_
          refine sw_getN M hG 2 (ix (gi s1.1 5 0 (ix s1.2))) k2 in_E rfl rfl 8 (by decide) wd_132 rfl d_G_fireCounting_61 ?_
          refine ax_topi (gi s1.1 2 (ix (gi s1.1 5 0 (ix s1.2))) 8) ((gi_k (by decide)).trans (gi_k (by decide))) ?_
          refine ax_aload_n M d_G_fireCounting_64 3 rfl ?_
          refine sw_getN M hG 2 (ix (gi s1.1 5 0 (ix s1.2))) k2 in_E rfl rfl 7 (by decide) wd_131 rfl d_G_fireCounting_65 ?_
          refine ax_topi (((gi s1.1 2 (ix (gi s1.1 5 0 (ix s1.2))) 7) - (gi s1.1 2 (ix (gi s1.1 5 0 (ix s1.2))) 4)) + (gi s1.1 2 (ix (gi s1.1 5 0 (ix s1.2))) 3)) gi_same ?_
          refine ax_mmax M lm_G_141 (by decide) (Nat.le_of_ble_eq_true rfl) (by decide) (by decide) d_G_fireCounting_68 ?_
          refine sw_putN M hG 2 (ix (gi s1.1 5 0 (ix s1.2))) k2 in_E t_E tok_E nok_E rfl rfl 8 (by decide) wd_132 rfl rfl rfl (Nat.le_of_ble_eq_true rfl) rfl d_G_fireCounting_71 (fun h hG => ?_)
          refine ax_iinc (v := s1.2 + 1) (lv' := [(0, .ref (al 0 0)), (1, .int x1), (2, .int (s1.2 + 1)), (3, .ref (al 2 (ix (gi s1.1 5 0 (ix s1.2)))))]) M d_G_fireCounting_74 2 rfl rfl (by decide) [1, 2, 0, 3] rfl ?_
          refine ax_goto (tgt := 2) M d_G_fireCounting_77 (by decide) ?_
          obtain rfl := Option.some.inj E
          refine ax_lv (lv' := [(0, .ref (al 0 0)), (1, .int x1), (2, .int (s1.2 + 1))]) [0, 1, 2] rfl ?_
          exact K1 _ rfl h hG
  · intro h hG
    refine ax_aload_n M d_G_fireCounting_80 0 rfl ?_
    refine sw_get M hG 0 0 (by decide) in_G rfl rfl 0 (by decide) wd_152 rfl d_G_fireCounting_81 ?_
    refine ax_iload_n M d_G_fireCounting_84 1 rfl ?_
    obtain ⟨k3, E⟩ := ob_c E
    refine sw_aldq (g := fun e => e) M hG 4 0 (by decide) rfl 1 rfl rfl k3 d_G_fireCounting_85 ?_
    refine ax_dup M d_G_fireCounting_86 rfl ?_
    refine sw_getN M hG 1 (ix x1) (in_lt k3) in_A rfl rfl 6 (by decide) wd_86 rfl d_G_fireCounting_87 ?_
    refine ax_iconst (v := 1) M d_G_fireCounting_90 (by decide) ?_
    refine ax_iadd M d_G_fireCounting_91 ?_
    refine sw_putN M hG 1 (ix x1) (in_lt k3) in_A t_A tok_A nok_A rfl rfl 6 (by decide) wd_86 rfl rfl rfl (Nat.le_of_ble_eq_true rfl) rfl d_G_fireCounting_92 (fun h hG => ?_)
    obtain rfl := Option.some.inj E
    exact ax_vret M hR (by decide) (by decide) d_G_fireCounting_95 ⟨rfl, hG⟩
def C_makeSchedule (σ : ST) (x1 : Int32) : Option (Int32 × ST) :=
  (lp (fun s1 : ST × Int32 =>
  if 8 ≤ s1.2 then
  (some (.inr ((s1.1, s1.2)))) else
  (if inb s1.2 8 then 
  (some (.inl ((su s1.1 1 (ix s1.2) 6 0, s1.2 + 1)))) else none)) 1000 ((σ, 0))).bind (fun r1 : ST × Int32 =>
  (lp (fun s2 : ST × Int32 =>
  if (gi s2.1 0 0 5) ≤ s2.2 then
  (some (.inr ((s2.1, s2.2)))) else
  (if inb s2.2 12 then 
  (if ix (gi s2.1 5 0 (ix s2.2)) < 12 then 
  (some (.inl ((su (su s2.1 2 (ix (gi s2.1 5 0 (ix s2.2))) 7 (gi s2.1 2 (ix (gi s2.1 5 0 (ix s2.2))) 5)) 2 (ix (gi s2.1 5 0 (ix s2.2))) 8 (gi s2.1 2 (ix (gi s2.1 5 0 (ix s2.2))) 5), s2.2 + 1)))) else none) else none)) 1000 ((r1.1, 0))).bind (fun r2 : ST × Int32 =>
  (lp (fun s3 : ST × Int32 × Int32 =>
  if (gi s3.1 0 0 6) ≤ s3.2.2 then
  (some (.inr (.inl ((s3.1, s3.2.1, s3.2.2))))) else
  ((C_choose s3.1 x1 s3.2.1).bind (fun b1 => 
  (if b1 = (-1) then
  ((C_leastDue s3.1).bind (fun b3 => 
  (some (.inr (.inr ((b3, s3.1))))))) else
  ((C_fireCounting s3.1 b1).bind (fun b2 => 
  (if inb s3.2.2 64 then 
  (some (.inl ((su b2 8 0 (ix s3.2.2) b1, b1, s3.2.2 + 1)))) else none))))))) 1000 ((r2.1, 0, 0))).bind (fun r3 : (ST × Int32 × Int32) ⊕ (Int32 × ST) => Sum.elim (fun o1 : ST × Int32 × Int32 =>
  (some ((-1, o1.1)))) (fun v1 : Int32 × ST => some v1) r3)))
abbrev rm_C_makeSchedule : Room := { frames := 4, cells := 0, slots := 0, locals := 90 }
set_option maxRecDepth 100000 in
set_option maxHeartbeats 4000000 in
theorem ac_C_makeSchedule {l : Launch} {D : va_G} {cc : Nat → ClassId} {al : Nat → Nat → Nat} {σ : ST} {h0 h : AH} {x1 : Int32} {res : Int32 × ST}  (hG : SW dmC (cfC cc) al σ h0 h) (E : C_makeSchedule σ x1 = some res) : AC l D vwCl (tysOf cc) NN y_G_makeSchedule (Cond.code y_G_makeSchedule b_G_makeSchedule 5 (some .int) :: TT) rm_C_makeSchedule [.ref (al 0 0), .int x1] h (fun rv h' => rv = some (.int res.1) ∧ SW dmC (cfC cc) al res.2 h0 h') := by
  refine AC.of (by decide) rfl (Nat.le_of_ble_eq_true rfl) (fun X M hR hI => ?_)
  unfold C_makeSchedule at E
  refine ax_lv (lv' := [(0, .ref (al 0 0)), (1, .int x1)]) [0, 1] rfl ?_
  refine ax_iconst (v := 0) M d_G_makeSchedule_0 (by decide) ?_
  refine ax_istore_n (lv' := [(0, .ref (al 0 0)), (1, .int x1), (2, .int 0)]) M d_G_makeSchedule_1 (by decide) [1, 2, 0] rfl ?_
  refine ax_lv (lv' := [(0, .ref (al 0 0)), (1, .int x1), (2, .int 0)]) [0, 1, 2] rfl ?_
  obtain ⟨r1, l1, E⟩ := ob_b E
  refine lp_walk (fun (s1 : ST × Int32) => ∀ h : AH, SW dmC (cfC cc) al s1.1 h0 h → AW l D vwCl rm_C_makeSchedule 5 X 0 0 h 2 [(0, .ref (al 0 0)), (1, .int x1), (2, .int s1.2)] []) (fun (r1 : ST × Int32) => ∀ h : AH, SW dmC (cfC cc) al r1.1 h0 h → AW l D vwCl rm_C_makeSchedule 5 X 0 0 h 24 [(0, .ref (al 0 0)), (1, .int x1), (2, .int r1.2)] []) ?_ _ _ _ l1 ?_ h hG
  · intro s1 y1 E K1 K2 h hG
    refine ax_iload_n M d_G_makeSchedule_2 2 rfl ?_
    refine ax_bipush (v := 8) M d_G_makeSchedule_3 (by decide) ?_
    refine ax_icmp_ge (tgt := 24) M d_G_makeSchedule_5 (by decide) (fun c1 => ?_) (fun c1 => ?_)
    · have E := ob_t E c1
      obtain rfl := Option.some.inj E
      refine ax_lv (lv' := [(0, .ref (al 0 0)), (1, .int x1), (2, .int s1.2)]) [0, 1, 2] rfl ?_
      exact (K2 _ rfl) h hG
    · have E := ob_f E c1
      refine ax_aload_n M d_G_makeSchedule_8 0 rfl ?_
      refine sw_get M hG 0 0 (by decide) in_G rfl rfl 0 (by decide) wd_152 rfl d_G_makeSchedule_9 ?_
      refine ax_iload_n M d_G_makeSchedule_12 2 rfl ?_
      obtain ⟨k1, E⟩ := ob_c E
      refine sw_aldq (g := fun e => e) M hG 4 0 (by decide) rfl 1 rfl rfl k1 d_G_makeSchedule_13 ?_
      refine ax_iconst (v := 0) M d_G_makeSchedule_14 (by decide) ?_
      refine sw_putN M hG 1 (ix s1.2) (in_lt k1) in_A t_A tok_A nok_A rfl rfl 6 (by decide) wd_86 rfl rfl rfl (Nat.le_of_ble_eq_true rfl) rfl d_G_makeSchedule_15 (fun h hG => ?_)
      refine ax_iinc (v := s1.2 + 1) (lv' := [(0, .ref (al 0 0)), (1, .int x1), (2, .int (s1.2 + 1))]) M d_G_makeSchedule_18 2 rfl rfl (by decide) [1, 2, 0] rfl ?_
      refine ax_goto (tgt := 2) M d_G_makeSchedule_21 (by decide) ?_
      obtain rfl := Option.some.inj E
      refine ax_lv (lv' := [(0, .ref (al 0 0)), (1, .int x1), (2, .int (s1.2 + 1))]) [0, 1, 2] rfl ?_
      exact K1 _ rfl h hG
  · intro h hG
    refine ax_iconst (v := 0) M d_G_makeSchedule_24 (by decide) ?_
    refine ax_istore_n (lv' := [(0, .ref (al 0 0)), (1, .int x1), (2, .int 0)]) M d_G_makeSchedule_25 (by decide) [1, 2, 0] rfl ?_
    refine ax_lv (lv' := [(0, .ref (al 0 0)), (1, .int x1), (2, .int 0)]) [0, 1, 2] rfl ?_
    obtain ⟨r2, l2, E⟩ := ob_b E
    refine lp_walk (fun (s2 : ST × Int32) => ∀ h : AH, SW dmC (cfC cc) al s2.1 h0 h → AW l D vwCl rm_C_makeSchedule 5 X 0 0 h 26 [(0, .ref (al 0 0)), (1, .int x1), (2, .int s2.2)] []) (fun (r2 : ST × Int32) => ∀ h : AH, SW dmC (cfC cc) al r2.1 h0 h → AW l D vwCl rm_C_makeSchedule 5 X 0 0 h 76 [(0, .ref (al 0 0)), (1, .int x1), (2, .int r2.2)] []) ?_ _ _ _ l2 ?_ h hG
    · intro s2 y2 E K3 K4 h hG
      refine ax_iload_n M d_G_makeSchedule_26 2 rfl ?_
      refine ax_aload_n M d_G_makeSchedule_27 0 rfl ?_
      refine sw_get M hG 0 0 (by decide) in_G rfl rfl 5 (by decide) wd_157 rfl d_G_makeSchedule_28 ?_
      refine ax_icmp_ge (tgt := 76) M d_G_makeSchedule_31 (by decide) (fun c2 => ?_) (fun c2 => ?_)
      · have E := ob_t E c2
        obtain rfl := Option.some.inj E
        refine ax_lv (lv' := [(0, .ref (al 0 0)), (1, .int x1), (2, .int s2.2)]) [0, 1, 2] rfl ?_
        exact (K4 _ rfl) h hG
      · have E := ob_f E c2
        refine ax_aload_n M d_G_makeSchedule_34 0 rfl ?_
        refine sw_get M hG 0 0 (by decide) in_G rfl rfl 1 (by decide) wd_153 rfl d_G_makeSchedule_35 ?_
        refine ax_iload_n M d_G_makeSchedule_38 2 rfl ?_
        obtain ⟨k2, E⟩ := ob_c E
        refine sw_aldq (g := fun e => ix (gi s2.1 5 0 e)) M hG 5 0 (by decide) rfl 2 rfl rfl k2 d_G_makeSchedule_39 ?_
        obtain ⟨k3, E⟩ := ob_c E
        refine ax_aload_n M d_G_makeSchedule_40 0 rfl ?_
        refine sw_get M hG 0 0 (by decide) in_G rfl rfl 1 (by decide) wd_153 rfl d_G_makeSchedule_41 ?_
        refine ax_iload_n M d_G_makeSchedule_44 2 rfl ?_
        refine sw_aldq (g := fun e => ix (gi s2.1 5 0 e)) M hG 5 0 (by decide) rfl 2 rfl rfl k2 d_G_makeSchedule_45 ?_
        refine sw_getN M hG 2 (ix (gi s2.1 5 0 (ix s2.2))) k3 in_E rfl rfl 5 (by decide) wd_128 rfl d_G_makeSchedule_46 ?_
        refine sw_putN M hG 2 (ix (gi s2.1 5 0 (ix s2.2))) k3 in_E t_E tok_E nok_E rfl rfl 7 (by decide) wd_131 rfl rfl rfl (Nat.le_of_ble_eq_true rfl) rfl d_G_makeSchedule_49 (fun h hG => ?_)
        refine ax_aload_n M d_G_makeSchedule_52 0 rfl ?_
        refine sw_get M hG 0 0 (by decide) in_G rfl rfl 1 (by decide) wd_153 rfl d_G_makeSchedule_53 ?_
        refine ax_iload_n M d_G_makeSchedule_56 2 rfl ?_
        refine sw_aldq (g := fun e => ix (gi (su s2.1 2 (ix (gi s2.1 5 0 (ix s2.2))) 7 (gi s2.1 2 (ix (gi s2.1 5 0 (ix s2.2))) 5)) 5 0 e)) M hG 5 0 (by decide) rfl 2 rfl rfl k2 d_G_makeSchedule_57 ?_
        refine ax_topr (congrArg (fun z => al 2 (ix z)) (gi_K (by decide))) ?_
        refine ax_aload_n M d_G_makeSchedule_58 0 rfl ?_
        refine sw_get M hG 0 0 (by decide) in_G rfl rfl 1 (by decide) wd_153 rfl d_G_makeSchedule_59 ?_
        refine ax_iload_n M d_G_makeSchedule_62 2 rfl ?_
        refine sw_aldq (g := fun e => ix (gi (su s2.1 2 (ix (gi s2.1 5 0 (ix s2.2))) 7 (gi s2.1 2 (ix (gi s2.1 5 0 (ix s2.2))) 5)) 5 0 e)) M hG 5 0 (by decide) rfl 2 rfl rfl k2 d_G_makeSchedule_63 ?_
        refine ax_topr (congrArg (fun z => al 2 (ix z)) (gi_K (by decide))) ?_
        refine sw_getN M hG 2 (ix (gi s2.1 5 0 (ix s2.2))) k3 in_E rfl rfl 5 (by decide) wd_128 rfl d_G_makeSchedule_64 ?_
        refine ax_topi (gi s2.1 2 (ix (gi s2.1 5 0 (ix s2.2))) 5) (gi_k (by decide)) ?_
        refine sw_putN M hG 2 (ix (gi s2.1 5 0 (ix s2.2))) k3 in_E t_E tok_E nok_E rfl rfl 8 (by decide) wd_132 rfl rfl rfl (Nat.le_of_ble_eq_true rfl) rfl d_G_makeSchedule_67 (fun h hG => ?_)
        refine ax_iinc (v := s2.2 + 1) (lv' := [(0, .ref (al 0 0)), (1, .int x1), (2, .int (s2.2 + 1))]) M d_G_makeSchedule_70 2 rfl rfl (by decide) [1, 2, 0] rfl ?_
        refine ax_goto (tgt := 26) M d_G_makeSchedule_73 (by decide) ?_
        obtain rfl := Option.some.inj E
        refine ax_lv (lv' := [(0, .ref (al 0 0)), (1, .int x1), (2, .int (s2.2 + 1))]) [0, 1, 2] rfl ?_
        exact K3 _ rfl h hG
    · intro h hG
      refine ax_iconst (v := 0) M d_G_makeSchedule_76 (by decide) ?_
      refine ax_istore_n (lv' := [(0, .ref (al 0 0)), (1, .int x1), (2, .int 0)]) M d_G_makeSchedule_77 (by decide) [1, 2, 0] rfl ?_
      refine ax_iconst (v := 0) M d_G_makeSchedule_78 (by decide) ?_
      refine ax_istore_n (lv' := [(0, .ref (al 0 0)), (1, .int x1), (2, .int 0), (3, .int 0)]) M d_G_makeSchedule_79 (by decide) [1, 2, 3, 0] rfl ?_
      refine ax_lv (lv' := [(0, .ref (al 0 0)), (1, .int x1), (2, .int 0), (3, .int 0)]) [0, 1, 2, 3] rfl ?_
      obtain ⟨r3, l3, E⟩ := ob_b E
      refine lp_walk (fun (s3 : ST × Int32 × Int32) => ∀ h : AH, SW dmC (cfC cc) al s3.1 h0 h → AW l D vwCl rm_C_makeSchedule 5 X 0 0 h 80 [(0, .ref (al 0 0)), (1, .int x1), (2, .int s3.2.1), (3, .int s3.2.2)] []) (fun (r3 : (ST × Int32 × Int32) ⊕ (Int32 × ST)) => Sum.elim (fun o1 : ST × Int32 × Int32 => ∀ h : AH, SW dmC (cfC cc) al o1.1 h0 h → AW l D vwCl rm_C_makeSchedule 5 X 0 0 h 130 [(0, .ref (al 0 0)), (1, .int x1), (2, .int o1.2.1), (3, .int o1.2.2)] []) (fun v1 : Int32 × ST => ∀ h : AH, SW dmC (cfC cc) al v1.2 h0 h → some (Value.int v1.1) = some (.int res.1) ∧ SW dmC (cfC cc) al res.2 h0 h) r3) ?_ _ _ _ l3 ?_ h hG
      · intro s3 y3 E K5 K6 h hG
        refine ax_iload_n M d_G_makeSchedule_80 3 rfl ?_
        refine ax_aload_n M d_G_makeSchedule_81 0 rfl ?_
        refine sw_get M hG 0 0 (by decide) in_G rfl rfl 6 (by decide) wd_158 rfl d_G_makeSchedule_82 ?_
        refine ax_icmp_ge (tgt := 130) M d_G_makeSchedule_85 (by decide) (fun c3 => ?_) (fun c3 => ?_)
        · have E := ob_t E c3
          obtain rfl := Option.some.inj E
          refine ax_lv (lv' := [(0, .ref (al 0 0)), (1, .int x1), (2, .int s3.2.1), (3, .int s3.2.2)]) [0, 1, 2, 3] rfl ?_
          exact (qe_l (K6 _ rfl)) h hG
        · have E := ob_f E c3
          refine ax_aload_n M d_G_makeSchedule_88 0 rfl ?_
          refine ax_iload_n M d_G_makeSchedule_89 1 rfl ?_
          refine ax_iload_n M d_G_makeSchedule_90 2 rfl ?_
          obtain ⟨b1, e1, E⟩ := ob_b E
          refine ax_callV (n := 2) (C := R_G) (q := (R_G, F_G, 9)) M TT_good rfl rfl (SW.at hG 0 0 (by decide)) (ac_C_choose hG e1) lm_G_173 (by decide) (by decide) rfl rfl (Nat.le_of_ble_eq_true rfl) d_G_makeSchedule_91 (by decide) (c1 := 0) (s1 := 0) (by decide) (ax_ret_i (fun h hG => ?_))
          refine ax_istore (lv' := [(0, .ref (al 0 0)), (1, .int x1), (3, .int s3.2.2), (4, .int b1)]) M d_G_makeSchedule_94 (by decide) [1, 2, 4, 0] rfl ?_
          refine ax_iload M d_G_makeSchedule_96 3 rfl ?_
          refine ax_iconst (v := (-1)) M d_G_makeSchedule_98 (by decide) ?_
          refine ax_icmp_ne (tgt := 107) M d_G_makeSchedule_99 (by decide) (fun c4 => ?_) (fun c4 => ?_)
          · have E := ob_f E c4
            refine ax_aload_n M d_G_makeSchedule_107 0 rfl ?_
            refine ax_iload M d_G_makeSchedule_108 3 rfl ?_
            obtain ⟨b2, e2, E⟩ := ob_b E
            refine ax_callV (n := 1) (C := R_G) (q := (R_G, F_G, 9)) M TT_good rfl rfl (SW.at hG 0 0 (by decide)) (ac_C_fireCounting hG e2) lm_G_179 (by decide) (by decide) rfl rfl (Nat.le_of_ble_eq_true rfl) d_G_makeSchedule_110 (by decide) (c1 := 0) (s1 := 0) (by decide) (ax_ret_v (fun h hG => ?_))
            refine ax_aload_n M d_G_makeSchedule_113 0 rfl ?_
            refine sw_get M hG 0 0 (by decide) in_G rfl rfl 4 (by decide) wd_156 rfl d_G_makeSchedule_114 ?_
            refine ax_iload_n M d_G_makeSchedule_117 2 rfl ?_
            refine ax_iload M d_G_makeSchedule_118 3 rfl ?_
            obtain ⟨k4, E⟩ := ob_c E
            refine sw_iast M hG 8 0 (by decide) rfl 0 rfl k4 rfl d_G_makeSchedule_120 (fun h hG => ?_)
            refine ax_iload M d_G_makeSchedule_121 3 rfl ?_
            refine ax_istore_n (lv' := [(0, .ref (al 0 0)), (1, .int x1), (2, .int b1), (3, .int s3.2.2)]) M d_G_makeSchedule_123 (by decide) [1, 2, 0, 3] rfl ?_
            refine ax_iinc (v := s3.2.2 + 1) (lv' := [(0, .ref (al 0 0)), (1, .int x1), (2, .int b1), (3, .int (s3.2.2 + 1))]) M d_G_makeSchedule_124 3 rfl rfl (by decide) [1, 2, 3, 0] rfl ?_
            refine ax_goto (tgt := 80) M d_G_makeSchedule_127 (by decide) ?_
            obtain rfl := Option.some.inj E
            refine ax_lv (lv' := [(0, .ref (al 0 0)), (1, .int x1), (2, .int b1), (3, .int (s3.2.2 + 1))]) [0, 1, 2, 3] rfl ?_
            exact K5 _ rfl h hG
          · have E := ob_t E c4
            refine ax_aload_n M d_G_makeSchedule_102 0 rfl ?_
            obtain ⟨b3, e3, E⟩ := ob_b E
            refine ax_callV (n := 0) (C := R_G) (q := (R_G, F_G, 9)) M TT_good rfl rfl (SW.at hG 0 0 (by decide)) (ac_C_leastDue hG e3) lm_G_176 (by decide) (by decide) rfl rfl (Nat.le_of_ble_eq_true rfl) d_G_makeSchedule_103 (by decide) (c1 := 0) (s1 := 0) (by decide) (ax_ret_i (fun h hG => ?_))
            obtain rfl := Option.some.inj E
            exact ax_iret M hR (by decide) (by decide) d_G_makeSchedule_106 ((qe_r (K6 _ rfl)) h hG)
      · rcases r3 with o1 | v1
        · have E := se_l E
          refine qi_l ?_
          intro h hG
          refine ax_iconst (v := (-1)) M d_G_makeSchedule_130 (by decide) ?_
          obtain rfl := Option.some.inj E
          exact ax_iret M hR (by decide) (by decide) d_G_makeSchedule_131 ⟨rfl, hG⟩
        · have E := se_r E
          refine qi_r ?_
          obtain rfl := Option.some.inj E
          exact fun h hG => ⟨rfl, hG⟩
