def M_run (σ : ST) (x1 : Int32) : Option (Int32 × ST) :=
  if x1 < 1 then
  (some ((-1, σ))) else
  (if x1 ≤ 8 then
  (if (gi σ 0 0 9) = 0 then
  (some ((-4, σ))) else
  ((lp (fun s1 : ST × Int32 =>
  if x1 ≤ s1.2 then
  (some (.inr ((s1.1, s1.2)))) else
  ((lp (fun s2 : ST × Int32 =>
  if (gi s2.1 0 0 18) ≤ s2.2 then
  (some (.inr ((s2.1, s2.2)))) else
  (if inb s2.2 64 then 
  ((M_fire s2.1 (gi s2.1 16 0 (ix s2.2))).bind (fun b1 => 
  (some (.inl ((b1, s2.2 + 1)))))) else none)) 1000 ((s1.1, 0))).bind (fun r2 : ST × Int32 =>
  some (.inl ((r2.1, s1.2 + 1)))))) 1000 ((σ, 0))).bind (fun r1 : ST × Int32 =>
  some ((x1 * (gi r1.1 0 0 18), r1.1))))) else
  (some ((-1, σ))))
abbrev rm_M_run : Room := { frames := 2, cells := 0, slots := 0, locals := 48 }
set_option maxRecDepth 100000 in
set_option maxHeartbeats 4000000 in
theorem ac_M_run {l : Launch} {D : va_G} {cc : Nat → ClassId} {al : Nat → Nat → Nat} {σ : ST} {h0 h : AH} {x1 : Int32} {res : Int32 × ST}  (hG : SW dmM (cfM cc) al σ h0 h) (E : M_run σ x1 = some res) : AC l D vwCl (tysOf cc) NN y_M_run (Cond.code y_M_run b_M_run 4 (some .int) :: TT) rm_M_run [.ref (al 0 0), .int x1] h (fun rv h' => rv = some (.int res.1) ∧ SW dmM (cfM cc) al res.2 h0 h') := by
  refine AC.of (by decide) rfl (Nat.le_of_ble_eq_true rfl) (fun X M hR hI => ?_)
  unfold M_run at E
  refine ax_lv (lv' := [(0, .ref (al 0 0)), (1, .int x1)]) [0, 1] rfl ?_
  refine ax_iload_n M d_M_run_0 1 rfl ?_
  refine ax_iconst (v := 1) M d_M_run_1 (by decide) ?_
  refine ax_icmp_lt (tgt := 11) M d_M_run_2 (by decide) (fun c1 => ?_) (fun c1 => ?_)
  · have E := ob_t E c1
    refine ax_iconst (v := (-1)) M d_M_run_11 (by decide) ?_
    obtain rfl := Option.some.inj E
    exact ax_iret M hR (by decide) (by decide) d_M_run_12 ⟨rfl, hG⟩
  · have E := ob_f E c1
    refine ax_iload_n M d_M_run_5 1 rfl ?_
    refine ax_bipush (v := 8) M d_M_run_6 (by decide) ?_
    refine ax_icmp_le (tgt := 13) M d_M_run_8 (by decide) (fun c2 => ?_) (fun c2 => ?_)
    · have E := ob_t E c2
      refine ax_aload_n M d_M_run_13 0 rfl ?_
      refine sw_get M hG 0 0 (by decide) in_M rfl rfl 9 (by decide) wd_413 rfl d_M_run_14 ?_
      refine ax_if_ne (tgt := 23) M d_M_run_17 (by decide) (fun c3 => ?_) (fun c3 => ?_)
      · have E := ob_f E c3
        refine ax_iconst (v := 0) M d_M_run_23 (by decide) ?_
        refine ax_istore_n (lv' := [(0, .ref (al 0 0)), (1, .int x1), (2, .int 0)]) M d_M_run_24 (by decide) [1, 2, 0] rfl ?_
        refine ax_lv (lv' := [(0, .ref (al 0 0)), (1, .int x1), (2, .int 0)]) [0, 1, 2] rfl ?_
        obtain ⟨r1, l2, E⟩ := ob_b E
        refine lp_walk (fun (s1 : ST × Int32) => ∀ h : AH, SW dmM (cfM cc) al s1.1 h0 h → AW l D vwCl rm_M_run 4 X 0 0 h 25 [(0, .ref (al 0 0)), (1, .int x1), (2, .int s1.2)] []) (fun (r1 : ST × Int32) => ∀ h : AH, SW dmM (cfM cc) al r1.1 h0 h → AW l D vwCl rm_M_run 4 X 0 0 h 62 [(0, .ref (al 0 0)), (1, .int x1), (2, .int r1.2)] []) ?_ _ _ _ l2 ?_ h hG
        · intro s1 y1 E K1 K2 h hG
          refine ax_iload_n M d_M_run_25 2 rfl ?_
          refine ax_iload_n M d_M_run_26 1 rfl ?_
          refine ax_icmp_ge (tgt := 62) M d_M_run_27 (by decide) (fun c4 => ?_) (fun c4 => ?_)
          · have E := ob_t E c4
            obtain rfl := Option.some.inj E
            refine ax_lv (lv' := [(0, .ref (al 0 0)), (1, .int x1), (2, .int s1.2)]) [0, 1, 2] rfl ?_
            exact (K2 _ rfl) h hG
          · have E := ob_f E c4
            refine ax_iconst (v := 0) M d_M_run_30 (by decide) ?_
            refine ax_istore_n (lv' := [(0, .ref (al 0 0)), (1, .int x1), (2, .int s1.2), (3, .int 0)]) M d_M_run_31 (by decide) [1, 2, 3, 0] rfl ?_
            refine ax_lv (lv' := [(0, .ref (al 0 0)), (1, .int x1), (2, .int s1.2), (3, .int 0)]) [0, 1, 2, 3] rfl ?_
            obtain ⟨r2, l1, E⟩ := ob_b E
            refine lp_walk (fun (s2 : ST × Int32) => ∀ h : AH, SW dmM (cfM cc) al s2.1 h0 h → AW l D vwCl rm_M_run 4 X 0 0 h 32 [(0, .ref (al 0 0)), (1, .int x1), (2, .int s1.2), (3, .int s2.2)] []) (fun (r2 : ST × Int32) => ∀ h : AH, SW dmM (cfM cc) al r2.1 h0 h → AW l D vwCl rm_M_run 4 X 0 0 h 56 [(0, .ref (al 0 0)), (1, .int x1), (2, .int s1.2), (3, .int r2.2)] []) ?_ _ _ _ l1 ?_ h hG
            · intro s2 y2 E K3 K4 h hG
              refine ax_iload_n M d_M_run_32 3 rfl ?_
              refine ax_aload_n M d_M_run_33 0 rfl ?_
              refine sw_get M hG 0 0 (by decide) in_M rfl rfl 18 (by decide) wd_422 rfl d_M_run_34 ?_
              refine ax_icmp_ge (tgt := 56) M d_M_run_37 (by decide) (fun c5 => ?_) (fun c5 => ?_)
              · have E := ob_t E c5
                obtain rfl := Option.some.inj E
                refine ax_lv (lv' := [(0, .ref (al 0 0)), (1, .int x1), (2, .int s1.2), (3, .int s2.2)]) [0, 1, 2, 3] rfl ?_
                exact (K4 _ rfl) h hG
              · have E := ob_f E c5
                refine ax_aload_n M d_M_run_40 0 rfl ?_
                refine ax_aload_n M d_M_run_41 0 rfl ?_
                refine sw_get M hG 0 0 (by decide) in_M rfl rfl 15 (by decide) wd_419 rfl d_M_run_42 ?_
                refine ax_iload_n M d_M_run_45 3 rfl ?_
                obtain ⟨k1, E⟩ := ob_c E
                refine sw_iald M hG 16 0 (by decide) rfl 0 rfl k1 d_M_run_46 ?_
                obtain ⟨b1, e1, E⟩ := ob_b E
                refine ax_callV (n := 1) (C := R_M) (q := (R_M, F_M, 25)) M TT_good rfl rfl (SW.at hG 0 0 (by decide)) (ac_M_fire hG e1) lm_M_132 (by decide) (by decide) rfl rfl (Nat.le_of_ble_eq_true rfl) d_M_run_47 (by decide) (c1 := 0) (s1 := 0) (by decide) (ax_ret_v (fun h hG => ?_))
                refine ax_iinc (v := s2.2 + 1) (lv' := [(0, .ref (al 0 0)), (1, .int x1), (2, .int s1.2), (3, .int (s2.2 + 1))]) M d_M_run_50 3 rfl rfl (by decide) [1, 2, 3, 0] rfl ?_
                refine ax_goto (tgt := 32) M d_M_run_53 (by decide) ?_
                obtain rfl := Option.some.inj E
                refine ax_lv (lv' := [(0, .ref (al 0 0)), (1, .int x1), (2, .int s1.2), (3, .int (s2.2 + 1))]) [0, 1, 2, 3] rfl ?_
                exact K3 _ rfl h hG
            · intro h hG
              refine ax_iinc (v := s1.2 + 1) (lv' := [(0, .ref (al 0 0)), (1, .int x1), (2, .int (s1.2 + 1)), (3, .int r2.2)]) M d_M_run_56 2 rfl rfl (by decide) [1, 2, 0, 3] rfl ?_
              refine ax_goto (tgt := 25) M d_M_run_59 (by decide) ?_
              obtain rfl := Option.some.inj E
              refine ax_lv (lv' := [(0, .ref (al 0 0)), (1, .int x1), (2, .int (s1.2 + 1))]) [0, 1, 2] rfl ?_
              exact K1 _ rfl h hG
        · intro h hG
          refine ax_iload_n M d_M_run_62 1 rfl ?_
          refine ax_aload_n M d_M_run_63 0 rfl ?_
          refine sw_get M hG 0 0 (by decide) in_M rfl rfl 18 (by decide) wd_422 rfl d_M_run_64 ?_
          refine ax_imul M d_M_run_67 ?_
          obtain rfl := Option.some.inj E
          exact ax_iret M hR (by decide) (by decide) d_M_run_68 ⟨rfl, hG⟩
      · have E := ob_t E c3
        refine ax_bipush (v := -4) M d_M_run_20 (by decide) ?_
        obtain rfl := Option.some.inj E
        exact ax_iret M hR (by decide) (by decide) d_M_run_22 ⟨rfl, hG⟩
    · have E := ob_f E c2
      refine ax_iconst (v := (-1)) M d_M_run_11 (by decide) ?_
      obtain rfl := Option.some.inj E
      exact ax_iret M hR (by decide) (by decide) d_M_run_12 ⟨rfl, hG⟩
def M_repetitions (σ : ST) (x1 : Int32) : Option (Int32) :=
  (M_isActor σ x1).bind (fun b1 => 
  (if b1 = 0 then
  (some (-1)) else
  (if (gi σ 0 0 9) = 0 then
  (some (-4)) else
  (if inb x1 8 then 
  (some (gi σ 14 0 (ix x1))) else none))))
abbrev rm_M_repetitions : Room := { frames := 1, cells := 0, slots := 0, locals := 21 }
set_option maxRecDepth 100000 in
set_option maxHeartbeats 4000000 in
theorem ac_M_repetitions {l : Launch} {D : va_G} {cc : Nat → ClassId} {al : Nat → Nat → Nat} {σ : ST} {h0 h : AH} {x1 : Int32} {res : Int32}  (hG : SW dmM (cfM cc) al σ h0 h) (E : M_repetitions σ x1 = some res) : AC l D vwCl (tysOf cc) NN y_M_repetitions (Cond.code y_M_repetitions b_M_repetitions 2 (some .int) :: TT) rm_M_repetitions [.ref (al 0 0), .int x1] h (fun rv h' => rv = some (.int res) ∧ SW dmM (cfM cc) al σ h0 h') := by
  refine AC.of (by decide) rfl (Nat.le_of_ble_eq_true rfl) (fun X M hR hI => ?_)
  unfold M_repetitions at E
  refine ax_lv (lv' := [(0, .ref (al 0 0)), (1, .int x1)]) [0, 1] rfl ?_
  refine ax_aload_n M d_M_repetitions_0 0 rfl ?_
  refine ax_iload_n M d_M_repetitions_1 1 rfl ?_
  obtain ⟨b1, e1, E⟩ := ob_b E
  refine ax_callV (n := 1) (C := R_M) (q := (R_M, F_M, 25)) M TT_good rfl rfl (SW.at hG 0 0 (by decide)) (ac_M_isActor hG e1) lm_M_79 (by decide) (by decide) rfl rfl (Nat.le_of_ble_eq_true rfl) d_M_repetitions_2 (by decide) (c1 := 0) (s1 := 0) (by decide) (ax_ret_i (fun h hG => ?_))
  refine ax_if_ne (tgt := 10) M d_M_repetitions_5 (by decide) (fun c1 => ?_) (fun c1 => ?_)
  · have E := ob_f E c1
    refine ax_aload_n M d_M_repetitions_10 0 rfl ?_
    refine sw_get M hG 0 0 (by decide) in_M rfl rfl 9 (by decide) wd_413 rfl d_M_repetitions_11 ?_
    refine ax_if_eq (tgt := 26) M d_M_repetitions_14 (by decide) (fun c2 => ?_) (fun c2 => ?_)
    · have E := ob_t E c2
      refine ax_bipush (v := -4) M d_M_repetitions_26 (by decide) ?_
      obtain rfl := Option.some.inj E
      exact ax_iret M hR (by decide) (by decide) d_M_repetitions_28 ⟨rfl, hG⟩
    · have E := ob_f E c2
      refine ax_aload_n M d_M_repetitions_17 0 rfl ?_
      refine sw_get M hG 0 0 (by decide) in_M rfl rfl 13 (by decide) wd_417 rfl d_M_repetitions_18 ?_
      refine ax_iload_n M d_M_repetitions_21 1 rfl ?_
      obtain ⟨k1, E⟩ := ob_c E
      refine sw_iald M hG 14 0 (by decide) rfl 0 rfl k1 d_M_repetitions_22 ?_
      refine ax_goto (tgt := 28) M d_M_repetitions_23 (by decide) ?_
      obtain rfl := Option.some.inj E
      exact ax_iret M hR (by decide) (by decide) d_M_repetitions_28 ⟨rfl, hG⟩
  · have E := ob_t E c1
    refine ax_iconst (v := (-1)) M d_M_repetitions_8 (by decide) ?_
    obtain rfl := Option.some.inj E
    exact ax_iret M hR (by decide) (by decide) d_M_repetitions_9 ⟨rfl, hG⟩
def M_schedule (σ : ST) (x1 : Int32) : Option (Int32) :=
  if (gi σ 0 0 9) = 0 then
  (some (-4)) else
  (if x1 < 0 then
  (some (-1)) else
  (if x1 < (gi σ 0 0 18) then
  (if inb x1 64 then 
  (some (gi σ 16 0 (ix x1))) else none) else
  (some (-1))))
abbrev rm_M_schedule : Room := { frames := 0, cells := 0, slots := 0, locals := 0 }
set_option maxRecDepth 100000 in
set_option maxHeartbeats 4000000 in
theorem ac_M_schedule {l : Launch} {D : va_G} {cc : Nat → ClassId} {al : Nat → Nat → Nat} {σ : ST} {h0 h : AH} {x1 : Int32} {res : Int32}  (hG : SW dmM (cfM cc) al σ h0 h) (E : M_schedule σ x1 = some res) : AC l D vwCl (tysOf cc) NN y_M_schedule (Cond.code y_M_schedule b_M_schedule 2 (some .int) :: TT) rm_M_schedule [.ref (al 0 0), .int x1] h (fun rv h' => rv = some (.int res) ∧ SW dmM (cfM cc) al σ h0 h') := by
  refine AC.of (by decide) rfl (Nat.le_of_ble_eq_true rfl) (fun X M hR hI => ?_)
  unfold M_schedule at E
  refine ax_lv (lv' := [(0, .ref (al 0 0)), (1, .int x1)]) [0, 1] rfl ?_
  refine ax_aload_n M d_M_schedule_0 0 rfl ?_
  refine sw_get M hG 0 0 (by decide) in_M rfl rfl 9 (by decide) wd_413 rfl d_M_schedule_1 ?_
  refine ax_if_ne (tgt := 10) M d_M_schedule_4 (by decide) (fun c1 => ?_) (fun c1 => ?_)
  · have E := ob_f E c1
    refine ax_iload_n M d_M_schedule_10 1 rfl ?_
    refine ax_if_lt (tgt := 22) M d_M_schedule_11 (by decide) (fun c2 => ?_) (fun c2 => ?_)
    · have E := ob_t E c2
      refine ax_iconst (v := (-1)) M d_M_schedule_22 (by decide) ?_
      refine ax_goto (tgt := 32) M d_M_schedule_23 (by decide) ?_
      obtain rfl := Option.some.inj E
      exact ax_iret M hR (by decide) (by decide) d_M_schedule_32 ⟨rfl, hG⟩
    · have E := ob_f E c2
      refine ax_iload_n M d_M_schedule_14 1 rfl ?_
      refine ax_aload_n M d_M_schedule_15 0 rfl ?_
      refine sw_get M hG 0 0 (by decide) in_M rfl rfl 18 (by decide) wd_422 rfl d_M_schedule_16 ?_
      refine ax_icmp_lt (tgt := 26) M d_M_schedule_19 (by decide) (fun c3 => ?_) (fun c3 => ?_)
      · have E := ob_t E c3
        refine ax_aload_n M d_M_schedule_26 0 rfl ?_
        refine sw_get M hG 0 0 (by decide) in_M rfl rfl 15 (by decide) wd_419 rfl d_M_schedule_27 ?_
        refine ax_iload_n M d_M_schedule_30 1 rfl ?_
        obtain ⟨k1, E⟩ := ob_c E
        refine sw_iald M hG 16 0 (by decide) rfl 0 rfl k1 d_M_schedule_31 ?_
        obtain rfl := Option.some.inj E
        exact ax_iret M hR (by decide) (by decide) d_M_schedule_32 ⟨rfl, hG⟩
      · have E := ob_f E c3
        refine ax_iconst (v := (-1)) M d_M_schedule_22 (by decide) ?_
        refine ax_goto (tgt := 32) M d_M_schedule_23 (by decide) ?_
        obtain rfl := Option.some.inj E
        exact ax_iret M hR (by decide) (by decide) d_M_schedule_32 ⟨rfl, hG⟩
  · have E := ob_t E c1
    refine ax_bipush (v := -4) M d_M_schedule_7 (by decide) ?_
    obtain rfl := Option.some.inj E
    exact ax_iret M hR (by decide) (by decide) d_M_schedule_9 ⟨rfl, hG⟩
def M_peak (σ : ST) (x1 : Int32) : Option (Int32) :=
  if x1 < 0 then
  (some (-1)) else
  (if x1 < (gi σ 0 0 8) then
  (if (gi σ 0 0 9) = 0 then
  (some (-4)) else
  (if inb x1 12 then 
  (some (gi σ 17 0 (ix x1))) else none)) else
  (some (-1)))
abbrev rm_M_peak : Room := { frames := 0, cells := 0, slots := 0, locals := 0 }
set_option maxRecDepth 100000 in
set_option maxHeartbeats 4000000 in
theorem ac_M_peak {l : Launch} {D : va_G} {cc : Nat → ClassId} {al : Nat → Nat → Nat} {σ : ST} {h0 h : AH} {x1 : Int32} {res : Int32}  (hG : SW dmM (cfM cc) al σ h0 h) (E : M_peak σ x1 = some res) : AC l D vwCl (tysOf cc) NN y_M_peak (Cond.code y_M_peak b_M_peak 2 (some .int) :: TT) rm_M_peak [.ref (al 0 0), .int x1] h (fun rv h' => rv = some (.int res) ∧ SW dmM (cfM cc) al σ h0 h') := by
  refine AC.of (by decide) rfl (Nat.le_of_ble_eq_true rfl) (fun X M hR hI => ?_)
  unfold M_peak at E
  refine ax_lv (lv' := [(0, .ref (al 0 0)), (1, .int x1)]) [0, 1] rfl ?_
  refine ax_iload_n M d_M_peak_0 1 rfl ?_
  refine ax_if_lt (tgt := 12) M d_M_peak_1 (by decide) (fun c1 => ?_) (fun c1 => ?_)
  · have E := ob_t E c1
    refine ax_iconst (v := (-1)) M d_M_peak_12 (by decide) ?_
    obtain rfl := Option.some.inj E
    exact ax_iret M hR (by decide) (by decide) d_M_peak_13 ⟨rfl, hG⟩
  · have E := ob_f E c1
    refine ax_iload_n M d_M_peak_4 1 rfl ?_
    refine ax_aload_n M d_M_peak_5 0 rfl ?_
    refine sw_get M hG 0 0 (by decide) in_M rfl rfl 8 (by decide) wd_412 rfl d_M_peak_6 ?_
    refine ax_icmp_lt (tgt := 14) M d_M_peak_9 (by decide) (fun c2 => ?_) (fun c2 => ?_)
    · have E := ob_t E c2
      refine ax_aload_n M d_M_peak_14 0 rfl ?_
      refine sw_get M hG 0 0 (by decide) in_M rfl rfl 9 (by decide) wd_413 rfl d_M_peak_15 ?_
      refine ax_if_eq (tgt := 30) M d_M_peak_18 (by decide) (fun c3 => ?_) (fun c3 => ?_)
      · have E := ob_t E c3
        refine ax_bipush (v := -4) M d_M_peak_30 (by decide) ?_
        obtain rfl := Option.some.inj E
        exact ax_iret M hR (by decide) (by decide) d_M_peak_32 ⟨rfl, hG⟩
      · have E := ob_f E c3
        refine ax_aload_n M d_M_peak_21 0 rfl ?_
        refine sw_get M hG 0 0 (by decide) in_M rfl rfl 16 (by decide) wd_420 rfl d_M_peak_22 ?_
        refine ax_iload_n M d_M_peak_25 1 rfl ?_
        obtain ⟨k1, E⟩ := ob_c E
        refine sw_iald M hG 17 0 (by decide) rfl 0 rfl k1 d_M_peak_26 ?_
        refine ax_goto (tgt := 32) M d_M_peak_27 (by decide) ?_
        obtain rfl := Option.some.inj E
        exact ax_iret M hR (by decide) (by decide) d_M_peak_32 ⟨rfl, hG⟩
    · have E := ob_f E c2
      refine ax_iconst (v := (-1)) M d_M_peak_12 (by decide) ?_
      obtain rfl := Option.some.inj E
      exact ax_iret M hR (by decide) (by decide) d_M_peak_13 ⟨rfl, hG⟩
