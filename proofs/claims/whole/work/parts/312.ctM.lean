theorem dmM_of {K i : Nat} (hi : i < dmM K) : (K = 0 ∨ K = 1 ∨ K = 2 ∨ K = 3 ∨ K = 4 ∨ K = 5 ∨ K = 6 ∨ K = 7 ∨ K = 8 ∨ K = 11 ∨ K = 12 ∨ K = 13 ∨ K = 14 ∨ K = 15 ∨ K = 16 ∨ K = 17 ∨ K = 18 ∨ K = 21 ∨ K = 22 ∨ K = 23 ∨ K = 24 ∨ K = 25) ∧ i = 0 := by
  unfold dmM at hi
  split at hi
  · omega
  · omega
def posM (K : Nat) : Nat := match K with
  | 0 => 0
  | 1 => 1
  | 2 => 2
  | 3 => 3
  | 4 => 4
  | 5 => 5
  | 6 => 6
  | 7 => 7
  | 8 => 8
  | 11 => 9
  | 12 => 10
  | 13 => 11
  | 14 => 12
  | 15 => 13
  | 16 => 14
  | 17 => 15
  | 18 => 16
  | 21 => 17
  | 22 => 18
  | 23 => 19
  | 24 => 20
  | 25 => 21
  | _ => 99
theorem posM_inj {K K2 : Nat} (h1 : K = 0 ∨ K = 1 ∨ K = 2 ∨ K = 3 ∨ K = 4 ∨ K = 5 ∨ K = 6 ∨ K = 7 ∨ K = 8 ∨ K = 11 ∨ K = 12 ∨ K = 13 ∨ K = 14 ∨ K = 15 ∨ K = 16 ∨ K = 17 ∨ K = 18 ∨ K = 21 ∨ K = 22 ∨ K = 23 ∨ K = 24 ∨ K = 25) (h2 : K2 = 0 ∨ K2 = 1 ∨ K2 = 2 ∨ K2 = 3 ∨ K2 = 4 ∨ K2 = 5 ∨ K2 = 6 ∨ K2 = 7 ∨ K2 = 8 ∨ K2 = 11 ∨ K2 = 12 ∨ K2 = 13 ∨ K2 = 14 ∨ K2 = 15 ∨ K2 = 16 ∨ K2 = 17 ∨ K2 = 18 ∨ K2 = 21 ∨ K2 = 22 ∨ K2 = 23 ∨ K2 = 24 ∨ K2 = 25) (he : posM K = posM K2) : K = K2 := by
  have hb : ∀ {K : Nat}, (K = 0 ∨ K = 1 ∨ K = 2 ∨ K = 3 ∨ K = 4 ∨ K = 5 ∨ K = 6 ∨ K = 7 ∨ K = 8 ∨ K = 11 ∨ K = 12 ∨ K = 13 ∨ K = 14 ∨ K = 15 ∨ K = 16 ∨ K = 17 ∨ K = 18 ∨ K = 21 ∨ K = 22 ∨ K = 23 ∨ K = 24 ∨ K = 25) → K < 26 := fun h => by omega
  have key : ∀ (K K2 : Fin 26), posM K.val ≠ 99 → posM K.val = posM K2.val → K.val = K2.val := by decide +kernel
  have h9 : ∀ {K : Nat}, (K = 0 ∨ K = 1 ∨ K = 2 ∨ K = 3 ∨ K = 4 ∨ K = 5 ∨ K = 6 ∨ K = 7 ∨ K = 8 ∨ K = 11 ∨ K = 12 ∨ K = 13 ∨ K = 14 ∨ K = 15 ∨ K = 16 ∨ K = 17 ∨ K = 18 ∨ K = 21 ∨ K = 22 ∨ K = 23 ∨ K = 24 ∨ K = 25) → posM K ≠ 99 := by
    intro K h
    rcases h with rfl | rfl | rfl | rfl | rfl | rfl | rfl | rfl | rfl | rfl | rfl | rfl | rfl | rfl | rfl | rfl | rfl | rfl | rfl | rfl | rfl | rfl <;> decide
  exact key ⟨K, hb h1⟩ ⟨K2, hb h2⟩ (h9 h1) he
abbrev rm_M_init : Room := { frames := 1, cells := 21, slots := 5109, locals := 20 }
set_option maxRecDepth 100000 in
set_option maxHeartbeats 20000000 in
theorem ac_M_init {l : Launch} {D : va_G} {cc : Nat → ClassId} {o : Nat} {h : AH} (ho : h o = some (.inr (3, [.null, .null, .null, .null, .null, .null, .null, .null, .int 0, .int 0, .null, .null, .null, .null, .null, .null, .null, .null, .int 0, .int 0, .null, .null, .null, .null, .null]))) : AC l D vwCl (tysOf cc) NN y_M_init (Cond.code y_M_init b_M_init 1 none :: TT) rm_M_init [.ref o] h (fun rv h' => rv = none ∧ ∃ al : Nat → Nat → Nat, al 0 0 = o ∧ SW dmM (cfM cc) al zM h h' ∧ ∀ K i, i < dmM K → K ≠ 0 → h (al K i) = none) := by
  refine AC.of (by decide) rfl (Nat.le_of_ble_eq_true rfl) (fun X M hR hI => ?_)
  refine ax_lv (lv' := [(0, .ref o)]) [0] rfl ?_
  have hP := PW.one ho
  refine ax_aload_n M d_M_init_0 0 rfl ?_
  refine ax_objInit M wd_403 wd_62 wd_63 d_M_init_1 (by decide) (Nat.le_of_ble_eq_true rfl) ?_
  refine ax_aload_n M d_M_init_4 0 rfl ?_
  refine ax_bipush (v := 8) M d_M_init_5 (by decide) ?_
  refine pw_newa (atype := .boolean) (ty := .boolean) (a0 := (8, .inl (fun _ => 0))) (cA := cc 4) hP M rfl wd_480 4 rfl (fun _ => rfl) (by decide) (by decide) (by decide) (by decide) (by decide) d_M_init_7 (fun q1 h1 hN => ?_)
  replace hP : PW [(o, .inr (3, [.null, .null, .null, .null, .null, .null, .null, .null, .int 0, .int 0, .null, .null, .null, .null, .null, .null, .null, .null, .int 0, .int 0, .null, .null, .null, .null, .null])), (q1, .inl (cc 4, 8, .inl (fun _ => 0)))] h h1 := hN
  clear hN
  refine pw_putF hP M in_M t_M tok_M nok_M 0 rfl rfl 0 (by decide) wd_404 rfl hI rfl rfl rfl (Nat.le_of_ble_eq_true rfl) d_M_init_9 (fun h1 hN => ?_)
  replace hP : PW [(o, .inr (3, [.ref q1, .null, .null, .null, .null, .null, .null, .null, .int 0, .int 0, .null, .null, .null, .null, .null, .null, .null, .null, .int 0, .int 0, .null, .null, .null, .null, .null])), (q1, .inl (cc 4, 8, .inl (fun _ => 0)))] h h1 := hN
  clear hN
  refine ax_aload_n M d_M_init_12 0 rfl ?_
  refine ax_bipush (v := 8) M d_M_init_13 (by decide) ?_
  refine pw_newa (atype := .int) (ty := .int) (a0 := (8, .inl (fun _ => 0))) (cA := cc 0) hP M rfl wd_112 0 rfl (fun _ => rfl) (by decide) (by decide) (by decide) (by decide) (by decide) d_M_init_15 (fun q2 h1 hN => ?_)
  replace hP : PW [(o, .inr (3, [.ref q1, .null, .null, .null, .null, .null, .null, .null, .int 0, .int 0, .null, .null, .null, .null, .null, .null, .null, .null, .int 0, .int 0, .null, .null, .null, .null, .null])), (q1, .inl (cc 4, 8, .inl (fun _ => 0))), (q2, .inl (cc 0, 8, .inl (fun _ => 0)))] h h1 := hN
  clear hN
  refine pw_putF hP M in_M t_M tok_M nok_M 0 rfl rfl 1 (by decide) wd_405 rfl hI rfl rfl rfl (Nat.le_of_ble_eq_true rfl) d_M_init_17 (fun h1 hN => ?_)
  replace hP : PW [(o, .inr (3, [.ref q1, .ref q2, .null, .null, .null, .null, .null, .null, .int 0, .int 0, .null, .null, .null, .null, .null, .null, .null, .null, .int 0, .int 0, .null, .null, .null, .null, .null])), (q1, .inl (cc 4, 8, .inl (fun _ => 0))), (q2, .inl (cc 0, 8, .inl (fun _ => 0)))] h h1 := hN
  clear hN
  refine ax_aload_n M d_M_init_20 0 rfl ?_
  refine ax_bipush (v := 8) M d_M_init_21 (by decide) ?_
  refine pw_newa (atype := .int) (ty := .int) (a0 := (8, .inl (fun _ => 0))) (cA := cc 0) hP M rfl wd_112 0 rfl (fun _ => rfl) (by decide) (by decide) (by decide) (by decide) (by decide) d_M_init_23 (fun q3 h1 hN => ?_)
  replace hP : PW [(o, .inr (3, [.ref q1, .ref q2, .null, .null, .null, .null, .null, .null, .int 0, .int 0, .null, .null, .null, .null, .null, .null, .null, .null, .int 0, .int 0, .null, .null, .null, .null, .null])), (q1, .inl (cc 4, 8, .inl (fun _ => 0))), (q2, .inl (cc 0, 8, .inl (fun _ => 0))), (q3, .inl (cc 0, 8, .inl (fun _ => 0)))] h h1 := hN
  clear hN
  refine pw_putF hP M in_M t_M tok_M nok_M 0 rfl rfl 2 (by decide) wd_406 rfl hI rfl rfl rfl (Nat.le_of_ble_eq_true rfl) d_M_init_25 (fun h1 hN => ?_)
  replace hP : PW [(o, .inr (3, [.ref q1, .ref q2, .ref q3, .null, .null, .null, .null, .null, .int 0, .int 0, .null, .null, .null, .null, .null, .null, .null, .null, .int 0, .int 0, .null, .null, .null, .null, .null])), (q1, .inl (cc 4, 8, .inl (fun _ => 0))), (q2, .inl (cc 0, 8, .inl (fun _ => 0))), (q3, .inl (cc 0, 8, .inl (fun _ => 0)))] h h1 := hN
  clear hN
  refine ax_aload_n M d_M_init_28 0 rfl ?_
  refine ax_bipush (v := 13) M d_M_init_29 (by decide) ?_
  refine pw_newa (atype := .int) (ty := .int) (a0 := (13, .inl (fun _ => 0))) (cA := cc 0) hP M rfl wd_112 0 rfl (fun _ => rfl) (by decide) (by decide) (by decide) (by decide) (by decide) d_M_init_31 (fun q4 h1 hN => ?_)
  replace hP : PW [(o, .inr (3, [.ref q1, .ref q2, .ref q3, .null, .null, .null, .null, .null, .int 0, .int 0, .null, .null, .null, .null, .null, .null, .null, .null, .int 0, .int 0, .null, .null, .null, .null, .null])), (q1, .inl (cc 4, 8, .inl (fun _ => 0))), (q2, .inl (cc 0, 8, .inl (fun _ => 0))), (q3, .inl (cc 0, 8, .inl (fun _ => 0))), (q4, .inl (cc 0, 13, .inl (fun _ => 0)))] h h1 := hN
  clear hN
  refine pw_putF hP M in_M t_M tok_M nok_M 0 rfl rfl 3 (by decide) wd_407 rfl hI rfl rfl rfl (Nat.le_of_ble_eq_true rfl) d_M_init_33 (fun h1 hN => ?_)
  replace hP : PW [(o, .inr (3, [.ref q1, .ref q2, .ref q3, .ref q4, .null, .null, .null, .null, .int 0, .int 0, .null, .null, .null, .null, .null, .null, .null, .null, .int 0, .int 0, .null, .null, .null, .null, .null])), (q1, .inl (cc 4, 8, .inl (fun _ => 0))), (q2, .inl (cc 0, 8, .inl (fun _ => 0))), (q3, .inl (cc 0, 8, .inl (fun _ => 0))), (q4, .inl (cc 0, 13, .inl (fun _ => 0)))] h h1 := hN
  clear hN
  refine ax_aload_n M d_M_init_36 0 rfl ?_
  refine ax_bipush (v := 13) M d_M_init_37 (by decide) ?_
  refine pw_newa (atype := .int) (ty := .int) (a0 := (13, .inl (fun _ => 0))) (cA := cc 0) hP M rfl wd_112 0 rfl (fun _ => rfl) (by decide) (by decide) (by decide) (by decide) (by decide) d_M_init_39 (fun q5 h1 hN => ?_)
  replace hP : PW [(o, .inr (3, [.ref q1, .ref q2, .ref q3, .ref q4, .null, .null, .null, .null, .int 0, .int 0, .null, .null, .null, .null, .null, .null, .null, .null, .int 0, .int 0, .null, .null, .null, .null, .null])), (q1, .inl (cc 4, 8, .inl (fun _ => 0))), (q2, .inl (cc 0, 8, .inl (fun _ => 0))), (q3, .inl (cc 0, 8, .inl (fun _ => 0))), (q4, .inl (cc 0, 13, .inl (fun _ => 0))), (q5, .inl (cc 0, 13, .inl (fun _ => 0)))] h h1 := hN
  clear hN
  refine pw_putF hP M in_M t_M tok_M nok_M 0 rfl rfl 4 (by decide) wd_408 rfl hI rfl rfl rfl (Nat.le_of_ble_eq_true rfl) d_M_init_41 (fun h1 hN => ?_)
  replace hP : PW [(o, .inr (3, [.ref q1, .ref q2, .ref q3, .ref q4, .ref q5, .null, .null, .null, .int 0, .int 0, .null, .null, .null, .null, .null, .null, .null, .null, .int 0, .int 0, .null, .null, .null, .null, .null])), (q1, .inl (cc 4, 8, .inl (fun _ => 0))), (q2, .inl (cc 0, 8, .inl (fun _ => 0))), (q3, .inl (cc 0, 8, .inl (fun _ => 0))), (q4, .inl (cc 0, 13, .inl (fun _ => 0))), (q5, .inl (cc 0, 13, .inl (fun _ => 0)))] h h1 := hN
  clear hN
  refine ax_aload_n M d_M_init_44 0 rfl ?_
  refine ax_bipush (v := 13) M d_M_init_45 (by decide) ?_
  refine pw_newa (atype := .int) (ty := .int) (a0 := (13, .inl (fun _ => 0))) (cA := cc 0) hP M rfl wd_112 0 rfl (fun _ => rfl) (by decide) (by decide) (by decide) (by decide) (by decide) d_M_init_47 (fun q6 h1 hN => ?_)
  replace hP : PW [(o, .inr (3, [.ref q1, .ref q2, .ref q3, .ref q4, .ref q5, .null, .null, .null, .int 0, .int 0, .null, .null, .null, .null, .null, .null, .null, .null, .int 0, .int 0, .null, .null, .null, .null, .null])), (q1, .inl (cc 4, 8, .inl (fun _ => 0))), (q2, .inl (cc 0, 8, .inl (fun _ => 0))), (q3, .inl (cc 0, 8, .inl (fun _ => 0))), (q4, .inl (cc 0, 13, .inl (fun _ => 0))), (q5, .inl (cc 0, 13, .inl (fun _ => 0))), (q6, .inl (cc 0, 13, .inl (fun _ => 0)))] h h1 := hN
  clear hN
  refine pw_putF hP M in_M t_M tok_M nok_M 0 rfl rfl 5 (by decide) wd_409 rfl hI rfl rfl rfl (Nat.le_of_ble_eq_true rfl) d_M_init_49 (fun h1 hN => ?_)
  replace hP : PW [(o, .inr (3, [.ref q1, .ref q2, .ref q3, .ref q4, .ref q5, .ref q6, .null, .null, .int 0, .int 0, .null, .null, .null, .null, .null, .null, .null, .null, .int 0, .int 0, .null, .null, .null, .null, .null])), (q1, .inl (cc 4, 8, .inl (fun _ => 0))), (q2, .inl (cc 0, 8, .inl (fun _ => 0))), (q3, .inl (cc 0, 8, .inl (fun _ => 0))), (q4, .inl (cc 0, 13, .inl (fun _ => 0))), (q5, .inl (cc 0, 13, .inl (fun _ => 0))), (q6, .inl (cc 0, 13, .inl (fun _ => 0)))] h h1 := hN
  clear hN
  refine ax_aload_n M d_M_init_52 0 rfl ?_
  refine ax_bipush (v := 13) M d_M_init_53 (by decide) ?_
  refine pw_newa (atype := .int) (ty := .int) (a0 := (13, .inl (fun _ => 0))) (cA := cc 0) hP M rfl wd_112 0 rfl (fun _ => rfl) (by decide) (by decide) (by decide) (by decide) (by decide) d_M_init_55 (fun q7 h1 hN => ?_)
  replace hP : PW [(o, .inr (3, [.ref q1, .ref q2, .ref q3, .ref q4, .ref q5, .ref q6, .null, .null, .int 0, .int 0, .null, .null, .null, .null, .null, .null, .null, .null, .int 0, .int 0, .null, .null, .null, .null, .null])), (q1, .inl (cc 4, 8, .inl (fun _ => 0))), (q2, .inl (cc 0, 8, .inl (fun _ => 0))), (q3, .inl (cc 0, 8, .inl (fun _ => 0))), (q4, .inl (cc 0, 13, .inl (fun _ => 0))), (q5, .inl (cc 0, 13, .inl (fun _ => 0))), (q6, .inl (cc 0, 13, .inl (fun _ => 0))), (q7, .inl (cc 0, 13, .inl (fun _ => 0)))] h h1 := hN
  clear hN
  refine pw_putF hP M in_M t_M tok_M nok_M 0 rfl rfl 6 (by decide) wd_410 rfl hI rfl rfl rfl (Nat.le_of_ble_eq_true rfl) d_M_init_57 (fun h1 hN => ?_)
  replace hP : PW [(o, .inr (3, [.ref q1, .ref q2, .ref q3, .ref q4, .ref q5, .ref q6, .ref q7, .null, .int 0, .int 0, .null, .null, .null, .null, .null, .null, .null, .null, .int 0, .int 0, .null, .null, .null, .null, .null])), (q1, .inl (cc 4, 8, .inl (fun _ => 0))), (q2, .inl (cc 0, 8, .inl (fun _ => 0))), (q3, .inl (cc 0, 8, .inl (fun _ => 0))), (q4, .inl (cc 0, 13, .inl (fun _ => 0))), (q5, .inl (cc 0, 13, .inl (fun _ => 0))), (q6, .inl (cc 0, 13, .inl (fun _ => 0))), (q7, .inl (cc 0, 13, .inl (fun _ => 0)))] h h1 := hN
  clear hN
  refine ax_aload_n M d_M_init_60 0 rfl ?_
  refine ax_bipush (v := 13) M d_M_init_61 (by decide) ?_
  refine pw_newa (atype := .int) (ty := .int) (a0 := (13, .inl (fun _ => 0))) (cA := cc 0) hP M rfl wd_112 0 rfl (fun _ => rfl) (by decide) (by decide) (by decide) (by decide) (by decide) d_M_init_63 (fun q8 h1 hN => ?_)
  replace hP : PW [(o, .inr (3, [.ref q1, .ref q2, .ref q3, .ref q4, .ref q5, .ref q6, .ref q7, .null, .int 0, .int 0, .null, .null, .null, .null, .null, .null, .null, .null, .int 0, .int 0, .null, .null, .null, .null, .null])), (q1, .inl (cc 4, 8, .inl (fun _ => 0))), (q2, .inl (cc 0, 8, .inl (fun _ => 0))), (q3, .inl (cc 0, 8, .inl (fun _ => 0))), (q4, .inl (cc 0, 13, .inl (fun _ => 0))), (q5, .inl (cc 0, 13, .inl (fun _ => 0))), (q6, .inl (cc 0, 13, .inl (fun _ => 0))), (q7, .inl (cc 0, 13, .inl (fun _ => 0))), (q8, .inl (cc 0, 13, .inl (fun _ => 0)))] h h1 := hN
  clear hN
  refine pw_putF hP M in_M t_M tok_M nok_M 0 rfl rfl 7 (by decide) wd_411 rfl hI rfl rfl rfl (Nat.le_of_ble_eq_true rfl) d_M_init_65 (fun h1 hN => ?_)
  replace hP : PW [(o, .inr (3, [.ref q1, .ref q2, .ref q3, .ref q4, .ref q5, .ref q6, .ref q7, .ref q8, .int 0, .int 0, .null, .null, .null, .null, .null, .null, .null, .null, .int 0, .int 0, .null, .null, .null, .null, .null])), (q1, .inl (cc 4, 8, .inl (fun _ => 0))), (q2, .inl (cc 0, 8, .inl (fun _ => 0))), (q3, .inl (cc 0, 8, .inl (fun _ => 0))), (q4, .inl (cc 0, 13, .inl (fun _ => 0))), (q5, .inl (cc 0, 13, .inl (fun _ => 0))), (q6, .inl (cc 0, 13, .inl (fun _ => 0))), (q7, .inl (cc 0, 13, .inl (fun _ => 0))), (q8, .inl (cc 0, 13, .inl (fun _ => 0)))] h h1 := hN
  clear hN
  refine ax_aload_n M d_M_init_68 0 rfl ?_
  refine ax_bipush (v := 8) M d_M_init_69 (by decide) ?_
  refine pw_newa (atype := .long) (ty := .long) (a0 := (8, .inr (.inl (fun _ => 0)))) (cA := cc 5) hP M rfl wd_481 5 rfl (fun _ => rfl) (by decide) (by decide) (by decide) (by decide) (by decide) d_M_init_71 (fun q9 h1 hN => ?_)
  replace hP : PW [(o, .inr (3, [.ref q1, .ref q2, .ref q3, .ref q4, .ref q5, .ref q6, .ref q7, .ref q8, .int 0, .int 0, .null, .null, .null, .null, .null, .null, .null, .null, .int 0, .int 0, .null, .null, .null, .null, .null])), (q1, .inl (cc 4, 8, .inl (fun _ => 0))), (q2, .inl (cc 0, 8, .inl (fun _ => 0))), (q3, .inl (cc 0, 8, .inl (fun _ => 0))), (q4, .inl (cc 0, 13, .inl (fun _ => 0))), (q5, .inl (cc 0, 13, .inl (fun _ => 0))), (q6, .inl (cc 0, 13, .inl (fun _ => 0))), (q7, .inl (cc 0, 13, .inl (fun _ => 0))), (q8, .inl (cc 0, 13, .inl (fun _ => 0))), (q9, .inl (cc 5, 8, .inr (.inl (fun _ => 0))))] h h1 := hN
  clear hN
  refine pw_putF hP M in_M t_M tok_M nok_M 0 rfl rfl 10 (by decide) wd_414 rfl hI rfl rfl rfl (Nat.le_of_ble_eq_true rfl) d_M_init_73 (fun h1 hN => ?_)
  replace hP : PW [(o, .inr (3, [.ref q1, .ref q2, .ref q3, .ref q4, .ref q5, .ref q6, .ref q7, .ref q8, .int 0, .int 0, .ref q9, .null, .null, .null, .null, .null, .null, .null, .int 0, .int 0, .null, .null, .null, .null, .null])), (q1, .inl (cc 4, 8, .inl (fun _ => 0))), (q2, .inl (cc 0, 8, .inl (fun _ => 0))), (q3, .inl (cc 0, 8, .inl (fun _ => 0))), (q4, .inl (cc 0, 13, .inl (fun _ => 0))), (q5, .inl (cc 0, 13, .inl (fun _ => 0))), (q6, .inl (cc 0, 13, .inl (fun _ => 0))), (q7, .inl (cc 0, 13, .inl (fun _ => 0))), (q8, .inl (cc 0, 13, .inl (fun _ => 0))), (q9, .inl (cc 5, 8, .inr (.inl (fun _ => 0))))] h h1 := hN
  clear hN
  refine ax_aload_n M d_M_init_76 0 rfl ?_
  refine ax_bipush (v := 8) M d_M_init_77 (by decide) ?_
  refine pw_newa (atype := .long) (ty := .long) (a0 := (8, .inr (.inl (fun _ => 0)))) (cA := cc 5) hP M rfl wd_481 5 rfl (fun _ => rfl) (by decide) (by decide) (by decide) (by decide) (by decide) d_M_init_79 (fun q10 h1 hN => ?_)
  replace hP : PW [(o, .inr (3, [.ref q1, .ref q2, .ref q3, .ref q4, .ref q5, .ref q6, .ref q7, .ref q8, .int 0, .int 0, .ref q9, .null, .null, .null, .null, .null, .null, .null, .int 0, .int 0, .null, .null, .null, .null, .null])), (q1, .inl (cc 4, 8, .inl (fun _ => 0))), (q2, .inl (cc 0, 8, .inl (fun _ => 0))), (q3, .inl (cc 0, 8, .inl (fun _ => 0))), (q4, .inl (cc 0, 13, .inl (fun _ => 0))), (q5, .inl (cc 0, 13, .inl (fun _ => 0))), (q6, .inl (cc 0, 13, .inl (fun _ => 0))), (q7, .inl (cc 0, 13, .inl (fun _ => 0))), (q8, .inl (cc 0, 13, .inl (fun _ => 0))), (q9, .inl (cc 5, 8, .inr (.inl (fun _ => 0)))), (q10, .inl (cc 5, 8, .inr (.inl (fun _ => 0))))] h h1 := hN
  clear hN
  refine pw_putF hP M in_M t_M tok_M nok_M 0 rfl rfl 11 (by decide) wd_415 rfl hI rfl rfl rfl (Nat.le_of_ble_eq_true rfl) d_M_init_81 (fun h1 hN => ?_)
  replace hP : PW [(o, .inr (3, [.ref q1, .ref q2, .ref q3, .ref q4, .ref q5, .ref q6, .ref q7, .ref q8, .int 0, .int 0, .ref q9, .ref q10, .null, .null, .null, .null, .null, .null, .int 0, .int 0, .null, .null, .null, .null, .null])), (q1, .inl (cc 4, 8, .inl (fun _ => 0))), (q2, .inl (cc 0, 8, .inl (fun _ => 0))), (q3, .inl (cc 0, 8, .inl (fun _ => 0))), (q4, .inl (cc 0, 13, .inl (fun _ => 0))), (q5, .inl (cc 0, 13, .inl (fun _ => 0))), (q6, .inl (cc 0, 13, .inl (fun _ => 0))), (q7, .inl (cc 0, 13, .inl (fun _ => 0))), (q8, .inl (cc 0, 13, .inl (fun _ => 0))), (q9, .inl (cc 5, 8, .inr (.inl (fun _ => 0)))), (q10, .inl (cc 5, 8, .inr (.inl (fun _ => 0))))] h h1 := hN
  clear hN
  refine ax_aload_n M d_M_init_84 0 rfl ?_
  refine ax_bipush (v := 8) M d_M_init_85 (by decide) ?_
  refine pw_newa (atype := .int) (ty := .int) (a0 := (8, .inl (fun _ => 0))) (cA := cc 0) hP M rfl wd_112 0 rfl (fun _ => rfl) (by decide) (by decide) (by decide) (by decide) (by decide) d_M_init_87 (fun q11 h1 hN => ?_)
  replace hP : PW [(o, .inr (3, [.ref q1, .ref q2, .ref q3, .ref q4, .ref q5, .ref q6, .ref q7, .ref q8, .int 0, .int 0, .ref q9, .ref q10, .null, .null, .null, .null, .null, .null, .int 0, .int 0, .null, .null, .null, .null, .null])), (q1, .inl (cc 4, 8, .inl (fun _ => 0))), (q2, .inl (cc 0, 8, .inl (fun _ => 0))), (q3, .inl (cc 0, 8, .inl (fun _ => 0))), (q4, .inl (cc 0, 13, .inl (fun _ => 0))), (q5, .inl (cc 0, 13, .inl (fun _ => 0))), (q6, .inl (cc 0, 13, .inl (fun _ => 0))), (q7, .inl (cc 0, 13, .inl (fun _ => 0))), (q8, .inl (cc 0, 13, .inl (fun _ => 0))), (q9, .inl (cc 5, 8, .inr (.inl (fun _ => 0)))), (q10, .inl (cc 5, 8, .inr (.inl (fun _ => 0)))), (q11, .inl (cc 0, 8, .inl (fun _ => 0)))] h h1 := hN
  clear hN
  refine pw_putF hP M in_M t_M tok_M nok_M 0 rfl rfl 12 (by decide) wd_416 rfl hI rfl rfl rfl (Nat.le_of_ble_eq_true rfl) d_M_init_89 (fun h1 hN => ?_)
  replace hP : PW [(o, .inr (3, [.ref q1, .ref q2, .ref q3, .ref q4, .ref q5, .ref q6, .ref q7, .ref q8, .int 0, .int 0, .ref q9, .ref q10, .ref q11, .null, .null, .null, .null, .null, .int 0, .int 0, .null, .null, .null, .null, .null])), (q1, .inl (cc 4, 8, .inl (fun _ => 0))), (q2, .inl (cc 0, 8, .inl (fun _ => 0))), (q3, .inl (cc 0, 8, .inl (fun _ => 0))), (q4, .inl (cc 0, 13, .inl (fun _ => 0))), (q5, .inl (cc 0, 13, .inl (fun _ => 0))), (q6, .inl (cc 0, 13, .inl (fun _ => 0))), (q7, .inl (cc 0, 13, .inl (fun _ => 0))), (q8, .inl (cc 0, 13, .inl (fun _ => 0))), (q9, .inl (cc 5, 8, .inr (.inl (fun _ => 0)))), (q10, .inl (cc 5, 8, .inr (.inl (fun _ => 0)))), (q11, .inl (cc 0, 8, .inl (fun _ => 0)))] h h1 := hN
  clear hN
  refine ax_aload_n M d_M_init_92 0 rfl ?_
  refine ax_bipush (v := 8) M d_M_init_93 (by decide) ?_
  refine pw_newa (atype := .int) (ty := .int) (a0 := (8, .inl (fun _ => 0))) (cA := cc 0) hP M rfl wd_112 0 rfl (fun _ => rfl) (by decide) (by decide) (by decide) (by decide) (by decide) d_M_init_95 (fun q12 h1 hN => ?_)
  replace hP : PW [(o, .inr (3, [.ref q1, .ref q2, .ref q3, .ref q4, .ref q5, .ref q6, .ref q7, .ref q8, .int 0, .int 0, .ref q9, .ref q10, .ref q11, .null, .null, .null, .null, .null, .int 0, .int 0, .null, .null, .null, .null, .null])), (q1, .inl (cc 4, 8, .inl (fun _ => 0))), (q2, .inl (cc 0, 8, .inl (fun _ => 0))), (q3, .inl (cc 0, 8, .inl (fun _ => 0))), (q4, .inl (cc 0, 13, .inl (fun _ => 0))), (q5, .inl (cc 0, 13, .inl (fun _ => 0))), (q6, .inl (cc 0, 13, .inl (fun _ => 0))), (q7, .inl (cc 0, 13, .inl (fun _ => 0))), (q8, .inl (cc 0, 13, .inl (fun _ => 0))), (q9, .inl (cc 5, 8, .inr (.inl (fun _ => 0)))), (q10, .inl (cc 5, 8, .inr (.inl (fun _ => 0)))), (q11, .inl (cc 0, 8, .inl (fun _ => 0))), (q12, .inl (cc 0, 8, .inl (fun _ => 0)))] h h1 := hN
  clear hN
  refine pw_putF hP M in_M t_M tok_M nok_M 0 rfl rfl 13 (by decide) wd_417 rfl hI rfl rfl rfl (Nat.le_of_ble_eq_true rfl) d_M_init_97 (fun h1 hN => ?_)
  replace hP : PW [(o, .inr (3, [.ref q1, .ref q2, .ref q3, .ref q4, .ref q5, .ref q6, .ref q7, .ref q8, .int 0, .int 0, .ref q9, .ref q10, .ref q11, .ref q12, .null, .null, .null, .null, .int 0, .int 0, .null, .null, .null, .null, .null])), (q1, .inl (cc 4, 8, .inl (fun _ => 0))), (q2, .inl (cc 0, 8, .inl (fun _ => 0))), (q3, .inl (cc 0, 8, .inl (fun _ => 0))), (q4, .inl (cc 0, 13, .inl (fun _ => 0))), (q5, .inl (cc 0, 13, .inl (fun _ => 0))), (q6, .inl (cc 0, 13, .inl (fun _ => 0))), (q7, .inl (cc 0, 13, .inl (fun _ => 0))), (q8, .inl (cc 0, 13, .inl (fun _ => 0))), (q9, .inl (cc 5, 8, .inr (.inl (fun _ => 0)))), (q10, .inl (cc 5, 8, .inr (.inl (fun _ => 0)))), (q11, .inl (cc 0, 8, .inl (fun _ => 0))), (q12, .inl (cc 0, 8, .inl (fun _ => 0)))] h h1 := hN
  clear hN
  refine ax_aload_n M d_M_init_100 0 rfl ?_
  refine ax_bipush (v := 8) M d_M_init_101 (by decide) ?_
  refine pw_newa (atype := .int) (ty := .int) (a0 := (8, .inl (fun _ => 0))) (cA := cc 0) hP M rfl wd_112 0 rfl (fun _ => rfl) (by decide) (by decide) (by decide) (by decide) (by decide) d_M_init_103 (fun q13 h1 hN => ?_)
  replace hP : PW [(o, .inr (3, [.ref q1, .ref q2, .ref q3, .ref q4, .ref q5, .ref q6, .ref q7, .ref q8, .int 0, .int 0, .ref q9, .ref q10, .ref q11, .ref q12, .null, .null, .null, .null, .int 0, .int 0, .null, .null, .null, .null, .null])), (q1, .inl (cc 4, 8, .inl (fun _ => 0))), (q2, .inl (cc 0, 8, .inl (fun _ => 0))), (q3, .inl (cc 0, 8, .inl (fun _ => 0))), (q4, .inl (cc 0, 13, .inl (fun _ => 0))), (q5, .inl (cc 0, 13, .inl (fun _ => 0))), (q6, .inl (cc 0, 13, .inl (fun _ => 0))), (q7, .inl (cc 0, 13, .inl (fun _ => 0))), (q8, .inl (cc 0, 13, .inl (fun _ => 0))), (q9, .inl (cc 5, 8, .inr (.inl (fun _ => 0)))), (q10, .inl (cc 5, 8, .inr (.inl (fun _ => 0)))), (q11, .inl (cc 0, 8, .inl (fun _ => 0))), (q12, .inl (cc 0, 8, .inl (fun _ => 0))), (q13, .inl (cc 0, 8, .inl (fun _ => 0)))] h h1 := hN
  clear hN
  refine pw_putF hP M in_M t_M tok_M nok_M 0 rfl rfl 14 (by decide) wd_418 rfl hI rfl rfl rfl (Nat.le_of_ble_eq_true rfl) d_M_init_105 (fun h1 hN => ?_)
  replace hP : PW [(o, .inr (3, [.ref q1, .ref q2, .ref q3, .ref q4, .ref q5, .ref q6, .ref q7, .ref q8, .int 0, .int 0, .ref q9, .ref q10, .ref q11, .ref q12, .ref q13, .null, .null, .null, .int 0, .int 0, .null, .null, .null, .null, .null])), (q1, .inl (cc 4, 8, .inl (fun _ => 0))), (q2, .inl (cc 0, 8, .inl (fun _ => 0))), (q3, .inl (cc 0, 8, .inl (fun _ => 0))), (q4, .inl (cc 0, 13, .inl (fun _ => 0))), (q5, .inl (cc 0, 13, .inl (fun _ => 0))), (q6, .inl (cc 0, 13, .inl (fun _ => 0))), (q7, .inl (cc 0, 13, .inl (fun _ => 0))), (q8, .inl (cc 0, 13, .inl (fun _ => 0))), (q9, .inl (cc 5, 8, .inr (.inl (fun _ => 0)))), (q10, .inl (cc 5, 8, .inr (.inl (fun _ => 0)))), (q11, .inl (cc 0, 8, .inl (fun _ => 0))), (q12, .inl (cc 0, 8, .inl (fun _ => 0))), (q13, .inl (cc 0, 8, .inl (fun _ => 0)))] h h1 := hN
  clear hN
  refine ax_aload_n M d_M_init_108 0 rfl ?_
  refine ax_bipush (v := 64) M d_M_init_109 (by decide) ?_
  refine pw_newa (atype := .int) (ty := .int) (a0 := (64, .inl (fun _ => 0))) (cA := cc 0) hP M rfl wd_112 0 rfl (fun _ => rfl) (by decide) (by decide) (by decide) (by decide) (by decide) d_M_init_111 (fun q14 h1 hN => ?_)
  replace hP : PW [(o, .inr (3, [.ref q1, .ref q2, .ref q3, .ref q4, .ref q5, .ref q6, .ref q7, .ref q8, .int 0, .int 0, .ref q9, .ref q10, .ref q11, .ref q12, .ref q13, .null, .null, .null, .int 0, .int 0, .null, .null, .null, .null, .null])), (q1, .inl (cc 4, 8, .inl (fun _ => 0))), (q2, .inl (cc 0, 8, .inl (fun _ => 0))), (q3, .inl (cc 0, 8, .inl (fun _ => 0))), (q4, .inl (cc 0, 13, .inl (fun _ => 0))), (q5, .inl (cc 0, 13, .inl (fun _ => 0))), (q6, .inl (cc 0, 13, .inl (fun _ => 0))), (q7, .inl (cc 0, 13, .inl (fun _ => 0))), (q8, .inl (cc 0, 13, .inl (fun _ => 0))), (q9, .inl (cc 5, 8, .inr (.inl (fun _ => 0)))), (q10, .inl (cc 5, 8, .inr (.inl (fun _ => 0)))), (q11, .inl (cc 0, 8, .inl (fun _ => 0))), (q12, .inl (cc 0, 8, .inl (fun _ => 0))), (q13, .inl (cc 0, 8, .inl (fun _ => 0))), (q14, .inl (cc 0, 64, .inl (fun _ => 0)))] h h1 := hN
  clear hN
  refine pw_putF hP M in_M t_M tok_M nok_M 0 rfl rfl 15 (by decide) wd_419 rfl hI rfl rfl rfl (Nat.le_of_ble_eq_true rfl) d_M_init_113 (fun h1 hN => ?_)
  replace hP : PW [(o, .inr (3, [.ref q1, .ref q2, .ref q3, .ref q4, .ref q5, .ref q6, .ref q7, .ref q8, .int 0, .int 0, .ref q9, .ref q10, .ref q11, .ref q12, .ref q13, .ref q14, .null, .null, .int 0, .int 0, .null, .null, .null, .null, .null])), (q1, .inl (cc 4, 8, .inl (fun _ => 0))), (q2, .inl (cc 0, 8, .inl (fun _ => 0))), (q3, .inl (cc 0, 8, .inl (fun _ => 0))), (q4, .inl (cc 0, 13, .inl (fun _ => 0))), (q5, .inl (cc 0, 13, .inl (fun _ => 0))), (q6, .inl (cc 0, 13, .inl (fun _ => 0))), (q7, .inl (cc 0, 13, .inl (fun _ => 0))), (q8, .inl (cc 0, 13, .inl (fun _ => 0))), (q9, .inl (cc 5, 8, .inr (.inl (fun _ => 0)))), (q10, .inl (cc 5, 8, .inr (.inl (fun _ => 0)))), (q11, .inl (cc 0, 8, .inl (fun _ => 0))), (q12, .inl (cc 0, 8, .inl (fun _ => 0))), (q13, .inl (cc 0, 8, .inl (fun _ => 0))), (q14, .inl (cc 0, 64, .inl (fun _ => 0)))] h h1 := hN
  clear hN
  refine ax_aload_n M d_M_init_116 0 rfl ?_
  refine ax_bipush (v := 12) M d_M_init_117 (by decide) ?_
  refine pw_newa (atype := .int) (ty := .int) (a0 := (12, .inl (fun _ => 0))) (cA := cc 0) hP M rfl wd_112 0 rfl (fun _ => rfl) (by decide) (by decide) (by decide) (by decide) (by decide) d_M_init_119 (fun q15 h1 hN => ?_)
  replace hP : PW [(o, .inr (3, [.ref q1, .ref q2, .ref q3, .ref q4, .ref q5, .ref q6, .ref q7, .ref q8, .int 0, .int 0, .ref q9, .ref q10, .ref q11, .ref q12, .ref q13, .ref q14, .null, .null, .int 0, .int 0, .null, .null, .null, .null, .null])), (q1, .inl (cc 4, 8, .inl (fun _ => 0))), (q2, .inl (cc 0, 8, .inl (fun _ => 0))), (q3, .inl (cc 0, 8, .inl (fun _ => 0))), (q4, .inl (cc 0, 13, .inl (fun _ => 0))), (q5, .inl (cc 0, 13, .inl (fun _ => 0))), (q6, .inl (cc 0, 13, .inl (fun _ => 0))), (q7, .inl (cc 0, 13, .inl (fun _ => 0))), (q8, .inl (cc 0, 13, .inl (fun _ => 0))), (q9, .inl (cc 5, 8, .inr (.inl (fun _ => 0)))), (q10, .inl (cc 5, 8, .inr (.inl (fun _ => 0)))), (q11, .inl (cc 0, 8, .inl (fun _ => 0))), (q12, .inl (cc 0, 8, .inl (fun _ => 0))), (q13, .inl (cc 0, 8, .inl (fun _ => 0))), (q14, .inl (cc 0, 64, .inl (fun _ => 0))), (q15, .inl (cc 0, 12, .inl (fun _ => 0)))] h h1 := hN
  clear hN
  refine pw_putF hP M in_M t_M tok_M nok_M 0 rfl rfl 16 (by decide) wd_420 rfl hI rfl rfl rfl (Nat.le_of_ble_eq_true rfl) d_M_init_121 (fun h1 hN => ?_)
  replace hP : PW [(o, .inr (3, [.ref q1, .ref q2, .ref q3, .ref q4, .ref q5, .ref q6, .ref q7, .ref q8, .int 0, .int 0, .ref q9, .ref q10, .ref q11, .ref q12, .ref q13, .ref q14, .ref q15, .null, .int 0, .int 0, .null, .null, .null, .null, .null])), (q1, .inl (cc 4, 8, .inl (fun _ => 0))), (q2, .inl (cc 0, 8, .inl (fun _ => 0))), (q3, .inl (cc 0, 8, .inl (fun _ => 0))), (q4, .inl (cc 0, 13, .inl (fun _ => 0))), (q5, .inl (cc 0, 13, .inl (fun _ => 0))), (q6, .inl (cc 0, 13, .inl (fun _ => 0))), (q7, .inl (cc 0, 13, .inl (fun _ => 0))), (q8, .inl (cc 0, 13, .inl (fun _ => 0))), (q9, .inl (cc 5, 8, .inr (.inl (fun _ => 0)))), (q10, .inl (cc 5, 8, .inr (.inl (fun _ => 0)))), (q11, .inl (cc 0, 8, .inl (fun _ => 0))), (q12, .inl (cc 0, 8, .inl (fun _ => 0))), (q13, .inl (cc 0, 8, .inl (fun _ => 0))), (q14, .inl (cc 0, 64, .inl (fun _ => 0))), (q15, .inl (cc 0, 12, .inl (fun _ => 0)))] h h1 := hN
  clear hN
  refine ax_aload_n M d_M_init_124 0 rfl ?_
  refine ax_bipush (v := 12) M d_M_init_125 (by decide) ?_
  refine pw_newa (atype := .int) (ty := .int) (a0 := (12, .inl (fun _ => 0))) (cA := cc 0) hP M rfl wd_112 0 rfl (fun _ => rfl) (by decide) (by decide) (by decide) (by decide) (by decide) d_M_init_127 (fun q16 h1 hN => ?_)
  replace hP : PW [(o, .inr (3, [.ref q1, .ref q2, .ref q3, .ref q4, .ref q5, .ref q6, .ref q7, .ref q8, .int 0, .int 0, .ref q9, .ref q10, .ref q11, .ref q12, .ref q13, .ref q14, .ref q15, .null, .int 0, .int 0, .null, .null, .null, .null, .null])), (q1, .inl (cc 4, 8, .inl (fun _ => 0))), (q2, .inl (cc 0, 8, .inl (fun _ => 0))), (q3, .inl (cc 0, 8, .inl (fun _ => 0))), (q4, .inl (cc 0, 13, .inl (fun _ => 0))), (q5, .inl (cc 0, 13, .inl (fun _ => 0))), (q6, .inl (cc 0, 13, .inl (fun _ => 0))), (q7, .inl (cc 0, 13, .inl (fun _ => 0))), (q8, .inl (cc 0, 13, .inl (fun _ => 0))), (q9, .inl (cc 5, 8, .inr (.inl (fun _ => 0)))), (q10, .inl (cc 5, 8, .inr (.inl (fun _ => 0)))), (q11, .inl (cc 0, 8, .inl (fun _ => 0))), (q12, .inl (cc 0, 8, .inl (fun _ => 0))), (q13, .inl (cc 0, 8, .inl (fun _ => 0))), (q14, .inl (cc 0, 64, .inl (fun _ => 0))), (q15, .inl (cc 0, 12, .inl (fun _ => 0))), (q16, .inl (cc 0, 12, .inl (fun _ => 0)))] h h1 := hN
  clear hN
  refine pw_putF hP M in_M t_M tok_M nok_M 0 rfl rfl 17 (by decide) wd_421 rfl hI rfl rfl rfl (Nat.le_of_ble_eq_true rfl) d_M_init_129 (fun h1 hN => ?_)
  replace hP : PW [(o, .inr (3, [.ref q1, .ref q2, .ref q3, .ref q4, .ref q5, .ref q6, .ref q7, .ref q8, .int 0, .int 0, .ref q9, .ref q10, .ref q11, .ref q12, .ref q13, .ref q14, .ref q15, .ref q16, .int 0, .int 0, .null, .null, .null, .null, .null])), (q1, .inl (cc 4, 8, .inl (fun _ => 0))), (q2, .inl (cc 0, 8, .inl (fun _ => 0))), (q3, .inl (cc 0, 8, .inl (fun _ => 0))), (q4, .inl (cc 0, 13, .inl (fun _ => 0))), (q5, .inl (cc 0, 13, .inl (fun _ => 0))), (q6, .inl (cc 0, 13, .inl (fun _ => 0))), (q7, .inl (cc 0, 13, .inl (fun _ => 0))), (q8, .inl (cc 0, 13, .inl (fun _ => 0))), (q9, .inl (cc 5, 8, .inr (.inl (fun _ => 0)))), (q10, .inl (cc 5, 8, .inr (.inl (fun _ => 0)))), (q11, .inl (cc 0, 8, .inl (fun _ => 0))), (q12, .inl (cc 0, 8, .inl (fun _ => 0))), (q13, .inl (cc 0, 8, .inl (fun _ => 0))), (q14, .inl (cc 0, 64, .inl (fun _ => 0))), (q15, .inl (cc 0, 12, .inl (fun _ => 0))), (q16, .inl (cc 0, 12, .inl (fun _ => 0)))] h h1 := hN
  clear hN
  refine ax_aload_n M d_M_init_132 0 rfl ?_
  refine ax_sipush (v := 4800) M d_M_init_133 (by decide) ?_
  refine pw_newa (atype := .int) (ty := .int) (a0 := (4800, .inl (fun _ => 0))) (cA := cc 0) hP M rfl wd_112 0 rfl (fun _ => rfl) (by decide) (by decide) (by decide) (by decide) (by decide) d_M_init_136 (fun q17 h1 hN => ?_)
  replace hP : PW [(o, .inr (3, [.ref q1, .ref q2, .ref q3, .ref q4, .ref q5, .ref q6, .ref q7, .ref q8, .int 0, .int 0, .ref q9, .ref q10, .ref q11, .ref q12, .ref q13, .ref q14, .ref q15, .ref q16, .int 0, .int 0, .null, .null, .null, .null, .null])), (q1, .inl (cc 4, 8, .inl (fun _ => 0))), (q2, .inl (cc 0, 8, .inl (fun _ => 0))), (q3, .inl (cc 0, 8, .inl (fun _ => 0))), (q4, .inl (cc 0, 13, .inl (fun _ => 0))), (q5, .inl (cc 0, 13, .inl (fun _ => 0))), (q6, .inl (cc 0, 13, .inl (fun _ => 0))), (q7, .inl (cc 0, 13, .inl (fun _ => 0))), (q8, .inl (cc 0, 13, .inl (fun _ => 0))), (q9, .inl (cc 5, 8, .inr (.inl (fun _ => 0)))), (q10, .inl (cc 5, 8, .inr (.inl (fun _ => 0)))), (q11, .inl (cc 0, 8, .inl (fun _ => 0))), (q12, .inl (cc 0, 8, .inl (fun _ => 0))), (q13, .inl (cc 0, 8, .inl (fun _ => 0))), (q14, .inl (cc 0, 64, .inl (fun _ => 0))), (q15, .inl (cc 0, 12, .inl (fun _ => 0))), (q16, .inl (cc 0, 12, .inl (fun _ => 0))), (q17, .inl (cc 0, 4800, .inl (fun _ => 0)))] h h1 := hN
  clear hN
  refine pw_putF hP M in_M t_M tok_M nok_M 0 rfl rfl 20 (by decide) wd_424 rfl hI rfl rfl rfl (Nat.le_of_ble_eq_true rfl) d_M_init_138 (fun h1 hN => ?_)
  replace hP : PW [(o, .inr (3, [.ref q1, .ref q2, .ref q3, .ref q4, .ref q5, .ref q6, .ref q7, .ref q8, .int 0, .int 0, .ref q9, .ref q10, .ref q11, .ref q12, .ref q13, .ref q14, .ref q15, .ref q16, .int 0, .int 0, .ref q17, .null, .null, .null, .null])), (q1, .inl (cc 4, 8, .inl (fun _ => 0))), (q2, .inl (cc 0, 8, .inl (fun _ => 0))), (q3, .inl (cc 0, 8, .inl (fun _ => 0))), (q4, .inl (cc 0, 13, .inl (fun _ => 0))), (q5, .inl (cc 0, 13, .inl (fun _ => 0))), (q6, .inl (cc 0, 13, .inl (fun _ => 0))), (q7, .inl (cc 0, 13, .inl (fun _ => 0))), (q8, .inl (cc 0, 13, .inl (fun _ => 0))), (q9, .inl (cc 5, 8, .inr (.inl (fun _ => 0)))), (q10, .inl (cc 5, 8, .inr (.inl (fun _ => 0)))), (q11, .inl (cc 0, 8, .inl (fun _ => 0))), (q12, .inl (cc 0, 8, .inl (fun _ => 0))), (q13, .inl (cc 0, 8, .inl (fun _ => 0))), (q14, .inl (cc 0, 64, .inl (fun _ => 0))), (q15, .inl (cc 0, 12, .inl (fun _ => 0))), (q16, .inl (cc 0, 12, .inl (fun _ => 0))), (q17, .inl (cc 0, 4800, .inl (fun _ => 0)))] h h1 := hN
  clear hN
  refine ax_aload_n M d_M_init_141 0 rfl ?_
  refine ax_bipush (v := 12) M d_M_init_142 (by decide) ?_
  refine pw_newa (atype := .int) (ty := .int) (a0 := (12, .inl (fun _ => 0))) (cA := cc 0) hP M rfl wd_112 0 rfl (fun _ => rfl) (by decide) (by decide) (by decide) (by decide) (by decide) d_M_init_144 (fun q18 h1 hN => ?_)
  replace hP : PW [(o, .inr (3, [.ref q1, .ref q2, .ref q3, .ref q4, .ref q5, .ref q6, .ref q7, .ref q8, .int 0, .int 0, .ref q9, .ref q10, .ref q11, .ref q12, .ref q13, .ref q14, .ref q15, .ref q16, .int 0, .int 0, .ref q17, .null, .null, .null, .null])), (q1, .inl (cc 4, 8, .inl (fun _ => 0))), (q2, .inl (cc 0, 8, .inl (fun _ => 0))), (q3, .inl (cc 0, 8, .inl (fun _ => 0))), (q4, .inl (cc 0, 13, .inl (fun _ => 0))), (q5, .inl (cc 0, 13, .inl (fun _ => 0))), (q6, .inl (cc 0, 13, .inl (fun _ => 0))), (q7, .inl (cc 0, 13, .inl (fun _ => 0))), (q8, .inl (cc 0, 13, .inl (fun _ => 0))), (q9, .inl (cc 5, 8, .inr (.inl (fun _ => 0)))), (q10, .inl (cc 5, 8, .inr (.inl (fun _ => 0)))), (q11, .inl (cc 0, 8, .inl (fun _ => 0))), (q12, .inl (cc 0, 8, .inl (fun _ => 0))), (q13, .inl (cc 0, 8, .inl (fun _ => 0))), (q14, .inl (cc 0, 64, .inl (fun _ => 0))), (q15, .inl (cc 0, 12, .inl (fun _ => 0))), (q16, .inl (cc 0, 12, .inl (fun _ => 0))), (q17, .inl (cc 0, 4800, .inl (fun _ => 0))), (q18, .inl (cc 0, 12, .inl (fun _ => 0)))] h h1 := hN
  clear hN
  refine pw_putF hP M in_M t_M tok_M nok_M 0 rfl rfl 21 (by decide) wd_425 rfl hI rfl rfl rfl (Nat.le_of_ble_eq_true rfl) d_M_init_146 (fun h1 hN => ?_)
  replace hP : PW [(o, .inr (3, [.ref q1, .ref q2, .ref q3, .ref q4, .ref q5, .ref q6, .ref q7, .ref q8, .int 0, .int 0, .ref q9, .ref q10, .ref q11, .ref q12, .ref q13, .ref q14, .ref q15, .ref q16, .int 0, .int 0, .ref q17, .ref q18, .null, .null, .null])), (q1, .inl (cc 4, 8, .inl (fun _ => 0))), (q2, .inl (cc 0, 8, .inl (fun _ => 0))), (q3, .inl (cc 0, 8, .inl (fun _ => 0))), (q4, .inl (cc 0, 13, .inl (fun _ => 0))), (q5, .inl (cc 0, 13, .inl (fun _ => 0))), (q6, .inl (cc 0, 13, .inl (fun _ => 0))), (q7, .inl (cc 0, 13, .inl (fun _ => 0))), (q8, .inl (cc 0, 13, .inl (fun _ => 0))), (q9, .inl (cc 5, 8, .inr (.inl (fun _ => 0)))), (q10, .inl (cc 5, 8, .inr (.inl (fun _ => 0)))), (q11, .inl (cc 0, 8, .inl (fun _ => 0))), (q12, .inl (cc 0, 8, .inl (fun _ => 0))), (q13, .inl (cc 0, 8, .inl (fun _ => 0))), (q14, .inl (cc 0, 64, .inl (fun _ => 0))), (q15, .inl (cc 0, 12, .inl (fun _ => 0))), (q16, .inl (cc 0, 12, .inl (fun _ => 0))), (q17, .inl (cc 0, 4800, .inl (fun _ => 0))), (q18, .inl (cc 0, 12, .inl (fun _ => 0)))] h h1 := hN
  clear hN
  refine ax_aload_n M d_M_init_149 0 rfl ?_
  refine ax_bipush (v := 8) M d_M_init_150 (by decide) ?_
  refine pw_newa (atype := .int) (ty := .int) (a0 := (8, .inl (fun _ => 0))) (cA := cc 0) hP M rfl wd_112 0 rfl (fun _ => rfl) (by decide) (by decide) (by decide) (by decide) (by decide) d_M_init_152 (fun q19 h1 hN => ?_)
  replace hP : PW [(o, .inr (3, [.ref q1, .ref q2, .ref q3, .ref q4, .ref q5, .ref q6, .ref q7, .ref q8, .int 0, .int 0, .ref q9, .ref q10, .ref q11, .ref q12, .ref q13, .ref q14, .ref q15, .ref q16, .int 0, .int 0, .ref q17, .ref q18, .null, .null, .null])), (q1, .inl (cc 4, 8, .inl (fun _ => 0))), (q2, .inl (cc 0, 8, .inl (fun _ => 0))), (q3, .inl (cc 0, 8, .inl (fun _ => 0))), (q4, .inl (cc 0, 13, .inl (fun _ => 0))), (q5, .inl (cc 0, 13, .inl (fun _ => 0))), (q6, .inl (cc 0, 13, .inl (fun _ => 0))), (q7, .inl (cc 0, 13, .inl (fun _ => 0))), (q8, .inl (cc 0, 13, .inl (fun _ => 0))), (q9, .inl (cc 5, 8, .inr (.inl (fun _ => 0)))), (q10, .inl (cc 5, 8, .inr (.inl (fun _ => 0)))), (q11, .inl (cc 0, 8, .inl (fun _ => 0))), (q12, .inl (cc 0, 8, .inl (fun _ => 0))), (q13, .inl (cc 0, 8, .inl (fun _ => 0))), (q14, .inl (cc 0, 64, .inl (fun _ => 0))), (q15, .inl (cc 0, 12, .inl (fun _ => 0))), (q16, .inl (cc 0, 12, .inl (fun _ => 0))), (q17, .inl (cc 0, 4800, .inl (fun _ => 0))), (q18, .inl (cc 0, 12, .inl (fun _ => 0))), (q19, .inl (cc 0, 8, .inl (fun _ => 0)))] h h1 := hN
  clear hN
  refine pw_putF hP M in_M t_M tok_M nok_M 0 rfl rfl 22 (by decide) wd_426 rfl hI rfl rfl rfl (Nat.le_of_ble_eq_true rfl) d_M_init_154 (fun h1 hN => ?_)
  replace hP : PW [(o, .inr (3, [.ref q1, .ref q2, .ref q3, .ref q4, .ref q5, .ref q6, .ref q7, .ref q8, .int 0, .int 0, .ref q9, .ref q10, .ref q11, .ref q12, .ref q13, .ref q14, .ref q15, .ref q16, .int 0, .int 0, .ref q17, .ref q18, .ref q19, .null, .null])), (q1, .inl (cc 4, 8, .inl (fun _ => 0))), (q2, .inl (cc 0, 8, .inl (fun _ => 0))), (q3, .inl (cc 0, 8, .inl (fun _ => 0))), (q4, .inl (cc 0, 13, .inl (fun _ => 0))), (q5, .inl (cc 0, 13, .inl (fun _ => 0))), (q6, .inl (cc 0, 13, .inl (fun _ => 0))), (q7, .inl (cc 0, 13, .inl (fun _ => 0))), (q8, .inl (cc 0, 13, .inl (fun _ => 0))), (q9, .inl (cc 5, 8, .inr (.inl (fun _ => 0)))), (q10, .inl (cc 5, 8, .inr (.inl (fun _ => 0)))), (q11, .inl (cc 0, 8, .inl (fun _ => 0))), (q12, .inl (cc 0, 8, .inl (fun _ => 0))), (q13, .inl (cc 0, 8, .inl (fun _ => 0))), (q14, .inl (cc 0, 64, .inl (fun _ => 0))), (q15, .inl (cc 0, 12, .inl (fun _ => 0))), (q16, .inl (cc 0, 12, .inl (fun _ => 0))), (q17, .inl (cc 0, 4800, .inl (fun _ => 0))), (q18, .inl (cc 0, 12, .inl (fun _ => 0))), (q19, .inl (cc 0, 8, .inl (fun _ => 0)))] h h1 := hN
  clear hN
  refine ax_aload_n M d_M_init_157 0 rfl ?_
  refine ax_bipush (v := 8) M d_M_init_158 (by decide) ?_
  refine pw_newa (atype := .int) (ty := .int) (a0 := (8, .inl (fun _ => 0))) (cA := cc 0) hP M rfl wd_112 0 rfl (fun _ => rfl) (by decide) (by decide) (by decide) (by decide) (by decide) d_M_init_160 (fun q20 h1 hN => ?_)
  replace hP : PW [(o, .inr (3, [.ref q1, .ref q2, .ref q3, .ref q4, .ref q5, .ref q6, .ref q7, .ref q8, .int 0, .int 0, .ref q9, .ref q10, .ref q11, .ref q12, .ref q13, .ref q14, .ref q15, .ref q16, .int 0, .int 0, .ref q17, .ref q18, .ref q19, .null, .null])), (q1, .inl (cc 4, 8, .inl (fun _ => 0))), (q2, .inl (cc 0, 8, .inl (fun _ => 0))), (q3, .inl (cc 0, 8, .inl (fun _ => 0))), (q4, .inl (cc 0, 13, .inl (fun _ => 0))), (q5, .inl (cc 0, 13, .inl (fun _ => 0))), (q6, .inl (cc 0, 13, .inl (fun _ => 0))), (q7, .inl (cc 0, 13, .inl (fun _ => 0))), (q8, .inl (cc 0, 13, .inl (fun _ => 0))), (q9, .inl (cc 5, 8, .inr (.inl (fun _ => 0)))), (q10, .inl (cc 5, 8, .inr (.inl (fun _ => 0)))), (q11, .inl (cc 0, 8, .inl (fun _ => 0))), (q12, .inl (cc 0, 8, .inl (fun _ => 0))), (q13, .inl (cc 0, 8, .inl (fun _ => 0))), (q14, .inl (cc 0, 64, .inl (fun _ => 0))), (q15, .inl (cc 0, 12, .inl (fun _ => 0))), (q16, .inl (cc 0, 12, .inl (fun _ => 0))), (q17, .inl (cc 0, 4800, .inl (fun _ => 0))), (q18, .inl (cc 0, 12, .inl (fun _ => 0))), (q19, .inl (cc 0, 8, .inl (fun _ => 0))), (q20, .inl (cc 0, 8, .inl (fun _ => 0)))] h h1 := hN
  clear hN
  refine pw_putF hP M in_M t_M tok_M nok_M 0 rfl rfl 23 (by decide) wd_427 rfl hI rfl rfl rfl (Nat.le_of_ble_eq_true rfl) d_M_init_162 (fun h1 hN => ?_)
  replace hP : PW [(o, .inr (3, [.ref q1, .ref q2, .ref q3, .ref q4, .ref q5, .ref q6, .ref q7, .ref q8, .int 0, .int 0, .ref q9, .ref q10, .ref q11, .ref q12, .ref q13, .ref q14, .ref q15, .ref q16, .int 0, .int 0, .ref q17, .ref q18, .ref q19, .ref q20, .null])), (q1, .inl (cc 4, 8, .inl (fun _ => 0))), (q2, .inl (cc 0, 8, .inl (fun _ => 0))), (q3, .inl (cc 0, 8, .inl (fun _ => 0))), (q4, .inl (cc 0, 13, .inl (fun _ => 0))), (q5, .inl (cc 0, 13, .inl (fun _ => 0))), (q6, .inl (cc 0, 13, .inl (fun _ => 0))), (q7, .inl (cc 0, 13, .inl (fun _ => 0))), (q8, .inl (cc 0, 13, .inl (fun _ => 0))), (q9, .inl (cc 5, 8, .inr (.inl (fun _ => 0)))), (q10, .inl (cc 5, 8, .inr (.inl (fun _ => 0)))), (q11, .inl (cc 0, 8, .inl (fun _ => 0))), (q12, .inl (cc 0, 8, .inl (fun _ => 0))), (q13, .inl (cc 0, 8, .inl (fun _ => 0))), (q14, .inl (cc 0, 64, .inl (fun _ => 0))), (q15, .inl (cc 0, 12, .inl (fun _ => 0))), (q16, .inl (cc 0, 12, .inl (fun _ => 0))), (q17, .inl (cc 0, 4800, .inl (fun _ => 0))), (q18, .inl (cc 0, 12, .inl (fun _ => 0))), (q19, .inl (cc 0, 8, .inl (fun _ => 0))), (q20, .inl (cc 0, 8, .inl (fun _ => 0)))] h h1 := hN
  clear hN
  refine ax_aload_n M d_M_init_165 0 rfl ?_
  refine ax_bipush (v := 64) M d_M_init_166 (by decide) ?_
  refine pw_newa (atype := .int) (ty := .int) (a0 := (64, .inl (fun _ => 0))) (cA := cc 0) hP M rfl wd_112 0 rfl (fun _ => rfl) (by decide) (by decide) (by decide) (by decide) (by decide) d_M_init_168 (fun q21 h1 hN => ?_)
  replace hP : PW [(o, .inr (3, [.ref q1, .ref q2, .ref q3, .ref q4, .ref q5, .ref q6, .ref q7, .ref q8, .int 0, .int 0, .ref q9, .ref q10, .ref q11, .ref q12, .ref q13, .ref q14, .ref q15, .ref q16, .int 0, .int 0, .ref q17, .ref q18, .ref q19, .ref q20, .null])), (q1, .inl (cc 4, 8, .inl (fun _ => 0))), (q2, .inl (cc 0, 8, .inl (fun _ => 0))), (q3, .inl (cc 0, 8, .inl (fun _ => 0))), (q4, .inl (cc 0, 13, .inl (fun _ => 0))), (q5, .inl (cc 0, 13, .inl (fun _ => 0))), (q6, .inl (cc 0, 13, .inl (fun _ => 0))), (q7, .inl (cc 0, 13, .inl (fun _ => 0))), (q8, .inl (cc 0, 13, .inl (fun _ => 0))), (q9, .inl (cc 5, 8, .inr (.inl (fun _ => 0)))), (q10, .inl (cc 5, 8, .inr (.inl (fun _ => 0)))), (q11, .inl (cc 0, 8, .inl (fun _ => 0))), (q12, .inl (cc 0, 8, .inl (fun _ => 0))), (q13, .inl (cc 0, 8, .inl (fun _ => 0))), (q14, .inl (cc 0, 64, .inl (fun _ => 0))), (q15, .inl (cc 0, 12, .inl (fun _ => 0))), (q16, .inl (cc 0, 12, .inl (fun _ => 0))), (q17, .inl (cc 0, 4800, .inl (fun _ => 0))), (q18, .inl (cc 0, 12, .inl (fun _ => 0))), (q19, .inl (cc 0, 8, .inl (fun _ => 0))), (q20, .inl (cc 0, 8, .inl (fun _ => 0))), (q21, .inl (cc 0, 64, .inl (fun _ => 0)))] h h1 := hN
  clear hN
  refine pw_putF hP M in_M t_M tok_M nok_M 0 rfl rfl 24 (by decide) wd_428 rfl hI rfl rfl rfl (Nat.le_of_ble_eq_true rfl) d_M_init_170 (fun h1 hN => ?_)
  replace hP : PW [(o, .inr (3, [.ref q1, .ref q2, .ref q3, .ref q4, .ref q5, .ref q6, .ref q7, .ref q8, .int 0, .int 0, .ref q9, .ref q10, .ref q11, .ref q12, .ref q13, .ref q14, .ref q15, .ref q16, .int 0, .int 0, .ref q17, .ref q18, .ref q19, .ref q20, .ref q21])), (q1, .inl (cc 4, 8, .inl (fun _ => 0))), (q2, .inl (cc 0, 8, .inl (fun _ => 0))), (q3, .inl (cc 0, 8, .inl (fun _ => 0))), (q4, .inl (cc 0, 13, .inl (fun _ => 0))), (q5, .inl (cc 0, 13, .inl (fun _ => 0))), (q6, .inl (cc 0, 13, .inl (fun _ => 0))), (q7, .inl (cc 0, 13, .inl (fun _ => 0))), (q8, .inl (cc 0, 13, .inl (fun _ => 0))), (q9, .inl (cc 5, 8, .inr (.inl (fun _ => 0)))), (q10, .inl (cc 5, 8, .inr (.inl (fun _ => 0)))), (q11, .inl (cc 0, 8, .inl (fun _ => 0))), (q12, .inl (cc 0, 8, .inl (fun _ => 0))), (q13, .inl (cc 0, 8, .inl (fun _ => 0))), (q14, .inl (cc 0, 64, .inl (fun _ => 0))), (q15, .inl (cc 0, 12, .inl (fun _ => 0))), (q16, .inl (cc 0, 12, .inl (fun _ => 0))), (q17, .inl (cc 0, 4800, .inl (fun _ => 0))), (q18, .inl (cc 0, 12, .inl (fun _ => 0))), (q19, .inl (cc 0, 8, .inl (fun _ => 0))), (q20, .inl (cc 0, 8, .inl (fun _ => 0))), (q21, .inl (cc 0, 64, .inl (fun _ => 0)))] h h1 := hN
  clear hN
  obtain ⟨al, hal⟩ : ∃ al : Nat → Nat → Nat, al = (fun K _ => match K with
    | 0 => o
    | 1 => q1
    | 2 => q2
    | 3 => q3
    | 4 => q4
    | 5 => q5
    | 6 => q6
    | 7 => q7
    | 8 => q8
    | 11 => q9
    | 12 => q10
    | 13 => q11
    | 14 => q12
    | 15 => q13
    | 16 => q14
    | 17 => q15
    | 18 => q16
    | 21 => q17
    | 22 => q18
    | 23 => q19
    | 24 => q20
    | 25 => q21
    | _ => 0 : Nat → Nat → Nat) := ⟨_, rfl⟩
  have ha0 : al 0 0 = o := congrFun (congrFun hal 0) 0
  have ha1 : al 1 0 = q1 := congrFun (congrFun hal 1) 0
  have ha2 : al 2 0 = q2 := congrFun (congrFun hal 2) 0
  have ha3 : al 3 0 = q3 := congrFun (congrFun hal 3) 0
  have ha4 : al 4 0 = q4 := congrFun (congrFun hal 4) 0
  have ha5 : al 5 0 = q5 := congrFun (congrFun hal 5) 0
  have ha6 : al 6 0 = q6 := congrFun (congrFun hal 6) 0
  have ha7 : al 7 0 = q7 := congrFun (congrFun hal 7) 0
  have ha8 : al 8 0 = q8 := congrFun (congrFun hal 8) 0
  have ha11 : al 11 0 = q9 := congrFun (congrFun hal 11) 0
  have ha12 : al 12 0 = q10 := congrFun (congrFun hal 12) 0
  have ha13 : al 13 0 = q11 := congrFun (congrFun hal 13) 0
  have ha14 : al 14 0 = q12 := congrFun (congrFun hal 14) 0
  have ha15 : al 15 0 = q13 := congrFun (congrFun hal 15) 0
  have ha16 : al 16 0 = q14 := congrFun (congrFun hal 16) 0
  have ha17 : al 17 0 = q15 := congrFun (congrFun hal 17) 0
  have ha18 : al 18 0 = q16 := congrFun (congrFun hal 18) 0
  have ha21 : al 21 0 = q17 := congrFun (congrFun hal 21) 0
  have ha22 : al 22 0 = q18 := congrFun (congrFun hal 22) 0
  have ha23 : al 23 0 = q19 := congrFun (congrFun hal 23) 0
  have ha24 : al 24 0 = q20 := congrFun (congrFun hal 24) 0
  have ha25 : al 25 0 = q21 := congrFun (congrFun hal 25) 0
  refine ax_vret M hR (by decide) (by decide) d_M_init_173 ⟨rfl, al, ha0, ?_⟩
  have hc : ∀ K i, i < dmM K → ∃ k, posM K = k ∧ ∃ c, ([(o, .inr (3, [.ref q1, .ref q2, .ref q3, .ref q4, .ref q5, .ref q6, .ref q7, .ref q8, .int 0, .int 0, .ref q9, .ref q10, .ref q11, .ref q12, .ref q13, .ref q14, .ref q15, .ref q16, .int 0, .int 0, .ref q17, .ref q18, .ref q19, .ref q20, .ref q21])), (q1, .inl (cc 4, 8, .inl (fun _ => 0))), (q2, .inl (cc 0, 8, .inl (fun _ => 0))), (q3, .inl (cc 0, 8, .inl (fun _ => 0))), (q4, .inl (cc 0, 13, .inl (fun _ => 0))), (q5, .inl (cc 0, 13, .inl (fun _ => 0))), (q6, .inl (cc 0, 13, .inl (fun _ => 0))), (q7, .inl (cc 0, 13, .inl (fun _ => 0))), (q8, .inl (cc 0, 13, .inl (fun _ => 0))), (q9, .inl (cc 5, 8, .inr (.inl (fun _ => 0)))), (q10, .inl (cc 5, 8, .inr (.inl (fun _ => 0)))), (q11, .inl (cc 0, 8, .inl (fun _ => 0))), (q12, .inl (cc 0, 8, .inl (fun _ => 0))), (q13, .inl (cc 0, 8, .inl (fun _ => 0))), (q14, .inl (cc 0, 64, .inl (fun _ => 0))), (q15, .inl (cc 0, 12, .inl (fun _ => 0))), (q16, .inl (cc 0, 12, .inl (fun _ => 0))), (q17, .inl (cc 0, 4800, .inl (fun _ => 0))), (q18, .inl (cc 0, 12, .inl (fun _ => 0))), (q19, .inl (cc 0, 8, .inl (fun _ => 0))), (q20, .inl (cc 0, 8, .inl (fun _ => 0))), (q21, .inl (cc 0, 64, .inl (fun _ => 0)))] : va_W)[k]? = some (al K i, c) ∧ c = cfM cc al K i (fun k => gi zM K i k) (fun k => gl zM K i k) := by
    intro K i hi
    obtain ⟨hK, rfl⟩ := dmM_of hi
    rcases hK with rfl | rfl | rfl | rfl | rfl | rfl | rfl | rfl | rfl | rfl | rfl | rfl | rfl | rfl | rfl | rfl | rfl | rfl | rfl | rfl | rfl | rfl
    · exact ⟨0, rfl, _, by rw [ha0]; rfl, by simp only [cfM, ha1, ha2, ha3, ha4, ha5, ha6, ha7, ha8, ha11, ha12, ha13, ha14, ha15, ha16, ha17, ha18, ha21, ha22, ha23, ha24, ha25]; rfl⟩
    · exact ⟨1, rfl, _, by rw [ha1]; rfl, rfl⟩
    · exact ⟨2, rfl, _, by rw [ha2]; rfl, rfl⟩
    · exact ⟨3, rfl, _, by rw [ha3]; rfl, rfl⟩
    · exact ⟨4, rfl, _, by rw [ha4]; rfl, rfl⟩
    · exact ⟨5, rfl, _, by rw [ha5]; rfl, rfl⟩
    · exact ⟨6, rfl, _, by rw [ha6]; rfl, rfl⟩
    · exact ⟨7, rfl, _, by rw [ha7]; rfl, rfl⟩
    · exact ⟨8, rfl, _, by rw [ha8]; rfl, rfl⟩
    · exact ⟨9, rfl, _, by rw [ha11]; rfl, rfl⟩
    · exact ⟨10, rfl, _, by rw [ha12]; rfl, rfl⟩
    · exact ⟨11, rfl, _, by rw [ha13]; rfl, rfl⟩
    · exact ⟨12, rfl, _, by rw [ha14]; rfl, rfl⟩
    · exact ⟨13, rfl, _, by rw [ha15]; rfl, rfl⟩
    · exact ⟨14, rfl, _, by rw [ha16]; rfl, rfl⟩
    · exact ⟨15, rfl, _, by rw [ha17]; rfl, rfl⟩
    · exact ⟨16, rfl, _, by rw [ha18]; rfl, rfl⟩
    · exact ⟨17, rfl, _, by rw [ha21]; rfl, rfl⟩
    · exact ⟨18, rfl, _, by rw [ha22]; rfl, rfl⟩
    · exact ⟨19, rfl, _, by rw [ha23]; rfl, rfl⟩
    · exact ⟨20, rfl, _, by rw [ha24]; rfl, rfl⟩
    · exact ⟨21, rfl, _, by rw [ha25]; rfl, rfl⟩
  refine ⟨⟨fun K i hi => ?_, fun K i K2 i2 hi hi2 he => ?_, fun a ha => ?_⟩, fun K i hi hK => ?_⟩
  · obtain ⟨k, -, c, h3, h4⟩ := hc K i hi
    rw [← h4]
    exact hP.1 k _ h3
  · obtain ⟨k, h5, c, h3, -⟩ := hc K i hi
    obtain ⟨k2, h6, c2, h7, -⟩ := hc K2 i2 hi2
    have e9 := hP.2.1 k k2 _ _ h3 h7 he
    refine ⟨posM_inj (dmM_of hi).1 (dmM_of hi2).1 (by rw [h5, h6, e9]), ?_⟩
    rw [(dmM_of hi).2, (dmM_of hi2).2]
  · refine hP.2.2.1 a (fun k c hk => ?_)
    have hm := List.mem_of_getElem? hk
    obtain ⟨K, i, h3, h4⟩ : ∃ K i, i < dmM K ∧ al K i = (a, c).1 := (show ∀ p ∈ ([(o, .inr (3, [.ref q1, .ref q2, .ref q3, .ref q4, .ref q5, .ref q6, .ref q7, .ref q8, .int 0, .int 0, .ref q9, .ref q10, .ref q11, .ref q12, .ref q13, .ref q14, .ref q15, .ref q16, .int 0, .int 0, .ref q17, .ref q18, .ref q19, .ref q20, .ref q21])), (q1, .inl (cc 4, 8, .inl (fun _ => 0))), (q2, .inl (cc 0, 8, .inl (fun _ => 0))), (q3, .inl (cc 0, 8, .inl (fun _ => 0))), (q4, .inl (cc 0, 13, .inl (fun _ => 0))), (q5, .inl (cc 0, 13, .inl (fun _ => 0))), (q6, .inl (cc 0, 13, .inl (fun _ => 0))), (q7, .inl (cc 0, 13, .inl (fun _ => 0))), (q8, .inl (cc 0, 13, .inl (fun _ => 0))), (q9, .inl (cc 5, 8, .inr (.inl (fun _ => 0)))), (q10, .inl (cc 5, 8, .inr (.inl (fun _ => 0)))), (q11, .inl (cc 0, 8, .inl (fun _ => 0))), (q12, .inl (cc 0, 8, .inl (fun _ => 0))), (q13, .inl (cc 0, 8, .inl (fun _ => 0))), (q14, .inl (cc 0, 64, .inl (fun _ => 0))), (q15, .inl (cc 0, 12, .inl (fun _ => 0))), (q16, .inl (cc 0, 12, .inl (fun _ => 0))), (q17, .inl (cc 0, 4800, .inl (fun _ => 0))), (q18, .inl (cc 0, 12, .inl (fun _ => 0))), (q19, .inl (cc 0, 8, .inl (fun _ => 0))), (q20, .inl (cc 0, 8, .inl (fun _ => 0))), (q21, .inl (cc 0, 64, .inl (fun _ => 0)))] : va_W), ∃ K i, i < dmM K ∧ al K i = p.1 from List.forall_mem_cons.mpr ⟨⟨0, 0, by decide, ha0⟩, List.forall_mem_cons.mpr ⟨⟨1, 0, by decide, ha1⟩, List.forall_mem_cons.mpr ⟨⟨2, 0, by decide, ha2⟩, List.forall_mem_cons.mpr ⟨⟨3, 0, by decide, ha3⟩, List.forall_mem_cons.mpr ⟨⟨4, 0, by decide, ha4⟩, List.forall_mem_cons.mpr ⟨⟨5, 0, by decide, ha5⟩, List.forall_mem_cons.mpr ⟨⟨6, 0, by decide, ha6⟩, List.forall_mem_cons.mpr ⟨⟨7, 0, by decide, ha7⟩, List.forall_mem_cons.mpr ⟨⟨8, 0, by decide, ha8⟩, List.forall_mem_cons.mpr ⟨⟨11, 0, by decide, ha11⟩, List.forall_mem_cons.mpr ⟨⟨12, 0, by decide, ha12⟩, List.forall_mem_cons.mpr ⟨⟨13, 0, by decide, ha13⟩, List.forall_mem_cons.mpr ⟨⟨14, 0, by decide, ha14⟩, List.forall_mem_cons.mpr ⟨⟨15, 0, by decide, ha15⟩, List.forall_mem_cons.mpr ⟨⟨16, 0, by decide, ha16⟩, List.forall_mem_cons.mpr ⟨⟨17, 0, by decide, ha17⟩, List.forall_mem_cons.mpr ⟨⟨18, 0, by decide, ha18⟩, List.forall_mem_cons.mpr ⟨⟨21, 0, by decide, ha21⟩, List.forall_mem_cons.mpr ⟨⟨22, 0, by decide, ha22⟩, List.forall_mem_cons.mpr ⟨⟨23, 0, by decide, ha23⟩, List.forall_mem_cons.mpr ⟨⟨24, 0, by decide, ha24⟩, List.forall_mem_cons.mpr ⟨⟨25, 0, by decide, ha25⟩, List.forall_mem_nil _⟩⟩⟩⟩⟩⟩⟩⟩⟩⟩⟩⟩⟩⟩⟩⟩⟩⟩⟩⟩⟩⟩) _ hm
    exact ha K i h3 h4.symm
  · obtain ⟨k, h5, c, h3, -⟩ := hc K i hi
    refine hP.2.2.2 k _ (Nat.pos_of_ne_zero (fun e => hK ?_)) h3
    exact posM_inj (dmM_of hi).1 (Or.inl rfl) (by rw [h5, e]; rfl)
