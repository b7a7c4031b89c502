/-! the law's loop -/
theorem so_0_12 {x : Int32} (h0 : ¬ x = 0) (h1 : ¬ x = 1) (h2 : ¬ x = 2) (h3 : ¬ x = 3) (h4 : ¬ x = 4) (h5 : ¬ x = 5) (h6 : ¬ x = 6) (h7 : ¬ x = 7) (h8 : ¬ x = 8) (h9 : ¬ x = 9) (h10 : ¬ x = 10) (h11 : ¬ x = 11) (h12 : ¬ x = 12) : x.toInt < 0 ∨ 12 < x.toInt := by
  have g0 : x.toInt ≠ 0 := ne_ti h0
  have g1 : x.toInt ≠ 1 := ne_ti h1
  have g2 : x.toInt ≠ 2 := ne_ti h2
  have g3 : x.toInt ≠ 3 := ne_ti h3
  have g4 : x.toInt ≠ 4 := ne_ti h4
  have g5 : x.toInt ≠ 5 := ne_ti h5
  have g6 : x.toInt ≠ 6 := ne_ti h6
  have g7 : x.toInt ≠ 7 := ne_ti h7
  have g8 : x.toInt ≠ 8 := ne_ti h8
  have g9 : x.toInt ≠ 9 := ne_ti h9
  have g10 : x.toInt ≠ 10 := ne_ti h10
  have g11 : x.toInt ≠ 11 := ne_ti h11
  have g12 : x.toInt ≠ 12 := ne_ti h12
  omega
theorem ax_sld {l : Launch} {D : va_G} {cl : List vw_C} {R : Room} {nL : Nat} {X : CX} {cc : ByteArray} {own : String} {Ts : List Cond} {tys : List (ClassId × FieldType)} {NN : List Cond} {cells slots pc : Nat} {h : AH} {lv : List (Nat × Value)} {rest : List Value} (M : Mx D cl nL X cc own Ts tys NN) {b L : Nat} {sc : Nat → Int32} (hX : va_X b L sc (xs X) (xs X).heap) (hbl : b < (xs X).heap.size) (hbA : ¬ xA X b) {i : Int32} (hi : inb i L) (d : decode cc pc = .ok (.iaload, 1)) (k : AW l D cl R nL X cells slots h (pc + 1) lv (.int (sc (ix i)) :: rest)) : AW l D cl R nL X cells slots h pc lv (.int i :: .ref b :: rest) := fun H locs ls hP hS hl => va_sld M.1 M.2.1 hX hbl hbA hS hi d (k H locs ls hP hS hl)
theorem ax_slen {l : Launch} {D : va_G} {cl : List vw_C} {R : Room} {nL : Nat} {X : CX} {cc : ByteArray} {own : String} {Ts : List Cond} {tys : List (ClassId × FieldType)} {NN : List Cond} {cells slots pc : Nat} {h : AH} {lv : List (Nat × Value)} {rest : List Value} (M : Mx D cl nL X cc own Ts tys NN) {b L : Nat} {sc : Nat → Int32} (hX : va_X b L sc (xs X) (xs X).heap) (hbl : b < (xs X).heap.size) (hbA : ¬ xA X b) (d : decode cc pc = .ok (.arraylength, 1)) (k : AW l D cl R nL X cells slots h (pc + 1) lv (.int (nI L) :: rest)) : AW l D cl R nL X cells slots h pc lv (.ref b :: rest) := fun H locs ls hP hS hl => va_slen M.1 M.2.1 hX hbl hbA hS d (k H locs ls hP hS hl)
/-- both worlds: the class's object and the reference's, apart -/
def TW (cc : Nat → ClassId) (alC alR : Nat → Nat → Nat) (σ ρ : ST) (h : AH) : Prop := SW dmC (cfC cc) alC σ h h ∧ SW dmM (cfM cc) alR ρ h h ∧ ∀ K i K' i', i < dmC K → i' < dmM K' → alC K i ≠ alR K' i'
theorem tw_c {cc : Nat → ClassId} {alC alR : Nat → Nat → Nat} {σ σ' ρ : ST} {h h1 : AH} (hT : TW cc alC alR σ ρ h) (hG : SW dmC (cfC cc) alC σ' h h1) : TW cc alC alR σ' ρ h1 :=
  ⟨⟨hG.1, hG.2.1, fun _ _ => rfl⟩, ⟨fun K i hi => (hG.2.2 _ (fun K' i' hi' => (hT.2.2 K' i' K i hi' hi).symm)).trans (hT.2.1.1 K i hi), hT.2.1.2.1, fun _ _ => rfl⟩, hT.2.2⟩
theorem tw_m {cc : Nat → ClassId} {alC alR : Nat → Nat → Nat} {σ ρ ρ' : ST} {h h1 : AH} (hT : TW cc alC alR σ ρ h) (hG : SW dmM (cfM cc) alR ρ' h h1) : TW cc alC alR σ ρ' h1 :=
  ⟨⟨fun K i hi => (hG.2.2 _ (fun K' i' hi' => hT.2.2 K i K' i' hi hi')).trans (hT.1.1 K i hi), hT.1.2.1, fun _ _ => rfl⟩, ⟨hG.1, hG.2.1, fun _ _ => rfl⟩, hT.2.2⟩
abbrev lwC : Nat := 1000
abbrev lwS : Nat := 20000
def L_body (sc : Nat → Int32) (L : Nat) (s : ST × ST × Int32) : Option ((ST × ST × Int32) ⊕ Int32) :=
  if (nI L - 6) < s.2.2 then some (.inr 1) else
  if inb s.2.2 L then
  (if (sc (ix s.2.2) &&& 15) = 0 then
  (if inb (s.2.2 + 1) L then
  (if inb (s.2.2 + 2) L then
  (if inb (s.2.2 + 3) L then
  ((C_actor s.1 (sc (ix (s.2.2 + 1))) (sc (ix (s.2.2 + 2))) (sc (ix (s.2.2 + 3)))).bind (fun b1 =>
  (M_actor s.2.1 (sc (ix (s.2.2 + 1))) (sc (ix (s.2.2 + 2))) (sc (ix (s.2.2 + 3)))).bind (fun b2 =>
  if b1.1 = b2.1 then some (.inl (b1.2, b2.2, s.2.2 + 6)) else some (.inr 0)))) else none) else none) else none) else
  (if (sc (ix s.2.2) &&& 15) = 1 then
  (if inb (s.2.2 + 1) L then
  (if inb (s.2.2 + 2) L then
  (if inb (s.2.2 + 3) L then
  (if inb (s.2.2 + 4) L then
  (if inb (s.2.2 + 5) L then
  ((C_edge s.1 (sc (ix (s.2.2 + 1))) (sc (ix (s.2.2 + 2))) (sc (ix (s.2.2 + 3))) (sc (ix (s.2.2 + 4))) (sc (ix (s.2.2 + 5)))).bind (fun b1 =>
  (M_edge s.2.1 (sc (ix (s.2.2 + 1))) (sc (ix (s.2.2 + 2))) (sc (ix (s.2.2 + 3))) (sc (ix (s.2.2 + 4))) (sc (ix (s.2.2 + 5)))).bind (fun b2 =>
  if b1.1 = b2.1 then some (.inl (b1.2, b2.2, s.2.2 + 6)) else some (.inr 0)))) else none) else none) else none) else none) else none) else
  (if (sc (ix s.2.2) &&& 15) = 2 then
  (if inb (s.2.2 + 1) L then
  ((C_unedge s.1 (sc (ix (s.2.2 + 1)))).bind (fun b1 =>
  (M_unedge s.2.1 (sc (ix (s.2.2 + 1)))).bind (fun b2 =>
  if b1.1 = b2.1 then some (.inl (b1.2, b2.2, s.2.2 + 6)) else some (.inr 0)))) else none) else
  (if (sc (ix s.2.2) &&& 15) = 3 then
  (if inb (s.2.2 + 1) L then
  ((C_solve s.1 (sc (ix (s.2.2 + 1)))).bind (fun b1 =>
  (M_solve s.2.1 (sc (ix (s.2.2 + 1)))).bind (fun b2 =>
  if b1.1 = b2.1 then some (.inl (b1.2, b2.2, s.2.2 + 6)) else some (.inr 0)))) else none) else
  (if (sc (ix s.2.2) &&& 15) = 4 then
  (if inb (s.2.2 + 1) L then
  ((C_run s.1 (sc (ix (s.2.2 + 1)))).bind (fun b1 =>
  (M_run s.2.1 (sc (ix (s.2.2 + 1)))).bind (fun b2 =>
  if b1.1 = b2.1 then some (.inl (b1.2, b2.2, s.2.2 + 6)) else some (.inr 0)))) else none) else
  (if (sc (ix s.2.2) &&& 15) = 5 then
  (if inb (s.2.2 + 1) L then
  ((C_repetitions s.1 (sc (ix (s.2.2 + 1)))).bind (fun b1 =>
  (M_repetitions s.2.1 (sc (ix (s.2.2 + 1)))).bind (fun b2 =>
  if b1 = b2 then some (.inl (s.1, s.2.1, s.2.2 + 6)) else some (.inr 0)))) else none) else
  (if (sc (ix s.2.2) &&& 15) = 6 then
  (if inb (s.2.2 + 1) L then
  ((C_schedule s.1 (sc (ix (s.2.2 + 1)))).bind (fun b1 =>
  (M_schedule s.2.1 (sc (ix (s.2.2 + 1)))).bind (fun b2 =>
  if b1 = b2 then some (.inl (s.1, s.2.1, s.2.2 + 6)) else some (.inr 0)))) else none) else
  (if (sc (ix s.2.2) &&& 15) = 7 then
  (if inb (s.2.2 + 1) L then
  ((C_peak s.1 (sc (ix (s.2.2 + 1)))).bind (fun b1 =>
  (M_peak s.2.1 (sc (ix (s.2.2 + 1)))).bind (fun b2 =>
  if b1 = b2 then some (.inl (s.1, s.2.1, s.2.2 + 6)) else some (.inr 0)))) else none) else
  (if (sc (ix s.2.2) &&& 15) = 8 then
  ((C_nested s.1).bind (fun b1 =>
  (M_nested s.2.1).bind (fun b2 =>
  if b1.1 = b2.1 then some (.inl (b1.2, b2.2, s.2.2 + 6)) else some (.inr 0)))) else
  (if (sc (ix s.2.2) &&& 15) = 9 then
  (if inb (s.2.2 + 1) L then
  ((C_latest s.1 (sc (ix (s.2.2 + 1)))).bind (fun b1 =>
  (M_latest s.2.1 (sc (ix (s.2.2 + 1)))).bind (fun b2 =>
  if lg_cmp b1 b2 = 0 then some (.inl (s.1, s.2.1, s.2.2 + 6)) else some (.inr 0)))) else none) else
  (if (sc (ix s.2.2) &&& 15) = 10 then
  (if inb (s.2.2 + 1) L then
  (if inb (s.2.2 + 2) L then
  ((C_token s.1 (sc (ix (s.2.2 + 1))) (sc (ix (s.2.2 + 2)))).bind (fun b1 =>
  (M_token s.2.1 (sc (ix (s.2.2 + 1))) (sc (ix (s.2.2 + 2)))).bind (fun b2 =>
  if lg_cmp b1 b2 = 0 then some (.inl (s.1, s.2.1, s.2.2 + 6)) else some (.inr 0)))) else none) else none) else
  (if (sc (ix s.2.2) &&& 15) = 11 then
  (if inb (s.2.2 + 1) L then
  ((C_tokens s.1 (sc (ix (s.2.2 + 1)))).bind (fun b1 =>
  (M_tokens s.2.1 (sc (ix (s.2.2 + 1)))).bind (fun b2 =>
  if b1 = b2 then some (.inl (s.1, s.2.1, s.2.2 + 6)) else some (.inr 0)))) else none) else
  (if (sc (ix s.2.2) &&& 15) = 12 then
  (if inb (s.2.2 + 1) L then
  ((C_count s.1 (sc (ix (s.2.2 + 1)))).bind (fun b1 =>
  (M_count s.2.1 (sc (ix (s.2.2 + 1)))).bind (fun b2 =>
  if b1.1 = b2.1 then some (.inl (b1.2, b2.2, s.2.2 + 6)) else some (.inr 0)))) else none) else
  (some (.inl (s.1, s.2.1, s.2.2 + 6)))))))))))))))) else none
/-- what stays along the law's walk -/
def lX (p : Program) (e : Env) (s : State) (m : MethodId) (below : List Frame) (meth : Method) (c : Code) (b : Nat) : CX := (p, e, s, m, #[Value.ref b], below, meth, c, fun q => s.heap.size ≤ q, lw_Z below #[Value.ref b] s)
set_option maxRecDepth 100000 in
set_option maxHeartbeats 4000000 in
theorem law_loop {l : Launch} {D : va_G} {cc : Nat → ClassId} {alC alR : Nat → Nat → Nat} {p : Program} {e : Env} {s0 : State} {m : MethodId} {below : List Frame} {meth : Method} {c : Code} {b L : Nat} {sc : Nat → Int32} (M : Mx D vwCl 4 (lX p e s0 m below meth c b) code R_L TT (tysOf cc) NN) (hX : va_X b L sc s0 s0.heap) (hbl : b < s0.heap.size) (hr : meth.sig.returnType = ret) : ∀ (n : Nat) (s : ST × ST × Int32) (r : Int32), lp (L_body sc L) n s = some r → r = 1 → ∀ h : AH, TW cc alC alR s.1 s.2.1 h → AW l D vwCl room_1 4 (lX p e s0 m below meth c b) lwC lwS h 18 [(0, .ref b), (1, .ref (alC 0 0)), (2, .ref (alR 0 0)), (3, .int s.2.2)] [] := by
  have hbA : ¬ (fun q : Nat => s0.heap.size ≤ q) b := Nat.not_le.mpr hbl
  refine lp_walk (fun (s : ST × ST × Int32) => ∀ h : AH, TW cc alC alR s.1 s.2.1 h → AW l D vwCl room_1 4 (lX p e s0 m below meth c b) lwC lwS h 18 [(0, .ref b), (1, .ref (alC 0 0)), (2, .ref (alR 0 0)), (3, .int s.2.2)] []) (fun (r : Int32) => r = 1) ?_
  intro s y E K1 K2 h hT
  unfold L_body at E
  refine ax_iload_n M d_L_law_18 3 rfl ?_
  refine ax_aload_n M d_L_law_19 0 rfl ?_
  refine ax_slen M hX hbl hbA d_L_law_20 ?_
  refine ax_bipush (v := 6) M d_L_law_21 (by decide) ?_
  refine ax_isub M d_L_law_23 ?_
  refine ax_icmp_gt (tgt := 467) M d_L_law_24 (by decide) (fun c0 => ?_) (fun c0 => ?_)
  · have E := ob_t E c0
    obtain rfl := Option.some.inj E
    refine ax_iconst (v := 1) M d_L_law_467 (by decide) ?_
    exact fun H locs ls hP hS hl => va_forget (fun q hq => hS.2.2 q hq) (W.widen (by decide) (by decide) (lw_ret M.1 M.2.1 hr M.2.2.2.2.2.2.1 d_L_law_468))
  · have E := ob_f E c0
    obtain ⟨k0, E⟩ := ob_c E
    refine ax_aload_n M d_L_law_27 0 rfl ?_
    refine ax_iload_n M d_L_law_28 3 rfl ?_
    refine ax_sld M hX hbl hbA k0 d_L_law_29 ?_
    refine ax_bipush (v := 15) M d_L_law_30 (by decide) ?_
    refine ax_iand M d_L_law_32 ?_
    by_cases w0 : (sc (ix s.2.2) &&& 15) = 0
    · have E := ob_t E w0
      refine ax_tableIn (tgt := 100) M d_L_law_33 (by rw [w0]; decide) (by rw [w0]; decide) (by rw [w0]; rfl) (by decide) ?_
      refine ax_aload_n M d_L_law_100 1 rfl ?_
      refine ax_aload_n M d_L_law_101 0 rfl ?_
      refine ax_iload_n M d_L_law_102 3 rfl ?_
      refine ax_iconst (v := 1) M d_L_law_103 (by decide) ?_
      refine ax_iadd M d_L_law_104 ?_
      obtain ⟨k1, E⟩ := ob_c E
      refine ax_sld M hX hbl hbA k1 d_L_law_105 ?_
      refine ax_aload_n M d_L_law_106 0 rfl ?_
      refine ax_iload_n M d_L_law_107 3 rfl ?_
      refine ax_iconst (v := 2) M d_L_law_108 (by decide) ?_
      refine ax_iadd M d_L_law_109 ?_
      obtain ⟨k2, E⟩ := ob_c E
      refine ax_sld M hX hbl hbA k2 d_L_law_110 ?_
      refine ax_aload_n M d_L_law_111 0 rfl ?_
      refine ax_iload_n M d_L_law_112 3 rfl ?_
      refine ax_iconst (v := 3) M d_L_law_113 (by decide) ?_
      refine ax_iadd M d_L_law_114 ?_
      obtain ⟨k3, E⟩ := ob_c E
      refine ax_sld M hX hbl hbA k3 d_L_law_115 ?_
      obtain ⟨b1, e1, E⟩ := ob_b E
      refine ax_callV (n := 3) (C := R_G) (q := (R_G, F_G, 9)) M TT_good rfl rfl (SW.at hT.1 0 0 (by decide)) (ac_C_actor hT.1 e1) lm_L_13 (by decide) (by decide) rfl rfl (Nat.le_of_ble_eq_true rfl) d_L_law_116 (by decide) (c1 := lwC) (s1 := lwS) (by decide) (ax_ret_i (fun h hG => ?_))
      have hT := tw_c hT hG
      refine ax_aload_n M d_L_law_119 2 rfl ?_
      refine ax_aload_n M d_L_law_120 0 rfl ?_
      refine ax_iload_n M d_L_law_121 3 rfl ?_
      refine ax_iconst (v := 1) M d_L_law_122 (by decide) ?_
      refine ax_iadd M d_L_law_123 ?_
      refine ax_sld M hX hbl hbA k1 d_L_law_124 ?_
      refine ax_aload_n M d_L_law_125 0 rfl ?_
      refine ax_iload_n M d_L_law_126 3 rfl ?_
      refine ax_iconst (v := 2) M d_L_law_127 (by decide) ?_
      refine ax_iadd M d_L_law_128 ?_
      refine ax_sld M hX hbl hbA k2 d_L_law_129 ?_
      refine ax_aload_n M d_L_law_130 0 rfl ?_
      refine ax_iload_n M d_L_law_131 3 rfl ?_
      refine ax_iconst (v := 3) M d_L_law_132 (by decide) ?_
      refine ax_iadd M d_L_law_133 ?_
      refine ax_sld M hX hbl hbA k3 d_L_law_134 ?_
      obtain ⟨b2, e2, E⟩ := ob_b E
      refine ax_callV (n := 3) (C := R_M) (q := (R_M, F_M, 25)) M TT_good rfl rfl (SW.at hT.2.1 0 0 (by decide)) (ac_M_actor hT.2.1 e2) lm_L_17 (by decide) (by decide) rfl rfl (Nat.le_of_ble_eq_true rfl) d_L_law_135 (by decide) (c1 := lwC) (s1 := lwS) (by decide) (ax_ret_i (fun h hG => ?_))
      have hT := tw_m hT hG
      refine ax_icmp_eq (tgt := 461) M d_L_law_138 (by decide) (fun c1 => ?_) (fun c1 => ?_)
      · have E := ob_t E c1
        obtain rfl := Option.some.inj E
        refine ax_iinc (v := s.2.2 + 6) (lv' := [(0, .ref b), (1, .ref (alC 0 0)), (2, .ref (alR 0 0)), (3, .int (s.2.2 + 6))]) M d_L_law_461 3 rfl rfl (by decide) [1, 2, 3, 0] rfl ?_
        refine ax_goto (tgt := 18) M d_L_law_464 (by decide) ?_
        exact K1 _ rfl _ hT
      · have E := ob_f E c1
        obtain rfl := Option.some.inj E
        exact absurd (K2 _ rfl) (by decide)
    · have E := ob_f E w0
      by_cases w1 : (sc (ix s.2.2) &&& 15) = 1
      · have E := ob_t E w1
        refine ax_tableIn (tgt := 143) M d_L_law_33 (by rw [w1]; decide) (by rw [w1]; decide) (by rw [w1]; rfl) (by decide) ?_
        refine ax_aload_n M d_L_law_143 1 rfl ?_
        refine ax_aload_n M d_L_law_144 0 rfl ?_
        refine ax_iload_n M d_L_law_145 3 rfl ?_
        refine ax_iconst (v := 1) M d_L_law_146 (by decide) ?_
        refine ax_iadd M d_L_law_147 ?_
        obtain ⟨k1, E⟩ := ob_c E
        refine ax_sld M hX hbl hbA k1 d_L_law_148 ?_
        refine ax_aload_n M d_L_law_149 0 rfl ?_
        refine ax_iload_n M d_L_law_150 3 rfl ?_
        refine ax_iconst (v := 2) M d_L_law_151 (by decide) ?_
        refine ax_iadd M d_L_law_152 ?_
        obtain ⟨k2, E⟩ := ob_c E
        refine ax_sld M hX hbl hbA k2 d_L_law_153 ?_
        refine ax_aload_n M d_L_law_154 0 rfl ?_
        refine ax_iload_n M d_L_law_155 3 rfl ?_
        refine ax_iconst (v := 3) M d_L_law_156 (by decide) ?_
        refine ax_iadd M d_L_law_157 ?_
        obtain ⟨k3, E⟩ := ob_c E
        refine ax_sld M hX hbl hbA k3 d_L_law_158 ?_
        refine ax_aload_n M d_L_law_159 0 rfl ?_
        refine ax_iload_n M d_L_law_160 3 rfl ?_
        refine ax_iconst (v := 4) M d_L_law_161 (by decide) ?_
        refine ax_iadd M d_L_law_162 ?_
        obtain ⟨k4, E⟩ := ob_c E
        refine ax_sld M hX hbl hbA k4 d_L_law_163 ?_
        refine ax_aload_n M d_L_law_164 0 rfl ?_
        refine ax_iload_n M d_L_law_165 3 rfl ?_
        refine ax_iconst (v := 5) M d_L_law_166 (by decide) ?_
        refine ax_iadd M d_L_law_167 ?_
        obtain ⟨k5, E⟩ := ob_c E
        refine ax_sld M hX hbl hbA k5 d_L_law_168 ?_
        obtain ⟨b1, e1, E⟩ := ob_b E
        refine ax_callV (n := 5) (C := R_G) (q := (R_G, F_G, 9)) M TT_good rfl rfl (SW.at hT.1 0 0 (by decide)) (ac_C_edge hT.1 e1) lm_L_18 (by decide) (by decide) rfl rfl (Nat.le_of_ble_eq_true rfl) d_L_law_169 (by decide) (c1 := lwC) (s1 := lwS) (by decide) (ax_ret_i (fun h hG => ?_))
        have hT := tw_c hT hG
        refine ax_aload_n M d_L_law_172 2 rfl ?_
        refine ax_aload_n M d_L_law_173 0 rfl ?_
        refine ax_iload_n M d_L_law_174 3 rfl ?_
        refine ax_iconst (v := 1) M d_L_law_175 (by decide) ?_
        refine ax_iadd M d_L_law_176 ?_
        refine ax_sld M hX hbl hbA k1 d_L_law_177 ?_
        refine ax_aload_n M d_L_law_178 0 rfl ?_
        refine ax_iload_n M d_L_law_179 3 rfl ?_
        refine ax_iconst (v := 2) M d_L_law_180 (by decide) ?_
        refine ax_iadd M d_L_law_181 ?_
        refine ax_sld M hX hbl hbA k2 d_L_law_182 ?_
        refine ax_aload_n M d_L_law_183 0 rfl ?_
        refine ax_iload_n M d_L_law_184 3 rfl ?_
        refine ax_iconst (v := 3) M d_L_law_185 (by decide) ?_
        refine ax_iadd M d_L_law_186 ?_
        refine ax_sld M hX hbl hbA k3 d_L_law_187 ?_
        refine ax_aload_n M d_L_law_188 0 rfl ?_
        refine ax_iload_n M d_L_law_189 3 rfl ?_
        refine ax_iconst (v := 4) M d_L_law_190 (by decide) ?_
        refine ax_iadd M d_L_law_191 ?_
        refine ax_sld M hX hbl hbA k4 d_L_law_192 ?_
        refine ax_aload_n M d_L_law_193 0 rfl ?_
        refine ax_iload_n M d_L_law_194 3 rfl ?_
        refine ax_iconst (v := 5) M d_L_law_195 (by decide) ?_
        refine ax_iadd M d_L_law_196 ?_
        refine ax_sld M hX hbl hbA k5 d_L_law_197 ?_
        obtain ⟨b2, e2, E⟩ := ob_b E
        refine ax_callV (n := 5) (C := R_M) (q := (R_M, F_M, 25)) M TT_good rfl rfl (SW.at hT.2.1 0 0 (by decide)) (ac_M_edge hT.2.1 e2) lm_L_22 (by decide) (by decide) rfl rfl (Nat.le_of_ble_eq_true rfl) d_L_law_198 (by decide) (c1 := lwC) (s1 := lwS) (by decide) (ax_ret_i (fun h hG => ?_))
        have hT := tw_m hT hG
        refine ax_icmp_eq (tgt := 461) M d_L_law_201 (by decide) (fun c1 => ?_) (fun c1 => ?_)
        · have E := ob_t E c1
          obtain rfl := Option.some.inj E
          refine ax_iinc (v := s.2.2 + 6) (lv' := [(0, .ref b), (1, .ref (alC 0 0)), (2, .ref (alR 0 0)), (3, .int (s.2.2 + 6))]) M d_L_law_461 3 rfl rfl (by decide) [1, 2, 3, 0] rfl ?_
          refine ax_goto (tgt := 18) M d_L_law_464 (by decide) ?_
          exact K1 _ rfl _ hT
        · have E := ob_f E c1
          obtain rfl := Option.some.inj E
          exact absurd (K2 _ rfl) (by decide)
      · have E := ob_f E w1
        by_cases w2 : (sc (ix s.2.2) &&& 15) = 2
        · have E := ob_t E w2
          refine ax_tableIn (tgt := 206) M d_L_law_33 (by rw [w2]; decide) (by rw [w2]; decide) (by rw [w2]; rfl) (by decide) ?_
          refine ax_aload_n M d_L_law_206 1 rfl ?_
          refine ax_aload_n M d_L_law_207 0 rfl ?_
          refine ax_iload_n M d_L_law_208 3 rfl ?_
          refine ax_iconst (v := 1) M d_L_law_209 (by decide) ?_
          refine ax_iadd M d_L_law_210 ?_
          obtain ⟨k1, E⟩ := ob_c E
          refine ax_sld M hX hbl hbA k1 d_L_law_211 ?_
          obtain ⟨b1, e1, E⟩ := ob_b E
          refine ax_callV (n := 1) (C := R_G) (q := (R_G, F_G, 9)) M TT_good rfl rfl (SW.at hT.1 0 0 (by decide)) (ac_C_unedge hT.1 e1) lm_L_23 (by decide) (by decide) rfl rfl (Nat.le_of_ble_eq_true rfl) d_L_law_212 (by decide) (c1 := lwC) (s1 := lwS) (by decide) (ax_ret_i (fun h hG => ?_))
          have hT := tw_c hT hG
          refine ax_aload_n M d_L_law_215 2 rfl ?_
          refine ax_aload_n M d_L_law_216 0 rfl ?_
          refine ax_iload_n M d_L_law_217 3 rfl ?_
          refine ax_iconst (v := 1) M d_L_law_218 (by decide) ?_
          refine ax_iadd M d_L_law_219 ?_
          refine ax_sld M hX hbl hbA k1 d_L_law_220 ?_
          obtain ⟨b2, e2, E⟩ := ob_b E
          refine ax_callV (n := 1) (C := R_M) (q := (R_M, F_M, 25)) M TT_good rfl rfl (SW.at hT.2.1 0 0 (by decide)) (ac_M_unedge hT.2.1 e2) lm_L_27 (by decide) (by decide) rfl rfl (Nat.le_of_ble_eq_true rfl) d_L_law_221 (by decide) (c1 := lwC) (s1 := lwS) (by decide) (ax_ret_i (fun h hG => ?_))
          have hT := tw_m hT hG
          refine ax_icmp_eq (tgt := 461) M d_L_law_224 (by decide) (fun c1 => ?_) (fun c1 => ?_)
          · have E := ob_t E c1
            obtain rfl := Option.some.inj E
            refine ax_iinc (v := s.2.2 + 6) (lv' := [(0, .ref b), (1, .ref (alC 0 0)), (2, .ref (alR 0 0)), (3, .int (s.2.2 + 6))]) M d_L_law_461 3 rfl rfl (by decide) [1, 2, 3, 0] rfl ?_
            refine ax_goto (tgt := 18) M d_L_law_464 (by decide) ?_
            exact K1 _ rfl _ hT
          · have E := ob_f E c1
            obtain rfl := Option.some.inj E
            exact absurd (K2 _ rfl) (by decide)
        · have E := ob_f E w2
          by_cases w3 : (sc (ix s.2.2) &&& 15) = 3
          · have E := ob_t E w3
            refine ax_tableIn (tgt := 229) M d_L_law_33 (by rw [w3]; decide) (by rw [w3]; decide) (by rw [w3]; rfl) (by decide) ?_
            refine ax_aload_n M d_L_law_229 1 rfl ?_
            refine ax_aload_n M d_L_law_230 0 rfl ?_
            refine ax_iload_n M d_L_law_231 3 rfl ?_
            refine ax_iconst (v := 1) M d_L_law_232 (by decide) ?_
            refine ax_iadd M d_L_law_233 ?_
            obtain ⟨k1, E⟩ := ob_c E
            refine ax_sld M hX hbl hbA k1 d_L_law_234 ?_
            obtain ⟨b1, e1, E⟩ := ob_b E
            refine ax_callV (n := 1) (C := R_G) (q := (R_G, F_G, 9)) M TT_good rfl rfl (SW.at hT.1 0 0 (by decide)) (ac_C_solve hT.1 e1) lm_L_28 (by decide) (by decide) rfl rfl (Nat.le_of_ble_eq_true rfl) d_L_law_235 (by decide) (c1 := lwC) (s1 := lwS) (by decide) (ax_ret_i (fun h hG => ?_))
            have hT := tw_c hT hG
            refine ax_aload_n M d_L_law_238 2 rfl ?_
            refine ax_aload_n M d_L_law_239 0 rfl ?_
            refine ax_iload_n M d_L_law_240 3 rfl ?_
            refine ax_iconst (v := 1) M d_L_law_241 (by decide) ?_
            refine ax_iadd M d_L_law_242 ?_
            refine ax_sld M hX hbl hbA k1 d_L_law_243 ?_
            obtain ⟨b2, e2, E⟩ := ob_b E
            refine ax_callV (n := 1) (C := R_M) (q := (R_M, F_M, 25)) M TT_good rfl rfl (SW.at hT.2.1 0 0 (by decide)) (ac_M_solve hT.2.1 e2) lm_L_31 (by decide) (by decide) rfl rfl (Nat.le_of_ble_eq_true rfl) d_L_law_244 (by decide) (c1 := lwC) (s1 := lwS) (by decide) (ax_ret_i (fun h hG => ?_))
            have hT := tw_m hT hG
            refine ax_icmp_eq (tgt := 461) M d_L_law_247 (by decide) (fun c1 => ?_) (fun c1 => ?_)
            · have E := ob_t E c1
              obtain rfl := Option.some.inj E
              refine ax_iinc (v := s.2.2 + 6) (lv' := [(0, .ref b), (1, .ref (alC 0 0)), (2, .ref (alR 0 0)), (3, .int (s.2.2 + 6))]) M d_L_law_461 3 rfl rfl (by decide) [1, 2, 3, 0] rfl ?_
              refine ax_goto (tgt := 18) M d_L_law_464 (by decide) ?_
              exact K1 _ rfl _ hT
            · have E := ob_f E c1
              obtain rfl := Option.some.inj E
              exact absurd (K2 _ rfl) (by decide)
          · have E := ob_f E w3
            by_cases w4 : (sc (ix s.2.2) &&& 15) = 4
            · have E := ob_t E w4
              refine ax_tableIn (tgt := 252) M d_L_law_33 (by rw [w4]; decide) (by rw [w4]; decide) (by rw [w4]; rfl) (by decide) ?_
              refine ax_aload_n M d_L_law_252 1 rfl ?_
              refine ax_aload_n M d_L_law_253 0 rfl ?_
              refine ax_iload_n M d_L_law_254 3 rfl ?_
              refine ax_iconst (v := 1) M d_L_law_255 (by decide) ?_
              refine ax_iadd M d_L_law_256 ?_
              obtain ⟨k1, E⟩ := ob_c E
              refine ax_sld M hX hbl hbA k1 d_L_law_257 ?_
              obtain ⟨b1, e1, E⟩ := ob_b E
              refine ax_callV (n := 1) (C := R_G) (q := (R_G, F_G, 9)) M TT_good rfl rfl (SW.at hT.1 0 0 (by decide)) (ac_C_run hT.1 e1) lm_L_32 (by decide) (by decide) rfl rfl (Nat.le_of_ble_eq_true rfl) d_L_law_258 (by decide) (c1 := lwC) (s1 := lwS) (by decide) (ax_ret_i (fun h hG => ?_))
              have hT := tw_c hT hG
              refine ax_aload_n M d_L_law_261 2 rfl ?_
              refine ax_aload_n M d_L_law_262 0 rfl ?_
              refine ax_iload_n M d_L_law_263 3 rfl ?_
              refine ax_iconst (v := 1) M d_L_law_264 (by decide) ?_
              refine ax_iadd M d_L_law_265 ?_
              refine ax_sld M hX hbl hbA k1 d_L_law_266 ?_
              obtain ⟨b2, e2, E⟩ := ob_b E
              refine ax_callV (n := 1) (C := R_M) (q := (R_M, F_M, 25)) M TT_good rfl rfl (SW.at hT.2.1 0 0 (by decide)) (ac_M_run hT.2.1 e2) lm_L_35 (by decide) (by decide) rfl rfl (Nat.le_of_ble_eq_true rfl) d_L_law_267 (by decide) (c1 := lwC) (s1 := lwS) (by decide) (ax_ret_i (fun h hG => ?_))
              have hT := tw_m hT hG
              refine ax_icmp_eq (tgt := 461) M d_L_law_270 (by decide) (fun c1 => ?_) (fun c1 => ?_)
              · have E := ob_t E c1
                obtain rfl := Option.some.inj E
                refine ax_iinc (v := s.2.2 + 6) (lv' := [(0, .ref b), (1, .ref (alC 0 0)), (2, .ref (alR 0 0)), (3, .int (s.2.2 + 6))]) M d_L_law_461 3 rfl rfl (by decide) [1, 2, 3, 0] rfl ?_
                refine ax_goto (tgt := 18) M d_L_law_464 (by decide) ?_
                exact K1 _ rfl _ hT
              · have E := ob_f E c1
                obtain rfl := Option.some.inj E
                exact absurd (K2 _ rfl) (by decide)
            · have E := ob_f E w4
              by_cases w5 : (sc (ix s.2.2) &&& 15) = 5
              · have E := ob_t E w5
                refine ax_tableIn (tgt := 275) M d_L_law_33 (by rw [w5]; decide) (by rw [w5]; decide) (by rw [w5]; rfl) (by decide) ?_
                refine ax_aload_n M d_L_law_275 1 rfl ?_
                refine ax_aload_n M d_L_law_276 0 rfl ?_
                refine ax_iload_n M d_L_law_277 3 rfl ?_
                refine ax_iconst (v := 1) M d_L_law_278 (by decide) ?_
                refine ax_iadd M d_L_law_279 ?_
                obtain ⟨k1, E⟩ := ob_c E
                refine ax_sld M hX hbl hbA k1 d_L_law_280 ?_
                obtain ⟨b1, e1, E⟩ := ob_b E
                refine ax_callV (n := 1) (C := R_G) (q := (R_G, F_G, 9)) M TT_good rfl rfl (SW.at hT.1 0 0 (by decide)) (ac_C_repetitions hT.1 e1) lm_L_36 (by decide) (by decide) rfl rfl (Nat.le_of_ble_eq_true rfl) d_L_law_281 (by decide) (c1 := lwC) (s1 := lwS) (by decide) (ax_ret_i (fun h hG => ?_))
                have hT := tw_c hT hG
                refine ax_aload_n M d_L_law_284 2 rfl ?_
                refine ax_aload_n M d_L_law_285 0 rfl ?_
                refine ax_iload_n M d_L_law_286 3 rfl ?_
                refine ax_iconst (v := 1) M d_L_law_287 (by decide) ?_
                refine ax_iadd M d_L_law_288 ?_
                refine ax_sld M hX hbl hbA k1 d_L_law_289 ?_
                obtain ⟨b2, e2, E⟩ := ob_b E
                refine ax_callV (n := 1) (C := R_M) (q := (R_M, F_M, 25)) M TT_good rfl rfl (SW.at hT.2.1 0 0 (by decide)) (ac_M_repetitions hT.2.1 e2) lm_L_39 (by decide) (by decide) rfl rfl (Nat.le_of_ble_eq_true rfl) d_L_law_290 (by decide) (c1 := lwC) (s1 := lwS) (by decide) (ax_ret_i (fun h hG => ?_))
                have hT := tw_m hT hG
                refine ax_icmp_eq (tgt := 461) M d_L_law_293 (by decide) (fun c1 => ?_) (fun c1 => ?_)
                · have E := ob_t E c1
                  obtain rfl := Option.some.inj E
                  refine ax_iinc (v := s.2.2 + 6) (lv' := [(0, .ref b), (1, .ref (alC 0 0)), (2, .ref (alR 0 0)), (3, .int (s.2.2 + 6))]) M d_L_law_461 3 rfl rfl (by decide) [1, 2, 3, 0] rfl ?_
                  refine ax_goto (tgt := 18) M d_L_law_464 (by decide) ?_
                  exact K1 _ rfl _ hT
                · have E := ob_f E c1
                  obtain rfl := Option.some.inj E
                  exact absurd (K2 _ rfl) (by decide)
              · have E := ob_f E w5
                by_cases w6 : (sc (ix s.2.2) &&& 15) = 6
                · have E := ob_t E w6
                  refine ax_tableIn (tgt := 298) M d_L_law_33 (by rw [w6]; decide) (by rw [w6]; decide) (by rw [w6]; rfl) (by decide) ?_
                  refine ax_aload_n M d_L_law_298 1 rfl ?_
                  refine ax_aload_n M d_L_law_299 0 rfl ?_
                  refine ax_iload_n M d_L_law_300 3 rfl ?_
                  refine ax_iconst (v := 1) M d_L_law_301 (by decide) ?_
                  refine ax_iadd M d_L_law_302 ?_
                  obtain ⟨k1, E⟩ := ob_c E
                  refine ax_sld M hX hbl hbA k1 d_L_law_303 ?_
                  obtain ⟨b1, e1, E⟩ := ob_b E
                  refine ax_callV (n := 1) (C := R_G) (q := (R_G, F_G, 9)) M TT_good rfl rfl (SW.at hT.1 0 0 (by decide)) (ac_C_schedule hT.1 e1) lm_L_40 (by decide) (by decide) rfl rfl (Nat.le_of_ble_eq_true rfl) d_L_law_304 (by decide) (c1 := lwC) (s1 := lwS) (by decide) (ax_ret_i (fun h hG => ?_))
                  have hT := tw_c hT hG
                  refine ax_aload_n M d_L_law_307 2 rfl ?_
                  refine ax_aload_n M d_L_law_308 0 rfl ?_
                  refine ax_iload_n M d_L_law_309 3 rfl ?_
                  refine ax_iconst (v := 1) M d_L_law_310 (by decide) ?_
                  refine ax_iadd M d_L_law_311 ?_
                  refine ax_sld M hX hbl hbA k1 d_L_law_312 ?_
                  obtain ⟨b2, e2, E⟩ := ob_b E
                  refine ax_callV (n := 1) (C := R_M) (q := (R_M, F_M, 25)) M TT_good rfl rfl (SW.at hT.2.1 0 0 (by decide)) (ac_M_schedule hT.2.1 e2) lm_L_43 (by decide) (by decide) rfl rfl (Nat.le_of_ble_eq_true rfl) d_L_law_313 (by decide) (c1 := lwC) (s1 := lwS) (by decide) (ax_ret_i (fun h hG => ?_))
                  have hT := tw_m hT hG
                  refine ax_icmp_eq (tgt := 461) M d_L_law_316 (by decide) (fun c1 => ?_) (fun c1 => ?_)
                  · have E := ob_t E c1
                    obtain rfl := Option.some.inj E
                    refine ax_iinc (v := s.2.2 + 6) (lv' := [(0, .ref b), (1, .ref (alC 0 0)), (2, .ref (alR 0 0)), (3, .int (s.2.2 + 6))]) M d_L_law_461 3 rfl rfl (by decide) [1, 2, 3, 0] rfl ?_
                    refine ax_goto (tgt := 18) M d_L_law_464 (by decide) ?_
                    exact K1 _ rfl _ hT
                  · have E := ob_f E c1
                    obtain rfl := Option.some.inj E
                    exact absurd (K2 _ rfl) (by decide)
                · have E := ob_f E w6
                  by_cases w7 : (sc (ix s.2.2) &&& 15) = 7
                  · have E := ob_t E w7
                    refine ax_tableIn (tgt := 321) M d_L_law_33 (by rw [w7]; decide) (by rw [w7]; decide) (by rw [w7]; rfl) (by decide) ?_
                    refine ax_aload_n M d_L_law_321 1 rfl ?_
                    refine ax_aload_n M d_L_law_322 0 rfl ?_
                    refine ax_iload_n M d_L_law_323 3 rfl ?_
                    refine ax_iconst (v := 1) M d_L_law_324 (by decide) ?_
                    refine ax_iadd M d_L_law_325 ?_
                    obtain ⟨k1, E⟩ := ob_c E
                    refine ax_sld M hX hbl hbA k1 d_L_law_326 ?_
                    obtain ⟨b1, e1, E⟩ := ob_b E
                    refine ax_callV (n := 1) (C := R_G) (q := (R_G, F_G, 9)) M TT_good rfl rfl (SW.at hT.1 0 0 (by decide)) (ac_C_peak hT.1 e1) lm_L_44 (by decide) (by decide) rfl rfl (Nat.le_of_ble_eq_true rfl) d_L_law_327 (by decide) (c1 := lwC) (s1 := lwS) (by decide) (ax_ret_i (fun h hG => ?_))
                    have hT := tw_c hT hG
                    refine ax_aload_n M d_L_law_330 2 rfl ?_
                    refine ax_aload_n M d_L_law_331 0 rfl ?_
                    refine ax_iload_n M d_L_law_332 3 rfl ?_
                    refine ax_iconst (v := 1) M d_L_law_333 (by decide) ?_
                    refine ax_iadd M d_L_law_334 ?_
                    refine ax_sld M hX hbl hbA k1 d_L_law_335 ?_
                    obtain ⟨b2, e2, E⟩ := ob_b E
                    refine ax_callV (n := 1) (C := R_M) (q := (R_M, F_M, 25)) M TT_good rfl rfl (SW.at hT.2.1 0 0 (by decide)) (ac_M_peak hT.2.1 e2) lm_L_47 (by decide) (by decide) rfl rfl (Nat.le_of_ble_eq_true rfl) d_L_law_336 (by decide) (c1 := lwC) (s1 := lwS) (by decide) (ax_ret_i (fun h hG => ?_))
                    have hT := tw_m hT hG
                    refine ax_icmp_eq (tgt := 461) M d_L_law_339 (by decide) (fun c1 => ?_) (fun c1 => ?_)
                    · have E := ob_t E c1
                      obtain rfl := Option.some.inj E
                      refine ax_iinc (v := s.2.2 + 6) (lv' := [(0, .ref b), (1, .ref (alC 0 0)), (2, .ref (alR 0 0)), (3, .int (s.2.2 + 6))]) M d_L_law_461 3 rfl rfl (by decide) [1, 2, 3, 0] rfl ?_
                      refine ax_goto (tgt := 18) M d_L_law_464 (by decide) ?_
                      exact K1 _ rfl _ hT
                    · have E := ob_f E c1
                      obtain rfl := Option.some.inj E
                      exact absurd (K2 _ rfl) (by decide)
                  · have E := ob_f E w7
                    by_cases w8 : (sc (ix s.2.2) &&& 15) = 8
                    · have E := ob_t E w8
                      refine ax_tableIn (tgt := 344) M d_L_law_33 (by rw [w8]; decide) (by rw [w8]; decide) (by rw [w8]; rfl) (by decide) ?_
                      refine ax_aload_n M d_L_law_344 1 rfl ?_
                      obtain ⟨b1, e1, E⟩ := ob_b E
                      refine ax_callV (n := 0) (C := R_G) (q := (R_G, F_G, 9)) M TT_good rfl rfl (SW.at hT.1 0 0 (by decide)) (ac_C_nested hT.1 e1) lm_L_48 (by decide) (by decide) rfl rfl (Nat.le_of_ble_eq_true rfl) d_L_law_345 (by decide) (c1 := lwC) (s1 := lwS) (by decide) (ax_ret_i (fun h hG => ?_))
                      have hT := tw_c hT hG
                      refine ax_aload_n M d_L_law_348 2 rfl ?_
                      obtain ⟨b2, e2, E⟩ := ob_b E
                      refine ax_callV (n := 0) (C := R_M) (q := (R_M, F_M, 25)) M TT_good rfl rfl (SW.at hT.2.1 0 0 (by decide)) (ac_M_nested hT.2.1 e2) lm_L_52 (by decide) (by decide) rfl rfl (Nat.le_of_ble_eq_true rfl) d_L_law_349 (by decide) (c1 := lwC) (s1 := lwS) (by decide) (ax_ret_i (fun h hG => ?_))
                      have hT := tw_m hT hG
                      refine ax_icmp_eq (tgt := 461) M d_L_law_352 (by decide) (fun c1 => ?_) (fun c1 => ?_)
                      · have E := ob_t E c1
                        obtain rfl := Option.some.inj E
                        refine ax_iinc (v := s.2.2 + 6) (lv' := [(0, .ref b), (1, .ref (alC 0 0)), (2, .ref (alR 0 0)), (3, .int (s.2.2 + 6))]) M d_L_law_461 3 rfl rfl (by decide) [1, 2, 3, 0] rfl ?_
                        refine ax_goto (tgt := 18) M d_L_law_464 (by decide) ?_
                        exact K1 _ rfl _ hT
                      · have E := ob_f E c1
                        obtain rfl := Option.some.inj E
                        exact absurd (K2 _ rfl) (by decide)
                    · have E := ob_f E w8
                      by_cases w9 : (sc (ix s.2.2) &&& 15) = 9
                      · have E := ob_t E w9
                        refine ax_tableIn (tgt := 357) M d_L_law_33 (by rw [w9]; decide) (by rw [w9]; decide) (by rw [w9]; rfl) (by decide) ?_
                        refine ax_aload_n M d_L_law_357 1 rfl ?_
                        refine ax_aload_n M d_L_law_358 0 rfl ?_
                        refine ax_iload_n M d_L_law_359 3 rfl ?_
                        refine ax_iconst (v := 1) M d_L_law_360 (by decide) ?_
                        refine ax_iadd M d_L_law_361 ?_
                        obtain ⟨k1, E⟩ := ob_c E
                        refine ax_sld M hX hbl hbA k1 d_L_law_362 ?_
                        obtain ⟨b1, e1, E⟩ := ob_b E
                        refine ax_callV (n := 1) (C := R_G) (q := (R_G, F_G, 9)) M TT_good rfl rfl (SW.at hT.1 0 0 (by decide)) (ac_C_latest hT.1 e1) lm_L_53 (by decide) (by decide) rfl rfl (Nat.le_of_ble_eq_true rfl) d_L_law_363 (by decide) (c1 := lwC) (s1 := lwS) (by decide) (ax_ret_l (fun h hG => ?_))
                        have hT := tw_c hT hG
                        refine ax_aload_n M d_L_law_366 2 rfl ?_
                        refine ax_aload_n M d_L_law_367 0 rfl ?_
                        refine ax_iload_n M d_L_law_368 3 rfl ?_
                        refine ax_iconst (v := 1) M d_L_law_369 (by decide) ?_
                        refine ax_iadd M d_L_law_370 ?_
                        refine ax_sld M hX hbl hbA k1 d_L_law_371 ?_
                        obtain ⟨b2, e2, E⟩ := ob_b E
                        refine ax_callV (n := 1) (C := R_M) (q := (R_M, F_M, 25)) M TT_good rfl rfl (SW.at hT.2.1 0 0 (by decide)) (ac_M_latest hT.2.1 e2) lm_L_57 (by decide) (by decide) rfl rfl (Nat.le_of_ble_eq_true rfl) d_L_law_372 (by decide) (c1 := lwC) (s1 := lwS) (by decide) (ax_ret_l (fun h hG => ?_))
                        have hT := tw_m hT hG
                        refine ax_lcmp M d_L_law_375 ?_
                        refine ax_if_eq (tgt := 461) M d_L_law_376 (by decide) (fun c1 => ?_) (fun c1 => ?_)
                        · have E := ob_t E c1
                          obtain rfl := Option.some.inj E
                          refine ax_iinc (v := s.2.2 + 6) (lv' := [(0, .ref b), (1, .ref (alC 0 0)), (2, .ref (alR 0 0)), (3, .int (s.2.2 + 6))]) M d_L_law_461 3 rfl rfl (by decide) [1, 2, 3, 0] rfl ?_
                          refine ax_goto (tgt := 18) M d_L_law_464 (by decide) ?_
                          exact K1 _ rfl _ hT
                        · have E := ob_f E c1
                          obtain rfl := Option.some.inj E
                          exact absurd (K2 _ rfl) (by decide)
                      · have E := ob_f E w9
                        by_cases w10 : (sc (ix s.2.2) &&& 15) = 10
                        · have E := ob_t E w10
                          refine ax_tableIn (tgt := 381) M d_L_law_33 (by rw [w10]; decide) (by rw [w10]; decide) (by rw [w10]; rfl) (by decide) ?_
                          refine ax_aload_n M d_L_law_381 1 rfl ?_
                          refine ax_aload_n M d_L_law_382 0 rfl ?_
                          refine ax_iload_n M d_L_law_383 3 rfl ?_
                          refine ax_iconst (v := 1) M d_L_law_384 (by decide) ?_
                          refine ax_iadd M d_L_law_385 ?_
                          obtain ⟨k1, E⟩ := ob_c E
                          refine ax_sld M hX hbl hbA k1 d_L_law_386 ?_
                          refine ax_aload_n M d_L_law_387 0 rfl ?_
                          refine ax_iload_n M d_L_law_388 3 rfl ?_
                          refine ax_iconst (v := 2) M d_L_law_389 (by decide) ?_
                          refine ax_iadd M d_L_law_390 ?_
                          obtain ⟨k2, E⟩ := ob_c E
                          refine ax_sld M hX hbl hbA k2 d_L_law_391 ?_
                          obtain ⟨b1, e1, E⟩ := ob_b E
                          refine ax_callV (n := 2) (C := R_G) (q := (R_G, F_G, 9)) M TT_good rfl rfl (SW.at hT.1 0 0 (by decide)) (ac_C_token hT.1 e1) lm_L_58 (by decide) (by decide) rfl rfl (Nat.le_of_ble_eq_true rfl) d_L_law_392 (by decide) (c1 := lwC) (s1 := lwS) (by decide) (ax_ret_l (fun h hG => ?_))
                          have hT := tw_c hT hG
                          refine ax_aload_n M d_L_law_395 2 rfl ?_
                          refine ax_aload_n M d_L_law_396 0 rfl ?_
                          refine ax_iload_n M d_L_law_397 3 rfl ?_
                          refine ax_iconst (v := 1) M d_L_law_398 (by decide) ?_
                          refine ax_iadd M d_L_law_399 ?_
                          refine ax_sld M hX hbl hbA k1 d_L_law_400 ?_
                          refine ax_aload_n M d_L_law_401 0 rfl ?_
                          refine ax_iload_n M d_L_law_402 3 rfl ?_
                          refine ax_iconst (v := 2) M d_L_law_403 (by decide) ?_
                          refine ax_iadd M d_L_law_404 ?_
                          refine ax_sld M hX hbl hbA k2 d_L_law_405 ?_
                          obtain ⟨b2, e2, E⟩ := ob_b E
                          refine ax_callV (n := 2) (C := R_M) (q := (R_M, F_M, 25)) M TT_good rfl rfl (SW.at hT.2.1 0 0 (by decide)) (ac_M_token hT.2.1 e2) lm_L_62 (by decide) (by decide) rfl rfl (Nat.le_of_ble_eq_true rfl) d_L_law_406 (by decide) (c1 := lwC) (s1 := lwS) (by decide) (ax_ret_l (fun h hG => ?_))
                          have hT := tw_m hT hG
                          refine ax_lcmp M d_L_law_409 ?_
                          refine ax_if_eq (tgt := 461) M d_L_law_410 (by decide) (fun c1 => ?_) (fun c1 => ?_)
                          · have E := ob_t E c1
                            obtain rfl := Option.some.inj E
                            refine ax_iinc (v := s.2.2 + 6) (lv' := [(0, .ref b), (1, .ref (alC 0 0)), (2, .ref (alR 0 0)), (3, .int (s.2.2 + 6))]) M d_L_law_461 3 rfl rfl (by decide) [1, 2, 3, 0] rfl ?_
                            refine ax_goto (tgt := 18) M d_L_law_464 (by decide) ?_
                            exact K1 _ rfl _ hT
                          · have E := ob_f E c1
                            obtain rfl := Option.some.inj E
                            exact absurd (K2 _ rfl) (by decide)
                        · have E := ob_f E w10
                          by_cases w11 : (sc (ix s.2.2) &&& 15) = 11
                          · have E := ob_t E w11
                            refine ax_tableIn (tgt := 415) M d_L_law_33 (by rw [w11]; decide) (by rw [w11]; decide) (by rw [w11]; rfl) (by decide) ?_
                            refine ax_aload_n M d_L_law_415 1 rfl ?_
                            refine ax_aload_n M d_L_law_416 0 rfl ?_
                            refine ax_iload_n M d_L_law_417 3 rfl ?_
                            refine ax_iconst (v := 1) M d_L_law_418 (by decide) ?_
                            refine ax_iadd M d_L_law_419 ?_
                            obtain ⟨k1, E⟩ := ob_c E
                            refine ax_sld M hX hbl hbA k1 d_L_law_420 ?_
                            obtain ⟨b1, e1, E⟩ := ob_b E
                            refine ax_callV (n := 1) (C := R_G) (q := (R_G, F_G, 9)) M TT_good rfl rfl (SW.at hT.1 0 0 (by decide)) (ac_C_tokens hT.1 e1) lm_L_63 (by decide) (by decide) rfl rfl (Nat.le_of_ble_eq_true rfl) d_L_law_421 (by decide) (c1 := lwC) (s1 := lwS) (by decide) (ax_ret_i (fun h hG => ?_))
                            have hT := tw_c hT hG
                            refine ax_aload_n M d_L_law_424 2 rfl ?_
                            refine ax_aload_n M d_L_law_425 0 rfl ?_
                            refine ax_iload_n M d_L_law_426 3 rfl ?_
                            refine ax_iconst (v := 1) M d_L_law_427 (by decide) ?_
                            refine ax_iadd M d_L_law_428 ?_
                            refine ax_sld M hX hbl hbA k1 d_L_law_429 ?_
                            obtain ⟨b2, e2, E⟩ := ob_b E
                            refine ax_callV (n := 1) (C := R_M) (q := (R_M, F_M, 25)) M TT_good rfl rfl (SW.at hT.2.1 0 0 (by decide)) (ac_M_tokens hT.2.1 e2) lm_L_66 (by decide) (by decide) rfl rfl (Nat.le_of_ble_eq_true rfl) d_L_law_430 (by decide) (c1 := lwC) (s1 := lwS) (by decide) (ax_ret_i (fun h hG => ?_))
                            have hT := tw_m hT hG
                            refine ax_icmp_eq (tgt := 461) M d_L_law_433 (by decide) (fun c1 => ?_) (fun c1 => ?_)
                            · have E := ob_t E c1
                              obtain rfl := Option.some.inj E
                              refine ax_iinc (v := s.2.2 + 6) (lv' := [(0, .ref b), (1, .ref (alC 0 0)), (2, .ref (alR 0 0)), (3, .int (s.2.2 + 6))]) M d_L_law_461 3 rfl rfl (by decide) [1, 2, 3, 0] rfl ?_
                              refine ax_goto (tgt := 18) M d_L_law_464 (by decide) ?_
                              exact K1 _ rfl _ hT
                            · have E := ob_f E c1
                              obtain rfl := Option.some.inj E
                              exact absurd (K2 _ rfl) (by decide)
                          · have E := ob_f E w11
                            by_cases w12 : (sc (ix s.2.2) &&& 15) = 12
                            · have E := ob_t E w12
                              refine ax_tableIn (tgt := 438) M d_L_law_33 (by rw [w12]; decide) (by rw [w12]; decide) (by rw [w12]; rfl) (by decide) ?_
                              refine ax_aload_n M d_L_law_438 1 rfl ?_
                              refine ax_aload_n M d_L_law_439 0 rfl ?_
                              refine ax_iload_n M d_L_law_440 3 rfl ?_
                              refine ax_iconst (v := 1) M d_L_law_441 (by decide) ?_
                              refine ax_iadd M d_L_law_442 ?_
                              obtain ⟨k1, E⟩ := ob_c E
                              refine ax_sld M hX hbl hbA k1 d_L_law_443 ?_
                              obtain ⟨b1, e1, E⟩ := ob_b E
                              refine ax_callV (n := 1) (C := R_G) (q := (R_G, F_G, 9)) M TT_good rfl rfl (SW.at hT.1 0 0 (by decide)) (ac_C_count hT.1 e1) lm_L_67 (by decide) (by decide) rfl rfl (Nat.le_of_ble_eq_true rfl) d_L_law_444 (by decide) (c1 := lwC) (s1 := lwS) (by decide) (ax_ret_i (fun h hG => ?_))
                              have hT := tw_c hT hG
                              refine ax_aload_n M d_L_law_447 2 rfl ?_
                              refine ax_aload_n M d_L_law_448 0 rfl ?_
                              refine ax_iload_n M d_L_law_449 3 rfl ?_
                              refine ax_iconst (v := 1) M d_L_law_450 (by decide) ?_
                              refine ax_iadd M d_L_law_451 ?_
                              refine ax_sld M hX hbl hbA k1 d_L_law_452 ?_
                              obtain ⟨b2, e2, E⟩ := ob_b E
                              refine ax_callV (n := 1) (C := R_M) (q := (R_M, F_M, 25)) M TT_good rfl rfl (SW.at hT.2.1 0 0 (by decide)) (ac_M_count hT.2.1 e2) lm_L_70 (by decide) (by decide) rfl rfl (Nat.le_of_ble_eq_true rfl) d_L_law_453 (by decide) (c1 := lwC) (s1 := lwS) (by decide) (ax_ret_i (fun h hG => ?_))
                              have hT := tw_m hT hG
                              refine ax_icmp_eq (tgt := 461) M d_L_law_456 (by decide) (fun c1 => ?_) (fun c1 => ?_)
                              · have E := ob_t E c1
                                obtain rfl := Option.some.inj E
                                refine ax_iinc (v := s.2.2 + 6) (lv' := [(0, .ref b), (1, .ref (alC 0 0)), (2, .ref (alR 0 0)), (3, .int (s.2.2 + 6))]) M d_L_law_461 3 rfl rfl (by decide) [1, 2, 3, 0] rfl ?_
                                refine ax_goto (tgt := 18) M d_L_law_464 (by decide) ?_
                                exact K1 _ rfl _ hT
                              · have E := ob_f E c1
                                obtain rfl := Option.some.inj E
                                exact absurd (K2 _ rfl) (by decide)
                            · have E := ob_f E w12
                              refine ax_tableOut (tgt := 461) M d_L_law_33 (so_0_12 w0 w1 w2 w3 w4 w5 w6 w7 w8 w9 w10 w11 w12) (by decide) ?_
                              obtain rfl := Option.some.inj E
                              refine ax_iinc (v := s.2.2 + 6) (lv' := [(0, .ref b), (1, .ref (alC 0 0)), (2, .ref (alR 0 0)), (3, .int (s.2.2 + 6))]) M d_L_law_461 3 rfl rfl (by decide) [1, 2, 3, 0] rfl ?_
                              refine ax_goto (tgt := 18) M d_L_law_464 (by decide) ?_
                              exact K1 _ rfl _ hT
