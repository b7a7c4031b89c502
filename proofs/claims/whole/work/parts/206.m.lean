def M_tokens (σ : ST) (x1 : Int32) : Option (Int32) :=
  if x1 < 0 then
  (some (-1)) else
  (if x1 < (gi σ 0 0 8) then
  (if (gi σ 0 0 9) = 0 then
  (some (-4)) else
  (if inb x1 12 then 
  (some (gi σ 22 0 (ix x1))) else none)) else
  (some (-1)))
abbrev rm_M_tokens : Room := { frames := 0, cells := 0, slots := 0, locals := 0 }
set_option maxRecDepth 100000 in
set_option maxHeartbeats 4000000 in
theorem ac_M_tokens {l : Launch} {D : va_G} {cc : Nat → ClassId} {al : Nat → Nat → Nat} {σ : ST} {h0 h : AH} {x1 : Int32} {res : Int32}  (hG : SW dmM (cfM cc) al σ h0 h) (E : M_tokens σ x1 = some res) : AC l D vwCl (tysOf cc) NN y_M_tokens (Cond.code y_M_tokens b_M_tokens 2 (some .int) :: TT) rm_M_tokens [.ref (al 0 0), .int x1] h (fun rv h' => rv = some (.int res) ∧ SW dmM (cfM cc) al σ h0 h') := by
  refine AC.of (by decide) rfl (Nat.le_of_ble_eq_true rfl) (fun X M hR hI => ?_)
  unfold M_tokens at E
  refine ax_lv (lv' := [(0, .ref (al 0 0)), (1, .int x1)]) [0, 1] rfl ?_
  refine ax_iload_n M d_M_tokens_0 1 rfl ?_
  refine ax_if_lt (tgt := 12) M d_M_tokens_1 (by decide) (fun c1 => ?_) (fun c1 => ?_)
  · have E := ob_t E c1
    refine ax_iconst (v := (-1)) M d_M_tokens_12 (by decide) ?_
    obtain rfl := Option.some.inj E
    exact ax_iret M hR (by decide) (by decide) d_M_tokens_13 ⟨rfl, hG⟩
  · have E := ob_f E c1
    refine ax_iload_n M d_M_tokens_4 1 rfl ?_
    refine ax_aload_n M d_M_tokens_5 0 rfl ?_
    refine sw_get M hG 0 0 (by decide) in_M rfl rfl 8 (by decide) wd_412 rfl d_M_tokens_6 ?_
    refine ax_icmp_lt (tgt := 14) M d_M_tokens_9 (by decide) (fun c2 => ?_) (fun c2 => ?_)
    · have E := ob_t E c2
      refine ax_aload_n M d_M_tokens_14 0 rfl ?_
      refine sw_get M hG 0 0 (by decide) in_M rfl rfl 9 (by decide) wd_413 rfl d_M_tokens_15 ?_
      refine ax_if_eq (tgt := 30) M d_M_tokens_18 (by decide) (fun c3 => ?_) (fun c3 => ?_)
      · have E := ob_t E c3
        refine ax_bipush (v := -4) M d_M_tokens_30 (by decide) ?_
        obtain rfl := Option.some.inj E
        exact ax_iret M hR (by decide) (by decide) d_M_tokens_32 ⟨rfl, hG⟩
      · have E := ob_f E c3
        refine ax_aload_n M d_M_tokens_21 0 rfl ?_
        refine sw_get M hG 0 0 (by decide) in_M rfl rfl 21 (by decide) wd_425 rfl d_M_tokens_22 ?_
        refine ax_iload_n M d_M_tokens_25 1 rfl ?_
        obtain ⟨k1, E⟩ := ob_c E
        refine sw_iald M hG 22 0 (by decide) rfl 0 rfl k1 d_M_tokens_26 ?_
        refine ax_goto (tgt := 32) M d_M_tokens_27 (by decide) ?_
        obtain rfl := Option.some.inj E
        exact ax_iret M hR (by decide) (by decide) d_M_tokens_32 ⟨rfl, hG⟩
    · have E := ob_f E c2
      refine ax_iconst (v := (-1)) M d_M_tokens_12 (by decide) ?_
      obtain rfl := Option.some.inj E
      exact ax_iret M hR (by decide) (by decide) d_M_tokens_13 ⟨rfl, hG⟩
def M_count (σ : ST) (x1 : Int32) : Option (Int32 × ST) :=
  if x1 < 0 then
  (some ((-1, σ))) else
  (if x1 ≤ 8 then
  (if x1 = 2 then
  ((M_balance σ (gi σ 0 0 8)).bind (fun b1 => 
  ((lp (fun s4 : Int32 × Int32 =>
  if 8 ≤ s4.2 then
  (some (.inr ((s4.1, s4.2)))) else
  (if inb s4.2 8 then 
  (if (gi b1.2 13 0 (ix s4.2)) = s4.2 then
  (some (.inl ((s4.1 + 1, s4.2 + 1)))) else
  (some (.inl ((s4.1, s4.2 + 1))))) else none)) 1000 ((0, 0))).bind (fun r4 : Int32 × Int32 =>
  some ((r4.1, b1.2)))))) else
  ((lp (fun s1 : Int32 × Int32 =>
  if 8 ≤ s1.2 then
  (some (.inr ((s1.1, s1.2)))) else
  (if inb s1.2 8 then 
  (if (gi σ 1 0 (ix s1.2)) = 0 then
  (some (.inl ((s1.1, s1.2 + 1)))) else
  (some (.inl ((s1.1 + 1, s1.2 + 1))))) else none)) 1000 ((0, 0))).bind (fun r1 : Int32 × Int32 =>
  if 2 ≤ x1 then
  (if (gi σ 0 0 9) = 0 then
  (some ((0, σ))) else
  (if x1 = 3 then
  (some ((1, σ))) else
  (if x1 = 4 then
  (some ((gi σ 0 0 18, σ))) else
  (if x1 = 7 then
  (some ((gi σ 0 0 19, σ))) else
  ((lp (fun s2 : Int32 × Int32 =>
  if x1 = 5 then
  (if (gi σ 0 0 18) ≤ s2.2 then
  (some (.inr ((s2.1, s2.2)))) else
  (if s2.2 = 0 then
  (some (.inl ((s2.1 + 1, s2.2 + 1)))) else
  (if inb s2.2 64 then 
  (if inb (s2.2 - 1) 64 then 
  (if (gi σ 16 0 (ix s2.2)) = (gi σ 16 0 (ix (s2.2 - 1))) then
  (some (.inl ((s2.1, s2.2 + 1)))) else
  (some (.inl ((s2.1 + 1, s2.2 + 1))))) else none) else none))) else
  (some (.inr ((s2.1, s2.2))))) 1000 ((0, 0))).bind (fun r2 : Int32 × Int32 =>
  (lp (fun s3 : Int32 × Int32 =>
  if x1 ≤ 5 then
  (some (.inr ((s3.1, s3.2)))) else
  (if (gi σ 0 0 8) ≤ s3.2 then
  (some (.inr ((s3.1, s3.2)))) else
  (if x1 = 6 then
  (if inb s3.2 12 then 
  (some (.inl ((s3.1 + (gi σ 17 0 (ix s3.2)), s3.2 + 1)))) else none) else
  (if inb s3.2 12 then 
  (some (.inl ((s3.1 + (gi σ 22 0 (ix s3.2)), s3.2 + 1)))) else none)))) 1000 ((r2.1, 0))).bind (fun r3 : Int32 × Int32 =>
  some ((r3.1, σ))))))))) else
  (if x1 = 0 then
  (some ((r1.1, σ))) else
  (some ((gi σ 0 0 8, σ))))))) else
  (some ((-1, σ))))
abbrev rm_M_count : Room := { frames := 3, cells := 0, slots := 0, locals := 82 }
set_option maxRecDepth 100000 in
set_option maxHeartbeats 4000000 in
theorem ac_M_count {l : Launch} {D : va_G} {cc : Nat → ClassId} {al : Nat → Nat → Nat} {σ : ST} {h0 h : AH} {x1 : Int32} {res : Int32 × ST}  (hG : SW dmM (cfM cc) al σ h0 h) (E : M_count σ x1 = some res) : AC l D vwCl (tysOf cc) NN y_M_count (Cond.code y_M_count b_M_count 5 (some .int) :: TT) rm_M_count [.ref (al 0 0), .int x1] h (fun rv h' => rv = some (.int res.1) ∧ SW dmM (cfM cc) al res.2 h0 h') := by
  refine AC.of (by decide) rfl (Nat.le_of_ble_eq_true rfl) (fun X M hR hI => ?_)
  unfold M_count at E
  refine ax_lv (lv' := [(0, .ref (al 0 0)), (1, .int x1)]) [0, 1] rfl ?_
  refine ax_iload_n M d_M_count_0 1 rfl ?_
  refine ax_if_lt (tgt := 10) M d_M_count_1 (by decide) (fun c1 => ?_) (fun c1 => ?_)
  · have E := ob_t E c1
    refine ax_iconst (v := (-1)) M d_M_count_10 (by decide) ?_
    obtain rfl := Option.some.inj E
    exact ax_iret M hR (by decide) (by decide) d_M_count_11 ⟨rfl, hG⟩
  · have E := ob_f E c1
    refine ax_iload_n M d_M_count_4 1 rfl ?_
    refine ax_bipush (v := 8) M d_M_count_5 (by decide) ?_
    refine ax_icmp_le (tgt := 12) M d_M_count_7 (by decide) (fun c2 => ?_) (fun c2 => ?_)
    · have E := ob_t E c2
      refine ax_iconst (v := 0) M d_M_count_12 (by decide) ?_
      refine ax_istore_n (lv' := [(0, .ref (al 0 0)), (1, .int x1), (2, .int 0)]) M d_M_count_13 (by decide) [1, 2, 0] rfl ?_
      refine ax_iload_n M d_M_count_14 1 rfl ?_
      refine ax_iconst (v := 2) M d_M_count_15 (by decide) ?_
      refine ax_icmp_ne (tgt := 61) M d_M_count_16 (by decide) (fun c3 => ?_) (fun c3 => ?_)
      · have E := ob_f E c3
        refine ax_iconst (v := 0) M d_M_count_61 (by decide) ?_
        refine ax_istore_n (lv' := [(0, .ref (al 0 0)), (1, .int x1), (2, .int 0), (3, .int 0)]) M d_M_count_62 (by decide) [1, 2, 3, 0] rfl ?_
        refine ax_lv (lv' := [(0, .ref (al 0 0)), (1, .int x1), (2, .int 0), (3, .int 0)]) [0, 1, 2, 3] rfl ?_
        obtain ⟨r1, l1, E⟩ := ob_b E
        refine lp_walk (fun (s1 : Int32 × Int32) => ∀ h : AH, SW dmM (cfM cc) al σ h0 h → AW l D vwCl rm_M_count 5 X 0 0 h 63 [(0, .ref (al 0 0)), (1, .int x1), (2, .int s1.1), (3, .int s1.2)] []) (fun (r1 : Int32 × Int32) => ∀ h : AH, SW dmM (cfM cc) al σ h0 h → AW l D vwCl rm_M_count 5 X 0 0 h 87 [(0, .ref (al 0 0)), (1, .int x1), (2, .int r1.1), (3, .int r1.2)] []) ?_ _ _ _ l1 ?_ h hG
        · intro s1 y1 E K1 K2 h hG
          refine ax_iload_n M d_M_count_63 3 rfl ?_
          refine ax_bipush (v := 8) M d_M_count_64 (by decide) ?_
          refine ax_icmp_ge (tgt := 87) M d_M_count_66 (by decide) (fun c4 => ?_) (fun c4 => ?_)
          · have E := ob_t E c4
            obtain rfl := Option.some.inj E
            refine ax_lv (lv' := [(0, .ref (al 0 0)), (1, .int x1), (2, .int s1.1), (3, .int s1.2)]) [0, 1, 2, 3] rfl ?_
            exact (K2 _ rfl) h hG
          · have E := ob_f E c4
            refine ax_aload_n M d_M_count_69 0 rfl ?_
            refine sw_get M hG 0 0 (by decide) in_M rfl rfl 0 (by decide) wd_404 rfl d_M_count_70 ?_
            refine ax_iload_n M d_M_count_73 3 rfl ?_
            obtain ⟨k1, E⟩ := ob_c E
            refine sw_zald M hG 1 0 (by decide) rfl 4 rfl k1 d_M_count_74 ?_
            refine ax_if_eq (tgt := 81) M d_M_count_75 (by decide) (fun c5 => ?_) (fun c5 => ?_)
            · have E := ob_t E c5
              refine ax_iinc (v := s1.2 + 1) (lv' := [(0, .ref (al 0 0)), (1, .int x1), (2, .int s1.1), (3, .int (s1.2 + 1))]) M d_M_count_81 3 rfl rfl (by decide) [1, 2, 3, 0] rfl ?_
              refine ax_goto (tgt := 63) M d_M_count_84 (by decide) ?_
              obtain rfl := Option.some.inj E
              refine ax_lv (lv' := [(0, .ref (al 0 0)), (1, .int x1), (2, .int s1.1), (3, .int (s1.2 + 1))]) [0, 1, 2, 3] rfl ?_
              exact K1 _ rfl h hG
            · have E := ob_f E c5
              refine ax_iinc (v := s1.1 + 1) (lv' := [(0, .ref (al 0 0)), (1, .int x1), (2, .int (s1.1 + 1)), (3, .int s1.2)]) M d_M_count_78 2 rfl rfl (by decide) [1, 2, 0, 3] rfl ?_
              refine ax_iinc (v := s1.2 + 1) (lv' := [(0, .ref (al 0 0)), (1, .int x1), (2, .int (s1.1 + 1)), (3, .int (s1.2 + 1))]) M d_M_count_81 3 rfl rfl (by decide) [1, 2, 3, 0] rfl ?_
              refine ax_goto (tgt := 63) M d_M_count_84 (by decide) ?_
              obtain rfl := Option.some.inj E
              refine ax_lv (lv' := [(0, .ref (al 0 0)), (1, .int x1), (2, .int (s1.1 + 1)), (3, .int (s1.2 + 1))]) [0, 1, 2, 3] rfl ?_
              exact K1 _ rfl h hG
        · intro h hG
          refine ax_iload_n M d_M_count_87 1 rfl ?_
          refine ax_iconst (v := 2) M d_M_count_88 (by decide) ?_
          refine ax_icmp_ge (tgt := 105) M d_M_count_89 (by decide) (fun c6 => ?_) (fun c6 => ?_)
          · have E := ob_t E c6
            refine ax_aload_n M d_M_count_105 0 rfl ?_
            refine sw_get M hG 0 0 (by decide) in_M rfl rfl 9 (by decide) wd_413 rfl d_M_count_106 ?_
            refine ax_if_ne (tgt := 114) M d_M_count_109 (by decide) (fun c7 => ?_) (fun c7 => ?_)
            · have E := ob_f E c7
              refine ax_iload_n M d_M_count_114 1 rfl ?_
              refine ax_iconst (v := 3) M d_M_count_115 (by decide) ?_
              refine ax_icmp_ne (tgt := 121) M d_M_count_116 (by decide) (fun c8 => ?_) (fun c8 => ?_)
              · have E := ob_f E c8
                refine ax_iload_n M d_M_count_121 1 rfl ?_
                refine ax_iconst (v := 4) M d_M_count_122 (by decide) ?_
                refine ax_icmp_ne (tgt := 131) M d_M_count_123 (by decide) (fun c9 => ?_) (fun c9 => ?_)
                · have E := ob_f E c9
                  refine ax_iload_n M d_M_count_131 1 rfl ?_
                  refine ax_bipush (v := 7) M d_M_count_132 (by decide) ?_
                  refine ax_icmp_ne (tgt := 142) M d_M_count_134 (by decide) (fun c10 => ?_) (fun c10 => ?_)
                  · have E := ob_f E c10
                    refine ax_iconst (v := 0) M d_M_count_142 (by decide) ?_
                    refine ax_istore_n (lv' := [(0, .ref (al 0 0)), (1, .int x1), (2, .int 0)]) M d_M_count_143 (by decide) [1, 2, 0] rfl ?_
                    refine ax_iconst (v := 0) M d_M_count_144 (by decide) ?_
                    refine ax_istore_n (lv' := [(0, .ref (al 0 0)), (1, .int x1), (2, .int 0), (3, .int 0)]) M d_M_count_145 (by decide) [1, 2, 3, 0] rfl ?_
                    refine ax_lv (lv' := [(0, .ref (al 0 0)), (1, .int x1), (2, .int 0), (3, .int 0)]) [0, 1, 2, 3] rfl ?_
                    obtain ⟨r2, l2, E⟩ := ob_b E
                    refine lp_walk (fun (s2 : Int32 × Int32) => ∀ h : AH, SW dmM (cfM cc) al σ h0 h → AW l D vwCl rm_M_count 5 X 0 0 h 146 [(0, .ref (al 0 0)), (1, .int x1), (2, .int s2.1), (3, .int s2.2)] []) (fun (r2 : Int32 × Int32) => ∀ h : AH, SW dmM (cfM cc) al σ h0 h → AW l D vwCl rm_M_count 5 X 0 0 h 189 [(0, .ref (al 0 0)), (1, .int x1), (2, .int r2.1), (3, .int r2.2)] []) ?_ _ _ _ l2 ?_ h hG
                    · intro s2 y2 E K3 K4 h hG
                      refine ax_iload_n M d_M_count_146 1 rfl ?_
                      refine ax_iconst (v := 5) M d_M_count_147 (by decide) ?_
                      refine ax_icmp_ne (tgt := 189) M d_M_count_148 (by decide) (fun c11 => ?_) (fun c11 => ?_)
                      · have E := ob_f E c11
                        obtain rfl := Option.some.inj E
                        refine ax_lv (lv' := [(0, .ref (al 0 0)), (1, .int x1), (2, .int s2.1), (3, .int s2.2)]) [0, 1, 2, 3] rfl ?_
                        exact (K4 _ rfl) h hG
                      · have E := ob_t E c11
                        refine ax_iload_n M d_M_count_151 3 rfl ?_
                        refine ax_aload_n M d_M_count_152 0 rfl ?_
                        refine sw_get M hG 0 0 (by decide) in_M rfl rfl 18 (by decide) wd_422 rfl d_M_count_153 ?_
                        refine ax_icmp_ge (tgt := 189) M d_M_count_156 (by decide) (fun c12 => ?_) (fun c12 => ?_)
                        · have E := ob_t E c12
                          obtain rfl := Option.some.inj E
                          refine ax_lv (lv' := [(0, .ref (al 0 0)), (1, .int x1), (2, .int s2.1), (3, .int s2.2)]) [0, 1, 2, 3] rfl ?_
                          exact (K4 _ rfl) h hG
                        · have E := ob_f E c12
                          refine ax_iload_n M d_M_count_159 3 rfl ?_
                          refine ax_if_eq (tgt := 180) M d_M_count_160 (by decide) (fun c13 => ?_) (fun c13 => ?_)
                          · have E := ob_t E c13
                            refine ax_iinc (v := s2.1 + 1) (lv' := [(0, .ref (al 0 0)), (1, .int x1), (2, .int (s2.1 + 1)), (3, .int s2.2)]) M d_M_count_180 2 rfl rfl (by decide) [1, 2, 0, 3] rfl ?_
                            refine ax_iinc (v := s2.2 + 1) (lv' := [(0, .ref (al 0 0)), (1, .int x1), (2, .int (s2.1 + 1)), (3, .int (s2.2 + 1))]) M d_M_count_183 3 rfl rfl (by decide) [1, 2, 3, 0] rfl ?_
                            refine ax_goto (tgt := 146) M d_M_count_186 (by decide) ?_
                            obtain rfl := Option.some.inj E
                            refine ax_lv (lv' := [(0, .ref (al 0 0)), (1, .int x1), (2, .int (s2.1 + 1)), (3, .int (s2.2 + 1))]) [0, 1, 2, 3] rfl ?_
                            exact K3 _ rfl h hG
                          · have E := ob_f E c13
                            refine ax_aload_n M d_M_count_163 0 rfl ?_
                            refine sw_get M hG 0 0 (by decide) in_M rfl rfl 15 (by decide) wd_419 rfl d_M_count_164 ?_
                            refine ax_iload_n M d_M_count_167 3 rfl ?_
                            obtain ⟨k2, E⟩ := ob_c E
                            refine sw_iald M hG 16 0 (by decide) rfl 0 rfl k2 d_M_count_168 ?_
                            refine ax_aload_n M d_M_count_169 0 rfl ?_
                            refine sw_get M hG 0 0 (by decide) in_M rfl rfl 15 (by decide) wd_419 rfl d_M_count_170 ?_
                            refine ax_iload_n M d_M_count_173 3 rfl ?_
                            refine ax_iconst (v := 1) M d_M_count_174 (by decide) ?_
                            refine ax_isub M d_M_count_175 ?_
                            obtain ⟨k3, E⟩ := ob_c E
                            refine sw_iald M hG 16 0 (by decide) rfl 0 rfl k3 d_M_count_176 ?_
                            refine ax_icmp_eq (tgt := 183) M d_M_count_177 (by decide) (fun c14 => ?_) (fun c14 => ?_)
                            · have E := ob_t E c14
                              refine ax_iinc (v := s2.2 + 1) (lv' := [(0, .ref (al 0 0)), (1, .int x1), (2, .int s2.1), (3, .int (s2.2 + 1))]) M d_M_count_183 3 rfl rfl (by decide) [1, 2, 3, 0] rfl ?_
                              refine ax_goto (tgt := 146) M d_M_count_186 (by decide) ?_
                              obtain rfl := Option.some.inj E
                              refine ax_lv (lv' := [(0, .ref (al 0 0)), (1, .int x1), (2, .int s2.1), (3, .int (s2.2 + 1))]) [0, 1, 2, 3] rfl ?_
                              exact K3 _ rfl h hG
                            · have E := ob_f E c14
                              refine ax_iinc (v := s2.1 + 1) (lv' := [(0, .ref (al 0 0)), (1, .int x1), (2, .int (s2.1 + 1)), (3, .int s2.2)]) M d_M_count_180 2 rfl rfl (by decide) [1, 2, 0, 3] rfl ?_
                              refine ax_iinc (v := s2.2 + 1) (lv' := [(0, .ref (al 0 0)), (1, .int x1), (2, .int (s2.1 + 1)), (3, .int (s2.2 + 1))]) M d_M_count_183 3 rfl rfl (by decide) [1, 2, 3, 0] rfl ?_
                              refine ax_goto (tgt := 146) M d_M_count_186 (by decide) ?_
                              obtain rfl := Option.some.inj E
                              refine ax_lv (lv' := [(0, .ref (al 0 0)), (1, .int x1), (2, .int (s2.1 + 1)), (3, .int (s2.2 + 1))]) [0, 1, 2, 3] rfl ?_
                              exact K3 _ rfl h hG
                    · intro h hG
                      refine ax_iconst (v := 0) M d_M_count_189 (by decide) ?_
                      refine ax_istore_n (lv' := [(0, .ref (al 0 0)), (1, .int x1), (2, .int r2.1), (3, .int 0)]) M d_M_count_190 (by decide) [1, 2, 3, 0] rfl ?_
                      refine ax_lv (lv' := [(0, .ref (al 0 0)), (1, .int x1), (2, .int r2.1), (3, .int 0)]) [0, 1, 2, 3] rfl ?_
                      obtain ⟨r3, l3, E⟩ := ob_b E
                      refine lp_walk (fun (s3 : Int32 × Int32) => ∀ h : AH, SW dmM (cfM cc) al σ h0 h → AW l D vwCl rm_M_count 5 X 0 0 h 191 [(0, .ref (al 0 0)), (1, .int x1), (2, .int s3.1), (3, .int s3.2)] []) (fun (r3 : Int32 × Int32) => ∀ h : AH, SW dmM (cfM cc) al σ h0 h → AW l D vwCl rm_M_count 5 X 0 0 h 234 [(0, .ref (al 0 0)), (1, .int x1), (2, .int r3.1), (3, .int r3.2)] []) ?_ _ _ _ l3 ?_ h hG
                      · intro s3 y3 E K5 K6 h hG
                        refine ax_iload_n M d_M_count_191 1 rfl ?_
                        refine ax_iconst (v := 5) M d_M_count_192 (by decide) ?_
                        refine ax_icmp_le (tgt := 234) M d_M_count_193 (by decide) (fun c15 => ?_) (fun c15 => ?_)
                        · have E := ob_t E c15
                          obtain rfl := Option.some.inj E
                          refine ax_lv (lv' := [(0, .ref (al 0 0)), (1, .int x1), (2, .int s3.1), (3, .int s3.2)]) [0, 1, 2, 3] rfl ?_
                          exact (K6 _ rfl) h hG
                        · have E := ob_f E c15
                          refine ax_iload_n M d_M_count_196 3 rfl ?_
                          refine ax_aload_n M d_M_count_197 0 rfl ?_
                          refine sw_get M hG 0 0 (by decide) in_M rfl rfl 8 (by decide) wd_412 rfl d_M_count_198 ?_
                          refine ax_icmp_ge (tgt := 234) M d_M_count_201 (by decide) (fun c16 => ?_) (fun c16 => ?_)
                          · have E := ob_t E c16
                            obtain rfl := Option.some.inj E
                            refine ax_lv (lv' := [(0, .ref (al 0 0)), (1, .int x1), (2, .int s3.1), (3, .int s3.2)]) [0, 1, 2, 3] rfl ?_
                            exact (K6 _ rfl) h hG
                          · have E := ob_f E c16
                            refine ax_iload_n M d_M_count_204 2 rfl ?_
                            refine ax_iload_n M d_M_count_205 1 rfl ?_
                            refine ax_bipush (v := 6) M d_M_count_206 (by decide) ?_
                            refine ax_icmp_ne (tgt := 220) M d_M_count_208 (by decide) (fun c17 => ?_) (fun c17 => ?_)
                            · have E := ob_f E c17
                              refine ax_aload_n M d_M_count_220 0 rfl ?_
                              refine sw_get M hG 0 0 (by decide) in_M rfl rfl 21 (by decide) wd_425 rfl d_M_count_221 ?_
                              refine ax_iload_n M d_M_count_224 3 rfl ?_
                              obtain ⟨k4, E⟩ := ob_c E
                              refine sw_iald M hG 22 0 (by decide) rfl 0 rfl k4 d_M_count_225 ?_
                              refine ax_iadd M d_M_count_226 ?_
                              refine ax_istore_n (lv' := [(0, .ref (al 0 0)), (1, .int x1), (2, .int (s3.1 + (gi σ 22 0 (ix s3.2)))), (3, .int s3.2)]) M d_M_count_227 (by decide) [1, 2, 0, 3] rfl ?_
                              refine ax_iinc (v := s3.2 + 1) (lv' := [(0, .ref (al 0 0)), (1, .int x1), (2, .int (s3.1 + (gi σ 22 0 (ix s3.2)))), (3, .int (s3.2 + 1))]) M d_M_count_228 3 rfl rfl (by decide) [1, 2, 3, 0] rfl ?_
                              refine ax_goto (tgt := 191) M d_M_count_231 (by decide) ?_
                              obtain rfl := Option.some.inj E
                              refine ax_lv (lv' := [(0, .ref (al 0 0)), (1, .int x1), (2, .int (s3.1 + (gi σ 22 0 (ix s3.2)))), (3, .int (s3.2 + 1))]) [0, 1, 2, 3] rfl ?_
                              exact K5 _ rfl h hG
                            · have E := ob_t E c17
                              refine ax_aload_n M d_M_count_211 0 rfl ?_
                              refine sw_get M hG 0 0 (by decide) in_M rfl rfl 16 (by decide) wd_420 rfl d_M_count_212 ?_
                              refine ax_iload_n M d_M_count_215 3 rfl ?_
                              obtain ⟨k5, E⟩ := ob_c E
                              refine sw_iald M hG 17 0 (by decide) rfl 0 rfl k5 d_M_count_216 ?_
                              refine ax_goto (tgt := 226) M d_M_count_217 (by decide) ?_
                              refine ax_iadd M d_M_count_226 ?_
                              refine ax_istore_n (lv' := [(0, .ref (al 0 0)), (1, .int x1), (2, .int (s3.1 + (gi σ 17 0 (ix s3.2)))), (3, .int s3.2)]) M d_M_count_227 (by decide) [1, 2, 0, 3] rfl ?_
                              refine ax_iinc (v := s3.2 + 1) (lv' := [(0, .ref (al 0 0)), (1, .int x1), (2, .int (s3.1 + (gi σ 17 0 (ix s3.2)))), (3, .int (s3.2 + 1))]) M d_M_count_228 3 rfl rfl (by decide) [1, 2, 3, 0] rfl ?_
                              refine ax_goto (tgt := 191) M d_M_count_231 (by decide) ?_
                              obtain rfl := Option.some.inj E
                              refine ax_lv (lv' := [(0, .ref (al 0 0)), (1, .int x1), (2, .int (s3.1 + (gi σ 17 0 (ix s3.2)))), (3, .int (s3.2 + 1))]) [0, 1, 2, 3] rfl ?_
                              exact K5 _ rfl h hG
                      · intro h hG
                        refine ax_iload_n M d_M_count_234 2 rfl ?_
                        obtain rfl := Option.some.inj E
                        exact ax_iret M hR (by decide) (by decide) d_M_count_235 ⟨rfl, hG⟩
                  · have E := ob_t E c10
                    refine ax_aload_n M d_M_count_137 0 rfl ?_
                    refine sw_get M hG 0 0 (by decide) in_M rfl rfl 19 (by decide) wd_423 rfl d_M_count_138 ?_
                    obtain rfl := Option.some.inj E
                    exact ax_iret M hR (by decide) (by decide) d_M_count_141 ⟨rfl, hG⟩
                · have E := ob_t E c9
                  refine ax_aload_n M d_M_count_126 0 rfl ?_
                  refine sw_get M hG 0 0 (by decide) in_M rfl rfl 18 (by decide) wd_422 rfl d_M_count_127 ?_
                  obtain rfl := Option.some.inj E
                  exact ax_iret M hR (by decide) (by decide) d_M_count_130 ⟨rfl, hG⟩
              · have E := ob_t E c8
                refine ax_iconst (v := 1) M d_M_count_119 (by decide) ?_
                obtain rfl := Option.some.inj E
                exact ax_iret M hR (by decide) (by decide) d_M_count_120 ⟨rfl, hG⟩
            · have E := ob_t E c7
              refine ax_iconst (v := 0) M d_M_count_112 (by decide) ?_
              obtain rfl := Option.some.inj E
              exact ax_iret M hR (by decide) (by decide) d_M_count_113 ⟨rfl, hG⟩
          · have E := ob_f E c6
            refine ax_iload_n M d_M_count_92 1 rfl ?_
            refine ax_if_ne (tgt := 100) M d_M_count_93 (by decide) (fun c18 => ?_) (fun c18 => ?_)
            · have E := ob_f E c18
              refine ax_aload_n M d_M_count_100 0 rfl ?_
              refine sw_get M hG 0 0 (by decide) in_M rfl rfl 8 (by decide) wd_412 rfl d_M_count_101 ?_
              obtain rfl := Option.some.inj E
              exact ax_iret M hR (by decide) (by decide) d_M_count_104 ⟨rfl, hG⟩
            · have E := ob_t E c18
              refine ax_iload_n M d_M_count_96 2 rfl ?_
              refine ax_goto (tgt := 104) M d_M_count_97 (by decide) ?_
              obtain rfl := Option.some.inj E
              exact ax_iret M hR (by decide) (by decide) d_M_count_104 ⟨rfl, hG⟩
      · have E := ob_t E c3
        refine ax_aload_n M d_M_count_19 0 rfl ?_
        refine ax_aload_n M d_M_count_20 0 rfl ?_
        refine sw_get M hG 0 0 (by decide) in_M rfl rfl 8 (by decide) wd_412 rfl d_M_count_21 ?_
        obtain ⟨b1, e1, E⟩ := ob_b E
        refine ax_callV (n := 1) (C := R_M) (q := (R_M, F_M, 25)) M TT_good rfl rfl (SW.at hG 0 0 (by decide)) (ac_M_balance hG e1) lm_M_111 (by decide) (by decide) rfl rfl (Nat.le_of_ble_eq_true rfl) d_M_count_24 (by decide) (c1 := 0) (s1 := 0) (by decide) (ax_ret_i (fun h hG => ?_))
        refine ax_istore_n (lv' := [(0, .ref (al 0 0)), (2, .int 0), (3, .int b1.1)]) M d_M_count_27 (by decide) [1, 3, 0] rfl ?_
        refine ax_iconst (v := 0) M d_M_count_28 (by decide) ?_
        refine ax_istore (lv' := [(0, .ref (al 0 0)), (2, .int 0), (4, .int 0)]) M d_M_count_29 (by decide) [1, 2, 0] rfl ?_
        refine ax_lv (lv' := [(0, .ref (al 0 0)), (2, .int 0), (4, .int 0)]) [0, 1, 2] rfl ?_
        obtain ⟨r4, l4, E⟩ := ob_b E
        refine lp_walk (fun (s4 : Int32 × Int32) => ∀ h : AH, SW dmM (cfM cc) al b1.2 h0 h → AW l D vwCl rm_M_count 5 X 0 0 h 31 [(0, .ref (al 0 0)), (2, .int s4.1), (4, .int s4.2)] []) (fun (r4 : Int32 × Int32) => ∀ h : AH, SW dmM (cfM cc) al b1.2 h0 h → AW l D vwCl rm_M_count 5 X 0 0 h 59 [(0, .ref (al 0 0)), (2, .int r4.1), (4, .int r4.2)] []) ?_ _ _ _ l4 ?_ h hG
        · intro s4 y4 E K7 K8 h hG
          refine ax_iload M d_M_count_31 2 rfl ?_
          refine ax_bipush (v := 8) M d_M_count_33 (by decide) ?_
          refine ax_icmp_ge (tgt := 59) M d_M_count_35 (by decide) (fun c19 => ?_) (fun c19 => ?_)
          · have E := ob_t E c19
            obtain rfl := Option.some.inj E
            refine ax_lv (lv' := [(0, .ref (al 0 0)), (2, .int s4.1), (4, .int s4.2)]) [0, 1, 2] rfl ?_
            exact (K8 _ rfl) h hG
          · have E := ob_f E c19
            refine ax_aload_n M d_M_count_38 0 rfl ?_
            refine sw_get M hG 0 0 (by decide) in_M rfl rfl 12 (by decide) wd_416 rfl d_M_count_39 ?_
            refine ax_iload M d_M_count_42 2 rfl ?_
            obtain ⟨k6, E⟩ := ob_c E
            refine sw_iald M hG 13 0 (by decide) rfl 0 rfl k6 d_M_count_44 ?_
            refine ax_iload M d_M_count_45 2 rfl ?_
            refine ax_icmp_ne (tgt := 53) M d_M_count_47 (by decide) (fun c20 => ?_) (fun c20 => ?_)
            · have E := ob_f E c20
              refine ax_iinc (v := s4.2 + 1) (lv' := [(0, .ref (al 0 0)), (2, .int s4.1), (4, .int (s4.2 + 1))]) M d_M_count_53 2 rfl rfl (by decide) [1, 2, 0] rfl ?_
              refine ax_goto (tgt := 31) M d_M_count_56 (by decide) ?_
              obtain rfl := Option.some.inj E
              refine ax_lv (lv' := [(0, .ref (al 0 0)), (2, .int s4.1), (4, .int (s4.2 + 1))]) [0, 1, 2] rfl ?_
              exact K7 _ rfl h hG
            · have E := ob_t E c20
              refine ax_iinc (v := s4.1 + 1) (lv' := [(0, .ref (al 0 0)), (2, .int (s4.1 + 1)), (4, .int s4.2)]) M d_M_count_50 1 rfl rfl (by decide) [1, 0, 2] rfl ?_
              refine ax_iinc (v := s4.2 + 1) (lv' := [(0, .ref (al 0 0)), (2, .int (s4.1 + 1)), (4, .int (s4.2 + 1))]) M d_M_count_53 2 rfl rfl (by decide) [1, 2, 0] rfl ?_
              refine ax_goto (tgt := 31) M d_M_count_56 (by decide) ?_
              obtain rfl := Option.some.inj E
              refine ax_lv (lv' := [(0, .ref (al 0 0)), (2, .int (s4.1 + 1)), (4, .int (s4.2 + 1))]) [0, 1, 2] rfl ?_
              exact K7 _ rfl h hG
        · intro h hG
          refine ax_iload_n M d_M_count_59 1 rfl ?_
          obtain rfl := Option.some.inj E
          exact ax_iret M hR (by decide) (by decide) d_M_count_60 ⟨rfl, hG⟩
    · have E := ob_f E c2
      refine ax_iconst (v := (-1)) M d_M_count_10 (by decide) ?_
      obtain rfl := Option.some.inj E
      exact ax_iret M hR (by decide) (by decide) d_M_count_11 ⟨rfl, hG⟩
