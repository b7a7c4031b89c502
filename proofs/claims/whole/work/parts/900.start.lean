/-- array classes at the start -/
theorem st_prim {s : State} {ty : FieldType} (hobj : ∀ C, ty ≠ .object C) {a : Array Value} (h : (Cond.arrayClass ty).before a s = true) : ∃ cA : ClassId, ArrOfT s cA ty ∧ va_RA s cA ty := by
  obtain ⟨cA, kA, comp, h1, h2, h3⟩ := Cond.arrayClass_spec h
  refine ⟨cA, fun n z => ⟨fun k hk => (by cases hk), kA, h2, comp, h3⟩, ?_⟩
  cases ty with
  | object C => exact absurd rfl (hobj C)
  | _ => exact h1
theorem st_obj {s : State} {C : String} {a : Array Value} (h : (Cond.arrayOver (.object C)).before a s = true) : ∃ cA : ClassId, ArrOfT s cA (.object C) ∧ va_RA s cA (.object C) := by
  obtain ⟨comp, cA, kA, h0, -, h2, h3, h1⟩ := Cond.arrayOver_spec h
  exact ⟨cA, fun n z => ⟨fun k hk => (by cases hk), kA, h2, comp, h3⟩, kA, comp, h2, h3, h0, h1⟩
theorem st_arr {s : State} {t : FieldType} {a : Array Value} (h : (Cond.arrayOver (.array t)).before a s = true) : ∃ cA : ClassId, ArrOfT s cA (.array t) ∧ va_RA s cA (.array t) := by
  obtain ⟨comp, cA, kA, h0, -, h2, h3, h1⟩ := arrayOverA_spec h
  exact ⟨cA, fun n z => ⟨fun k hk => (by cases hk), kA, h2, comp, h3⟩, h1⟩
theorem TT_tbl {w : Cond} (h : w ∈ TT) : w ∈ lw_tbl := (List.mem_filter.mp h).1
theorem NN_tbl {w : Cond} (h : w ∈ NN) : w ∈ lw_tbl ∧ nw_b w = true := List.mem_filter.mp h
theorem nw_of {w : Cond} (hw : nw_b w = true) {a : Array Value} {s : State} (h : w.before a s = true) : va_Nw w s := by
  cases w with
  | fieldLinkNest a i b n d c => exact va_Nw.of rfl h
  | methodLinkNest a i x c => exact va_Nw.of rfl h
  | arrayOver t =>
    cases t with
    | object C => exact h
    | array t => exact over_moved (Vm.Alike.refl _) h
    | _ => cases hw
  | _ => cases hw
set_option maxHeartbeats 4000000 in
set_option maxRecDepth 100000 in
/-- THE LAW, from its entry -/
theorem whole_start {p : Program} {e : Env} {s : State} {m : MethodId} {below : List Frame} {meth : Method} {c : Code} (l : Launch) {b L : Nat} {xs : Nat → Int32} (hL : L ≤ 3072) (C0 : lw_At p s m meth c b L xs) : W p l e room_1 s m #[Value.ref b] below meth c s.heap [] 0 0 (lw_Z below #[Value.ref b] s) (entryFrame m ([Value.ref b] : List Value).toArray 4) := by
  obtain ⟨hx, hb, hr, hml, hown, hts, hX, hbl, hlocks, hgv⟩ := id C0
  obtain ⟨c0, iS0, hKn0⟩ := u_known (C := R_A) (T := F_A) (N := 10) (n := 10) hts (fun w h => TT_tbl (in_A w h)) (hts _ (TT_tbl wd_70))
  obtain ⟨c1, iS1, hKn1⟩ := u_known (C := R_E) (T := F_E) (N := 9) (n := 9) hts (fun w h => TT_tbl (in_E w h)) (hts _ (TT_tbl wd_113))
  obtain ⟨c2, iS2, hKn2⟩ := u_known (C := R_G) (T := F_G) (N := 9) (n := 9) hts (fun w h => TT_tbl (in_G w h)) (hts _ (TT_tbl wd_57))
  obtain ⟨c3, iS3, hKn3⟩ := u_known (C := R_M) (T := F_M) (N := 25) (n := 25) hts (fun w h => TT_tbl (in_M w h)) (hts _ (TT_tbl wd_399))
  obtain ⟨a0, ga0⟩ := st_prim (ty := .int) (fun C e => by cases e) (hts _ (TT_tbl wd_112))
  obtain ⟨a1, ga1⟩ := st_obj (hts _ (NN_tbl wd_65).1)
  obtain ⟨a2, ga2⟩ := st_obj (hts _ (NN_tbl wd_67).1)
  obtain ⟨a3, ga3⟩ := st_arr (hts _ (NN_tbl wd_69).1)
  obtain ⟨a4, ga4⟩ := st_prim (ty := .boolean) (fun C e => by cases e) (hts _ (TT_tbl wd_480))
  obtain ⟨a5, ga5⟩ := st_prim (ty := .long) (fun C e => by cases e) (hts _ (TT_tbl wd_481))
  obtain ⟨cc, ecc⟩ : ∃ cc : Nat → ClassId, cc = (fun k => match k with
    | 0 => a0
    | 1 => a1
    | 2 => a2
    | 3 => a3
    | 4 => a4
    | _ => a5 : Nat → ClassId) := ⟨_, rfl⟩
  obtain ⟨D, hKc⟩ : ∃ D : va_G, ∀ (k : Nat) (q : vw_C), vwCl[k]? = some q → u_Kn s q.1 q.2.1 q.2.2 (D.1 k) (D.2 k) := by
    refine ⟨(fun k => match k with
      | 0 => c0
      | 1 => c1
      | 2 => c2
      | _ => c3, fun k => match k with
      | 0 => iS0
      | 1 => iS1
      | 2 => iS2
      | _ => iS3), ?_⟩
    intro k q hq
    match k, hq with
    | 0, hq => cases hq; exact hKn0
    | 1, hq => cases hq; exact hKn1
    | 2, hq => cases hq; exact hKn2
    | 3, hq => cases hq; exact hKn3
    | k + 4, hq => cases hq
  have hK : va_K D vwCl (tysOf cc) s := by
    refine ⟨hKc, fun k q hq => ?_⟩
    rw [ecc] at hq
    match k, hq with
    | 0, hq => cases hq; exact ga0
    | 1, hq => cases hq; exact ga1
    | 2, hq => cases hq; exact ga2
    | 3, hq => cases hq; exact ga3
    | 4, hq => cases hq; exact ga4
    | 5, hq => cases hq; exact ga5
    | k + 6, hq => cases hq
  have M : Mx D vwCl 4 (lX p e s m below meth c b) code R_L TT (tysOf cc) NN := ⟨hx, hb, hml, hown, fun w h => hts w (TT_tbl h), hK, hlocks, fun q h => h, fun w h => ⟨(NN_tbl h).2, nw_of (NN_tbl h).2 (hts w (NN_tbl h).1)⟩⟩
  have hP : PW [] (fun _ => none) (fun _ => none) := ⟨fun k p h => (by cases h), fun i j p q h => (by cases h), fun _ _ => rfl, fun k p _ h => (by cases h)⟩
  have hl := lv_entry ([.ref b]) (n := 4) (Nat.le_of_ble_eq_true rfl)
  rw [lg_entry_eq]
  have key : AW l D vwCl room_1 4 (lX p e s m below meth c b) 0 0 (fun _ => none) 0 [(0, .ref b)] [] := by
    refine pw_new (C := R_G) (ci := 2) (fs := [.null, .null, .null, .null, .null, .int 0, .int 0, .int 0, .int 0]) hP M in_G t_G tok_G wd_56 wd_57 wd_51 rfl (by decide) (by decide) (by decide) d_L_law_0 (fun o h1 hP => ?_)
    refine ax_dup M d_L_law_3 rfl ?_
    refine ax_callI (n := 0) M TT_good (ac_C_init (hP.1 0 _ rfl)) lm_L_9 rfl (by decide) (by decide) rfl rfl (Nat.le_of_ble_eq_true rfl) d_L_law_4 (by decide) (c1 := 100) (s1 := 5000) (by decide) (ax_ret_v (fun h2 hp => ?_))
    obtain ⟨alC, rfl, hG⟩ := hp
    refine ax_astore_n (lv' := [(0, .ref b), (1, .ref (alC 0 0))]) M d_L_law_7 (by decide) [1, 0] rfl ?_
    refine ax_new (C := R_M) (ci := 3) (fs := [.null, .null, .null, .null, .null, .null, .null, .null, .int 0, .int 0, .null, .null, .null, .null, .null, .null, .null, .null, .int 0, .int 0, .null, .null, .null, .null, .null]) M in_M t_M tok_M wd_398 wd_399 wd_54 rfl (by decide) (by decide) (by decide) d_L_law_8 (fun o2 hn => ?_)
    refine ax_dup M d_L_law_11 rfl ?_
    refine ax_callI (n := 0) M TT_good (ac_M_init ah_same) lm_L_12 rfl (by decide) (by decide) rfl rfl (Nat.le_of_ble_eq_true rfl) d_L_law_12 (by decide) (c1 := lwC) (s1 := lwS) (by decide) (ax_ret_v (fun h4 hp => ?_))
    obtain ⟨alR, e0, hG2, hfr⟩ := hp
    have hne : ∀ K i, i < dmC K → alC K i ≠ o2 := fun K i hi e9 => by
      have := hG.1 K i hi
      rw [e9, hn] at this
      cases this
    have hin : ∀ K i, i < dmC K → ∀ K' i', i' < dmM K' → alC K i ≠ alR K' i' := fun K i hi K' i' hi' e9 => by
      by_cases hz : K' = 0 ∧ i' = 0
      · obtain ⟨rfl, rfl⟩ := hz
        exact hne K i hi (e9.trans e0)
      · have hK' : K' ≠ 0 := fun h0 => hz ⟨h0, (dmM_of hi').2⟩
        have h5 := hfr K' i' hi' hK'
        rw [← e9, ah_ne (hne K i hi), hG.1 K i hi] at h5
        cases h5
    have hT : TW cc alC alR zC zM h4 := by
      refine ⟨⟨fun K i hi => ?_, hG.2.1, fun _ _ => rfl⟩, ⟨hG2.1, hG2.2.1, fun _ _ => rfl⟩, fun K i K' i' hi hi' => hin K i hi K' i' hi'⟩
      rw [hG2.2.2 _ (fun K' i' hi' => hin K i hi K' i' hi'), ah_ne (hne K i hi)]
      exact hG.1 K i hi
    subst e0
    refine ax_astore_n (lv' := [(0, .ref b), (1, .ref (alC 0 0)), (2, .ref (alR 0 0))]) M d_L_law_15 (by decide) [1, 2, 0] rfl ?_
    refine ax_iconst (v := 0) M d_L_law_16 (by decide) ?_
    refine ax_istore_n (lv' := [(0, .ref b), (1, .ref (alC 0 0)), (2, .ref (alR 0 0)), (3, .int 0)]) M d_L_law_17 (by decide) [1, 2, 3, 0] rfl ?_
    obtain ⟨n, hn⟩ := law_pure xs L hL
    exact law_loop M hX hbl hr n (zC, zM, 0) 1 hn rfl h4 hT
  exact key s.heap [] _ ⟨[], fun k q h => (by cases h), ⟨fun i j p q h => (by cases h), fun k q h => (by cases h)⟩, fun a c => ⟨fun h => (by cases h), fun ⟨k, h⟩ => (by cases h)⟩⟩ va_S.rf hl
set_option maxHeartbeats 4000000 in
theorem lw_walk (l : Launch) (b : Addr) (xs : List Int32) : MetFree l x (headSpec (Jvm.Cond.code x code maxLocals ret :: tables_1) room_1) (lw_P b xs) (fun _ _ _ _ _ => True) lw_Q := by
  refine MetFree.of_bodyS (code := code) (maxLocals := maxLocals) (ret := ret) (by decide) ?_ ?_
  · intro args s m h hn
    obtain ⟨meth, c, h1, h2, h3, h4, h5, h6, -, -⟩ := Cond.code_spec hn (atoms_spec (ws := Jvm.Cond.code x code maxLocals ret :: tables_1) h _ List.mem_cons_self)
    exact ⟨meth, c, h1, h2, h3, h4, h5, h6⟩
  · intro p e s m args below meth c s₁ B hml0 hP _
    obtain ⟨rfl, hx, hbd, hgv⟩ := hP
    obtain ⟨scr, harrAt, hlist, hof, hsmall⟩ := hx
    obtain ⟨hcb, hkn, -, -⟩ := State.arrayAt?_spec harrAt
    have hown : s.vm.findClass R_law = some m.cls := findClass_of_methodNamed B.named
    have hts0 : ∀ c ∈ (Jvm.Cond.code x code maxLocals ret :: tables_1), c.before #[Value.ref b] s = true := atoms_spec (ws := Jvm.Cond.code x code maxLocals ret :: tables_1) B.pre
    have hts : ∀ w ∈ lw_tbl, w.before #[Value.ref b] s = true := k2_hts_sels lw_privs (fun w hw => hts0 w (List.mem_cons_of_mem _ hw)) lw_privs_ok
    have hml : c.maxLocals = 4 := B.maxLocals_eq (hts0 _ List.mem_cons_self)
    have X₀ : Stand p l e room_1 s m #[Value.ref b] below meth c s₁ [] 0 0 := Stand.of_body B
    have hh0 : s₁.heap = s.heap := by rw [B.state]; rfl
    have hsz : scr.slots.size = xs.length := by rw [← Array.length_toList, hlist, List.length_map]
    have hval : ∀ j : Nat, j < xs.length → scr.slots[j]? = some (.int (xs.getD j 0)) := fun j hj => by
      rw [← Array.getElem?_toList, hlist]
      simp [hj]
    have hbl : b < s.heap.size := (Array.getElem?_eq_some_iff.mp hcb).1
    have hX : va_X b xs.length (fun j => xs.getD j 0) s s.heap := ⟨scr, hcb, hof, hkn, hsz, hval⟩
    have K : W p l e room_1 s m #[Value.ref b] below meth c s₁.heap [] 0 0 (lw_Z below #[Value.ref b] s) (entryFrame m ([Value.ref b] : List Value).toArray 4) := by
      rw [hh0]
      exact whole_start l hbd ⟨B.exec, B.bytes, B.returns, hml, hown, hts, hX, hbl, B.notSynchronized, hgv⟩
    obtain ⟨t, a1, o, b1, b2, b3⟩ := K s₁ rfl X₀
    exact ⟨t, o, a1, b1, b2, b3⟩
theorem lw_pre_spec {args : Array Value} {s : State} (h : (Jvm.Cond.and given_1 narrow_1).before args s = true) (hr : rest_1_c.before args s = true) : ∃ (b : Addr) (xs : List Int32), lw_P b xs args s := by
  have hs := flat_of_before _ h
  have hq := flat_of_before _ hr
  have hc : (Cond.count 1).before args s = true := hs _ (by decide +kernel)
  have harr : (Cond.arrayOf (.arg 0) .int).before args s = true := hs _ (by decide +kernel)
  have hle : (Cond.le (.length (.arg 0)) (.int 3072)).before args s = true := hs _ (by decide +kernel)
  have hlen : (Cond.isInt (.length (.arg 0))).before args s = true := hq _ (by decide +kernel)
  have hall : (Cond.all (.arg 0) (.isInt (.elem (.arg 0) (.index 0)))).before args s = true := hq _ (by decide +kernel)
  obtain ⟨b, xs, hb, hx⟩ := State.ints_of_pre rfl harr hlen hall
  have hsm : xs.length < 2 ^ 31 := hx.choose_spec.2.2.2
  have hev : (Term.length (.arg 0)).eval args s none [] s = some (.int xs.length.toInt32) := hx.length_eval hb
  have hv := Cond.le_ints hev (show (Term.int 3072).eval args s none [] s = some (.int 3072) from rfl)
  have hd : xs.length.toInt32 ≤ 3072 := by
    simpa [Cond.before, Cond.holds, hv] using hle
  have hN : xs.length ≤ 3072 := (Int32.ofNat_le_ofNat hsm (by decide)).mp (show Int32.ofNat xs.length ≤ Int32.ofNat 3072 from hd)
  exact ⟨b, xs, Cond.one_arg hc (show args[0]? = some (.ref b) from hb), hx, hN, h⟩
theorem lw_comes (l : Launch) : Comes l x (Jvm.Cond.code x code maxLocals ret :: tables_1) room_1 (fun tb e args s => Calls_1 tb e args s ∧ rest_1 tb e args s ∧ Pre_1 tb e args s)
    (fun _ _ args s o t => lw_Q args s o t) := by
  intro p e ha hc hk s m args below hf hfit hheap happ hpre
  obtain ⟨b, xs, hP⟩ := lw_pre_spec hpre.2.2 hpre.2.1
  obtain ⟨k, o, h1, h2, h3, hQ⟩ := lw_walk l b xs p e ha hc hk s m args below hf ((Spec.applies_iff_loose hf).mp happ).1 hP trivial
  exact ⟨k, o, h1, h2, h3, hQ⟩
theorem lw_frame {s t : State} {o : Outcome} {args : Array Value} (h : Framed s o t [] 600000 7302250) :
    Framed s o t (fieldLocs frame_1_writes args s ++ arrayLocs frame_1_arrays args s ++ staticLocs frame_1_statics s) 600000 7302250 := h
theorem lw_limb (L : Cond) (hL : ∀ (args : Array Value) (s t : State), L.after args s (.returned (some (.int 1))) t = true) :
    ArmFor flags0 classFile x code maxLocals ret World_1 tables_1 room_1 Calls_1 rest_1 Pre_1
      (fun tb e a s o t => postC L tb e a s o t ∧ Framed s o t (fieldLocs frame_1_writes a s ++ arrayLocs frame_1_arrays a s ++ staticLocs frame_1_statics s) 600000 7302250) := by
  intro l _ _ _ p e ha hc hk s m args below hf hfit hheap happ hpre
  obtain ⟨k, o, h1, h2, h3, rfl, hF⟩ := lw_comes l p e ha hc hk s m args below hf hfit hheap happ hpre
  exact ⟨k, _, h1, h2, h3, hL args s _, lw_frame hF⟩
theorem i_vc : Claimed_1_1 ∧ Claimed_1_2 := ⟨lw_limb limb_1_1 (fun args s t => by simp [limb_1_1, Cond.after, Cond.holds, Cond.value]), lw_limb limb_1_2 (fun args s t => Cond.after_iff.mpr (by
  first | (rw [show limb_1_2 = Cond.eq .result (.int 1) from rfl, Cond.eq_ints (x := 1) (y := 1) rfl rfl]; simp; done) | (simp [limb_1_2, Cond.value, Term.eval]; done)))⟩
