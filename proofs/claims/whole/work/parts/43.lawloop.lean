def R_law : String := "PagerHouseLaw"
def lw_P (b : Addr) (xs : List Int32) (args : Array Value) (s : State) : Prop := args = #[.ref b] ∧ s.IntsAt b xs ∧ xs.length ≤ 2050 ∧ (Jvm.Cond.and given_1 narrow_1).before args s = true
def lw_Q (_ : Array Value) (s : State) (o : Outcome) (t : State) : Prop := o = .returned (some (.int 1)) ∧ Framed s o t [] 601024 7293000
def lw_Z (below : List Frame) (a : Array Value) (s : State) : State → Prop := fun t => ∃ o, t.status = .running ∧ Ended t below o ∧ lw_Q a s o t
/-- the law's own end, with 1 on the stack, nothing written that was there before, its room as the claim has it -/
theorem lw_ret {p : Program} {l : Launch} {e : Env} {s : State} {m : MethodId} {below : List Frame} {meth : Method} {c : Code} {b : Nat} (hx : p.tables.exec = Jvm.exec) (hb : c.code = code) (hr : meth.sig.returnType = ret) (hlocks : meth.locks = false) {pc : Nat} {H : Heap} {ls : Array Slot} (hdg : decode code pc = .ok (.ireturn, 1)) : W p l e room_1 s m #[Value.ref b] below meth c H [] 601024 7293000 (lw_Z below #[Value.ref b] s) (F0 m pc ls [.int 1]) := by
  intro T hT X
  obtain ⟨fs, hret, hrun, hended, hW, hframe⟩ := X.leave (v := some (.int 1)) (hlocks := hlocks) (fun h => by rw [hr] at h; cases h)
  have hmeth' : T.vm.method? m = some meth := X.method'
  refine ⟨T.setFrames fs, ?_, .returned (some (.int 1)), hrun, hended, rfl, ⟨_, rfl⟩, hW, hframe⟩
  jvm_step X.here [X.here.top, hx, hb, hdg, hmeth', hr, ret, narrow_b1]
  (try refine ⟨rfl, ?_⟩); (try refine ⟨rfl, ?_⟩)
  first | (intro acts; rw [hret _ acts rfl rfl rfl]) | rw [hret _ _ rfl rfl rfl]
  exact Steps.refl _
/-- what holds at the law's entry: the machine, the code, the tables' words (any of lw_tbl by 'hts w (by decide +kernel)'), the script of L ints xs at the cell b, what the Statement gives of the start (any of its parts by flat_of_before) -/
def lw_At (p : Program) (s : State) (m : MethodId) (meth : Method) (c : Code) (b L : Nat) (xs : Nat → Int32) : Prop :=
  p.tables.exec = Jvm.exec ∧ c.code = code ∧ meth.sig.returnType = ret ∧ c.maxLocals = 7 ∧ s.vm.findClass R_law = some m.cls ∧ (∀ w ∈ lw_tbl, w.before #[Value.ref b] s = true) ∧ va_X b L xs s s.heap ∧ b < s.heap.size ∧ meth.locks = false ∧ (Jvm.Cond.and given_1 narrow_1).before #[Value.ref b] s = true
/-- the law's end -/
def gE (X : gx_T) : Prop :=
  match X with
  | ((p, l, e, R, s, m, args, below, meth, c, Q), (nL, D, tys, A)) => (∀ q, A q → s.heap.size ≤ q) ∧ ∀ (H : Heap) (ls : Array Slot), W p l e R s m args below meth c H [] 601024 7293000 Q (F0 m 575 ls [.int 1])
theorem gL_end {X : gx_T} {k n : Nat} {ws : va_W} {lv : List (Nat × Value)} (CE : gE X) (h1 : k ≤ 601024) (h2 : n ≤ 7293000) : gV X k n ws 575 lv [.int 1] := by
  obtain ⟨⟨p, l, e, R, s, m, args, below, meth, c, Q⟩, nL', D', tys', A⟩ := X
  intro H locs ls hP hD hS hl
  exact W.widen h1 h2 (va_forget (fun q hq => CE.1 _ (hS.2.2 q hq)) (CE.2 H ls))
theorem lt_sub4 {L i : Nat} (hL : L ≤ 2050) (hi : i ≤ 4000) : nI L - 4 < nI i ↔ L < i + 4 := by
  have h1 := pk_sub_toInt (a := L) (b := 4) (by omega) (by omega)
  rw [Int32.lt_iff_toInt_lt, show (nI L - 4).toInt = (L : Int) - 4 from h1, nI_toInt (by omega)]
  omega
set_option maxHeartbeats 4000000 in
set_option maxRecDepth 100000 in
theorem law_loop {X : gx_T} {D : va_G} {ad o : Nat → Nat} {ct : Nat → ClassId} {F S w0 b L : Nat} {xs : Nat → Int32} (C : gC X cL_law 7 RL room_1 ret D (gt ct) (fun _ _ => False)) (CS : gS X b L xs) (CH : gCH X) (CE : gE X) (hL : L ≤ 2050) : ∀ (d j : Nat), j + d = 513 → ∀ (φ : Nat → Nat) (σ : ph_S) (μ : pm_S) (f : Nat → Int64), pr_R F S 0 φ σ μ → ph_ok F S σ → gV X (30 + 3 * j) (6000 + 17 * j) (lwW ad ct F S σ w0 f o μ) 43 [(4, .int (nI (2 + 4 * j))), (3, .ref w0), (2, .ref (o 0)), (1, .ref (ad 0)), (0, .ref b)] [] := by
  intro d
  induction d with
  | zero =>
    intro j hj φ σ μ f hR hok
    refine gV_iload (pc := 43) C dL_law_43 0 rfl ?_
    refine gV_aload_n (pc := 45) (x := b) C dL_law_45 4 rfl rfl ?_
    refine gV_slen (pc := 46) C CS dL_law_46 ?_
    refine gV_iconst (pc := 47) (v := 4) C dL_law_47 (by decide) ?_
    refine gV_isub (pc := 48) C dL_law_48 ?_
    refine gV_icmp_gt (pc := 49) C 574 dL_law_49 (by decide) (fun c_1 => ?_) (fun c_1 => ?_)
    · refine gV_iconst (pc := 574) (v := 1) C dL_law_574 (by decide) ?_
      exact gL_end CE (by omega) (by omega)
    · exact absurd ((lt_sub4 hL (by omega)).mpr (by omega)) c_1
  | succ d ih =>
    intro j hj φ σ μ f hR hok
    refine gV_iload (pc := 43) C dL_law_43 0 rfl ?_
    refine gV_aload_n (pc := 45) (x := b) C dL_law_45 4 rfl rfl ?_
    refine gV_slen (pc := 46) C CS dL_law_46 ?_
    refine gV_iconst (pc := 47) (v := 4) C dL_law_47 (by decide) ?_
    refine gV_isub (pc := 48) C dL_law_48 ?_
    refine gV_icmp_gt (pc := 49) C 574 dL_law_49 (by decide) (fun c_1 => ?_) (fun c_1 => ?_)
    · refine gV_iconst (pc := 574) (v := 1) C dL_law_574 (by decide) ?_
      exact gL_end CE (by omega) (by omega)
    · have hj6 : 6 + 4 * j ≤ L := by
        have := mt (lt_sub4 (i := 2 + 4 * j) hL (by omega)).mpr c_1
        omega
      have hk : ∀ (φ' : Nat → Nat) (σ' : ph_S) (μ' : pm_S) (f' : Nat → Int64), pr_R F S 0 φ' σ' μ' → ph_ok F S σ' → gV X (30 + 3 * (j + 1)) (6000 + 17 * (j + 1)) (lwW ad ct F S σ' w0 f' o μ') 568 [(4, .int (nI (2 + 4 * j))), (3, .ref w0), (2, .ref (o 0)), (1, .ref (ad 0)), (0, .ref b)] [] := by
        intro φ' σ' μ' f' hR' hok'
        refine gV_iinc (pc := 568) (v := nI (2 + 4 * (j + 1))) (lv' := [(4, .int (nI (2 + 4 * (j + 1)))), (3, .ref w0), (2, .ref (o 0)), (1, .ref (ad 0)), (0, .ref b)]) C dL_law_568 0 rfl (show nI (2 + 4 * j) + 4 = nI (2 + 4 * (j + 1)) from (nI_add _ 4).trans (congrArg nI (by omega))) (by decide) rfl ?_
        refine gV_goto (pc := 571) C 43 dL_law_571 (by decide) ?_
        exact ih (j + 1) (by omega) φ' σ' μ' f' hR' hok'
      refine gV_aload_n (pc := 52) (x := b) C dL_law_52 4 rfl rfl ?_
      refine gV_iload (pc := 53) C dL_law_53 0 rfl ?_
      refine gV_sld (pc := 55) C CS (vp_in_nI (by omega) (by omega)) dL_law_55 ?_
      rw [nI_clamp (by omega)]
      refine gV_bipush (pc := 56) (v := 15) C dL_law_56 (by decide) ?_
      refine gV_iand (pc := 58) C dL_law_58 ?_
      generalize xs (2 + 4 * j) &&& 15 = z
      by_cases t_0 : z = 0
      · refine gV_tableIn (pc := 59) C 116 dL_law_59 (by rw [t_0]; decide) (by rw [t_0]; decide) (by rw [t_0]; rfl) (by decide) ?_
        exact lc_begin C CS CH hL hj6 hR hok hk
      by_cases t_1 : z = 1
      · refine gV_tableIn (pc := 59) C 141 dL_law_59 (by rw [t_1]; decide) (by rw [t_1]; decide) (by rw [t_1]; rfl) (by decide) ?_
        exact lc_fork C CS CH hL hj6 hR hok hk
      by_cases t_2 : z = 2
      · refine gV_tableIn (pc := 59) C 166 dL_law_59 (by rw [t_2]; decide) (by rw [t_2]; decide) (by rw [t_2]; rfl) (by decide) ?_
        exact lc_end C CS CH hL hj6 hR hok hk
      by_cases t_3 : z = 3
      · refine gV_tableIn (pc := 59) C 191 dL_law_59 (by rw [t_3]; decide) (by rw [t_3]; decide) (by rw [t_3]; rfl) (by decide) ?_
        exact lc_read C CS CH hL hj6 hR hok hk
      by_cases t_4 : z = 4
      · refine gV_tableIn (pc := 59) C 259 dL_law_59 (by rw [t_4]; decide) (by rw [t_4]; decide) (by rw [t_4]; rfl) (by decide) ?_
        exact lc_write C CS CH hL hj6 hR hok hk
      by_cases t_5 : z = 5
      · refine gV_tableIn (pc := 59) C 339 dL_law_59 (by rw [t_5]; decide) (by rw [t_5]; decide) (by rw [t_5]; rfl) (by decide) ?_
        exact lc_drop C CS CH hL hj6 hR hok hk
      by_cases t_6 : z = 6
      · refine gV_tableIn (pc := 59) C 376 dL_law_59 (by rw [t_6]; decide) (by rw [t_6]; decide) (by rw [t_6]; rfl) (by decide) ?_
        exact lc_flush C CS CH hL hj6 hR hok hk
      by_cases t_7 : z = 7
      · refine gV_tableIn (pc := 59) C 389 dL_law_59 (by rw [t_7]; decide) (by rw [t_7]; decide) (by rw [t_7]; rfl) (by decide) ?_
        exact lc_page C CS CH hL hj6 hR hok hk
      by_cases t_8 : z = 8
      · refine gV_tableIn (pc := 59) C 438 dL_law_59 (by rw [t_8]; decide) (by rw [t_8]; decide) (by rw [t_8]; rfl) (by decide) ?_
        exact lc_frame C CS CH hL hj6 hR hok hk
      by_cases t_9 : z = 9
      · refine gV_tableIn (pc := 59) C 475 dL_law_59 (by rw [t_9]; decide) (by rw [t_9]; decide) (by rw [t_9]; rfl) (by decide) ?_
        exact lc_stored C CS CH hL hj6 hR hok hk
      by_cases t_10 : z = 10
      · refine gV_tableIn (pc := 59) C 543 dL_law_59 (by rw [t_10]; decide) (by rw [t_10]; decide) (by rw [t_10]; rfl) (by decide) ?_
        exact lc_look C CS CH hL hj6 hR hok hk
      have n_0 : z.toInt ≠ 0 := fun e => t_0 (Int32.toInt_inj.mp (e.trans (by decide)))
      have n_1 : z.toInt ≠ 1 := fun e => t_1 (Int32.toInt_inj.mp (e.trans (by decide)))
      have n_2 : z.toInt ≠ 2 := fun e => t_2 (Int32.toInt_inj.mp (e.trans (by decide)))
      have n_3 : z.toInt ≠ 3 := fun e => t_3 (Int32.toInt_inj.mp (e.trans (by decide)))
      have n_4 : z.toInt ≠ 4 := fun e => t_4 (Int32.toInt_inj.mp (e.trans (by decide)))
      have n_5 : z.toInt ≠ 5 := fun e => t_5 (Int32.toInt_inj.mp (e.trans (by decide)))
      have n_6 : z.toInt ≠ 6 := fun e => t_6 (Int32.toInt_inj.mp (e.trans (by decide)))
      have n_7 : z.toInt ≠ 7 := fun e => t_7 (Int32.toInt_inj.mp (e.trans (by decide)))
      have n_8 : z.toInt ≠ 8 := fun e => t_8 (Int32.toInt_inj.mp (e.trans (by decide)))
      have n_9 : z.toInt ≠ 9 := fun e => t_9 (Int32.toInt_inj.mp (e.trans (by decide)))
      have n_10 : z.toInt ≠ 10 := fun e => t_10 (Int32.toInt_inj.mp (e.trans (by decide)))
      refine gV_tableOut (pc := 59) C 568 dL_law_59 (by omega) (by decide) ?_
      exact gV_widen (by omega) (by omega) (hk φ σ μ f hR hok)
set_option maxHeartbeats 4000000 in
set_option maxRecDepth 100000 in
/-- the law from its entry, in our judgement -/
theorem law_start {X : gx_T} {D : va_G} {ct : Nat → ClassId} {b L : Nat} {xs : Nat → Int32} (C : gC X cL_law 7 RL room_1 ret D (gt ct) (fun _ _ => False)) (CS : gS X b L xs) (CH : gCH X) (CE : gE X) (hL : L ≤ 2050) : gV X 0 0 [] 0 (lv_args 0 [.ref b]) [] := by
  refine gV_new (pc := 0) C pw_fl_X2 tyX2 tyX2_ok cl_L_8 in_X2 ini_X2 2 rfl (fs := [.null, .null, .null, .int 0, .null, .null, .int 0, .int 0, .int 0, .int 0, .int 0]) (fun j hj => by rcases (show j = 0 ∨ j = 1 ∨ j = 2 ∨ j = 3 ∨ j = 4 ∨ j = 5 ∨ j = 6 ∨ j = 7 ∨ j = 8 ∨ j = 9 ∨ j = 10 by omega) with rfl | rfl | rfl | rfl | rfl | rfl | rfl | rfl | rfl | rfl | rfl <;> rfl) (by decide) (by decide) dL_law_0 (fun x0 _ => ?_)
  refine gV_dup (pc := 3) C dL_law_3 rfl ?_
  refine gV_aload_n (pc := 4) (x := b) C dL_law_4 0 rfl rfl ?_
  refine gV_iconst (pc := 5) (v := 0) C dL_law_5 (by decide) ?_
  refine gV_callSS (pc := 6) (As := [.ref b, .int (nI 0)]) (rest := [.ref x0, .ref x0]) C CS ml_L_24 (pw_t 189 (by decide +kernel) rfl) gy_L_cell gs_L_cell (e_cell 0 (by omega) (by omega)) rfl rfl ⟨by decide, by decide⟩ (Nat.le_of_ble_eq_true rfl) (by decide) (by decide) dL_law_6 ?_
  rintro _ _ ⟨rfl, rfl⟩
  generalize hz0 : (if L ≤ 0 then (0 : Int32) else xs 0) = z0
  refine gV_aload_n (pc := 9) (x := b) C dL_law_9 0 rfl rfl ?_
  refine gV_iconst (pc := 10) (v := 1) C dL_law_10 (by decide) ?_
  refine gV_callSS (pc := 11) (As := [.ref b, .int (nI 1)]) (rest := [.int z0, .ref x0, .ref x0]) C CS ml_L_24 (pw_t 189 (by decide +kernel) rfl) gy_L_cell gs_L_cell (e_cell 1 (by omega) (by omega)) rfl rfl ⟨by decide, by decide⟩ (Nat.le_of_ble_eq_true rfl) (by decide) (by decide) dL_law_11 ?_
  rintro _ _ ⟨rfl, rfl⟩
  generalize hz1 : (if L ≤ 1 then (0 : Int32) else xs 1) = z1
  refine gV_ws (ws' := [(x0, .inr (2, [.null, .null, .null, .int 0, .null, .null, .int 0, .int 0, .int 0, .int 0, .int 0]))]) rfl ?_
  refine gV_callI (pc := 14) (As := [.int z0, .int z1]) (rest := [.ref x0]) C ml_L_30 gy_X2_init gi_X2_init (c_pager z0 z1) rfl rfl ⟨by decide, by decide⟩ (Nat.le_of_ble_eq_true rfl) (by decide) (by decide) dL_law_14 ?_
  rintro _ _ ⟨ad, rfl, rfl, rfl⟩
  refine gV_astore_n (pc := 17) (x := ad 0) (lv' := [(1, .ref (ad 0)), (0, .ref b)]) C dL_law_17 rfl (by decide) rfl ?_
  refine gV_new (pc := 18) C pw_fl_X3 tyX3 tyX3_ok cl_L_33 in_X3 ini_X3 3 rfl (fs := [.int 0, .int 0, .int 0, .null, .null, .null, .null, .null, .null, .null, .null, .null, .int 0, .int 0, .int 0, .int 0, .int 0, .int 0]) (fun j hj => by rcases (show j = 0 ∨ j = 1 ∨ j = 2 ∨ j = 3 ∨ j = 4 ∨ j = 5 ∨ j = 6 ∨ j = 7 ∨ j = 8 ∨ j = 9 ∨ j = 10 ∨ j = 11 ∨ j = 12 ∨ j = 13 ∨ j = 14 ∨ j = 15 ∨ j = 16 ∨ j = 17 by omega) with rfl | rfl | rfl | rfl | rfl | rfl | rfl | rfl | rfl | rfl | rfl | rfl | rfl | rfl | rfl | rfl | rfl | rfl <;> rfl) (by decide) (by decide) dL_law_18 (fun y0 _ => ?_)
  refine gV_dup (pc := 21) C dL_law_21 rfl ?_
  refine gV_aload_n (pc := 22) (x := b) C dL_law_22 1 rfl rfl ?_
  refine gV_iconst (pc := 23) (v := 0) C dL_law_23 (by decide) ?_
  refine gV_callSS (pc := 24) (As := [.ref b, .int (nI 0)]) (rest := [.ref y0, .ref y0]) C CS ml_L_24 (pw_t 189 (by decide +kernel) rfl) gy_L_cell gs_L_cell (e_cell 0 (by omega) (by omega)) rfl rfl ⟨by decide, by decide⟩ (Nat.le_of_ble_eq_true rfl) (by decide) (by decide) dL_law_24 ?_
  rintro _ _ ⟨rfl, rfl⟩
  rw [hz0]
  refine gV_aload_n (pc := 27) (x := b) C dL_law_27 1 rfl rfl ?_
  refine gV_iconst (pc := 28) (v := 1) C dL_law_28 (by decide) ?_
  refine gV_callSS (pc := 29) (As := [.ref b, .int (nI 1)]) (rest := [.int z0, .ref y0, .ref y0]) C CS ml_L_24 (pw_t 189 (by decide +kernel) rfl) gy_L_cell gs_L_cell (e_cell 1 (by omega) (by omega)) rfl rfl ⟨by decide, by decide⟩ (Nat.le_of_ble_eq_true rfl) (by decide) (by decide) dL_law_29 ?_
  rintro _ _ ⟨rfl, rfl⟩
  rw [hz1]
  refine gV_ws (ws' := cw ad ct (ph_F z0) (ph_Sn z1) ph_0 ++ [(y0, .inr (3, [.int 0, .int 0, .int 0, .null, .null, .null, .null, .null, .null, .null, .null, .null, .int 0, .int 0, .int 0, .int 0, .int 0, .int 0]))]) rfl (gV_swap ?_)
  refine gV_callIr (pc := 32) (As := [.int z0, .int z1]) (rest := [.ref y0]) C ml_L_35 gy_X3_init gi_X3_init (d_model z0 z1) rfl rfl rfl ⟨by decide, by decide⟩ (Nat.le_of_ble_eq_true rfl) (by decide) (by decide) dL_law_32 ?_
  rintro _ _ ⟨o, rfl, rfl, rfl⟩
  refine gV_astore_n (pc := 35) (x := o 0) (lv' := [(2, .ref (o 0)), (1, .ref (ad 0)), (0, .ref b)]) C dL_law_35 rfl (by decide) rfl ?_
  refine gV_iconst (pc := 36) (v := 1) C dL_law_36 (by decide) ?_
  refine gV_newa (pc := 37) C w_arrJ rfl 3 (N := 1) (a0 := (1, .inr (.inl (fun _ => 0)))) rfl (fun _ => rfl) (by decide) (by decide) (by decide) (by decide) (by decide) dL_law_37 (fun w0 => ?_)
  refine gV_astore_n (pc := 39) (x := w0) (lv' := [(3, .ref w0), (2, .ref (o 0)), (1, .ref (ad 0)), (0, .ref b)]) C dL_law_39 rfl (by decide) rfl ?_
  refine gV_iconst (pc := 40) (v := 2) C dL_law_40 (by decide) ?_
  refine gV_istore (pc := 41) (lv' := [(4, .int 2), (3, .ref w0), (2, .ref (o 0)), (1, .ref (ad 0)), (0, .ref b)]) C dL_law_41 (by decide) rfl ?_
  refine gV_ws (ws' := mw o ct (pm_0 (ph_F z0) (ph_Sn z1)) ++ (cw ad ct (ph_F z0) (ph_Sn z1) ph_0 ++ lw_o ct w0 (fun _ => 0))) (List.append_assoc _ _ _) (gV_swap ?_)
  obtain ⟨hF2, hF16, -⟩ := ph_F_in z0
  obtain ⟨hS64, -⟩ := ph_Sn_in z1
  refine gV_widen (k' := 30 + 3 * 0) (n' := 6000 + 17 * 0) (by decide) (by decide) ?_
  exact law_loop C CS CH CE hL 513 0 rfl (fun _ => 0) ph_0 _ (fun _ => 0) (R_0 _ _) (ok_0 hF2 hF16 hS64)
