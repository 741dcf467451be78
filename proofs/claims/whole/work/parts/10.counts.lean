abbrev rm_X2_countProcesses : Room := { frames := 1, cells := 0, slots := 0, locals := 21 }
set_option maxHeartbeats 4000000 in
set_option maxRecDepth 100000 in
theorem lp_countProcesses {X : gx_T} {D : va_G} {ad : Nat → Nat} {ct : Nat → ClassId} {F S : Nat} {σ : ph_S}  (C : gC X cX2_countProcesses 3 RX2 rm_X2_countProcesses (some .int) D (gt ct) (fun v w => v = some (.int (ph_cp σ)) ∧ w = cw ad ct F S σ)) : ∀ d i : Nat, i + d = 8 → gV X 0 0 (cw ad ct F S σ) 4 [(2, .int (nI i)), (1, .int (nI (ph_cN (fun p => decide (¬ ph_hp σ (nI p) = 0)) i))), (0, .ref (ad 0))] [] := by
  intro d
  induction d with
  | zero =>
    intro i hi
    have e : i = 8 := by omega
    rw [e]
    refine gV_iload_n (pc := 4) C dX2_countProcesses_4 0 rfl rfl ?_
    refine gV_bipush (pc := 5) (v := 8) C dX2_countProcesses_5 (by decide) ?_
    refine gV_icmp_ge (pc := 7) C 27 dX2_countProcesses_7 (by decide) (fun c_1 => ?_) (fun c_1 => ?_)
    · skip
      refine gV_iload_n (pc := 27) C dX2_countProcesses_27 1 rfl rfl ?_
      refine gV_iret (pc := 28) C dX2_countProcesses_28 (by decide) (by decide) ?_
      exact ⟨rfl, rfl⟩
    · exact absurd (nI_le (a := 8) (b := 8) (by omega) (by omega)) c_1
  | succ d ih =>
    intro i hi
    refine gV_iload_n (pc := 4) C dX2_countProcesses_4 0 rfl rfl ?_
    refine gV_bipush (pc := 5) (v := 8) C dX2_countProcesses_5 (by decide) ?_
    refine gV_icmp_ge (pc := 7) C 27 dX2_countProcesses_7 (by decide) (fun c_1 => ?_) (fun c_1 => ?_)
    · exact absurd c_1 (nI_ge (a := i) (b := 8) (by omega) (by omega))
    · skip
      refine gV_aload_n (pc := 10) (x := ad 0) C dX2_countProcesses_10 2 rfl rfl ?_
      refine gV_iload_n (pc := 11) C dX2_countProcesses_11 0 rfl rfl ?_
      refine gV_callV (pc := 12) (As := [.int (nI i)]) (rest := []) C ml_X2_48 gy_X2_hasProcess gv_X2_hasProcess (c_hasProcess _) ⟨0, 2, _, _, rfl, rfl, rfl⟩ rfl rfl ⟨by decide, by decide⟩ (Nat.le_of_ble_eq_true rfl) (by decide) (by decide) dX2_countProcesses_12 ?_
      rintro _ _ ⟨rfl, rfl⟩
      refine gV_if_eq (pc := 15) C 21 dX2_countProcesses_15 (by decide) (fun c_2 => ?_) (fun c_2 => ?_)
      · skip
        refine gV_iinc (pc := 21) (v := nI (i + 1)) (lv' := [(2, .int (nI (i + 1))), (1, .int (nI (ph_cN (fun p => decide (¬ ph_hp σ (nI p) = 0)) i))), (0, .ref (ad 0))]) C dX2_countProcesses_21 0 rfl (nI_1 _) (by decide) rfl ?_
        refine gV_goto (pc := 24) C 4 dX2_countProcesses_24 (by decide) ?_
        refine gV_lv [0, 1, 2] rfl ?_
        have hh := ih (i + 1) (by omega)
        rw [ph_cN_f (f := (fun p => decide (¬ ph_hp σ (nI p) = 0))) (n := i) (by simp [c_2])] at hh
        exact hh
      · skip
        refine gV_iinc (pc := 18) (v := nI (ph_cN (fun p => decide (¬ ph_hp σ (nI p) = 0)) i + 1)) (lv' := [(1, .int (nI (ph_cN (fun p => decide (¬ ph_hp σ (nI p) = 0)) i + 1))), (2, .int (nI i)), (0, .ref (ad 0))]) C dX2_countProcesses_18 1 rfl (nI_1 _) (by decide) rfl ?_
        refine gV_iinc (pc := 21) (v := nI (i + 1)) (lv' := [(2, .int (nI (i + 1))), (1, .int (nI (ph_cN (fun p => decide (¬ ph_hp σ (nI p) = 0)) i + 1))), (0, .ref (ad 0))]) C dX2_countProcesses_21 1 rfl (nI_1 _) (by decide) rfl ?_
        refine gV_goto (pc := 24) C 4 dX2_countProcesses_24 (by decide) ?_
        refine gV_lv [0, 1, 2] rfl ?_
        have hh := ih (i + 1) (by omega)
        rw [ph_cN_t (f := (fun p => decide (¬ ph_hp σ (nI p) = 0))) (n := i) (by simp [c_2])] at hh
        exact hh
set_option maxHeartbeats 4000000 in
set_option maxRecDepth 100000 in
/-- countProcesses -/
theorem c_countProcesses {D : va_G} {ad : Nat → Nat} {ct : Nat → ClassId} {F S : Nat} {σ : ph_S}  : gM yX2_countProcesses cX2_countProcesses 3 (some .int) rm_X2_countProcesses D (gt ct) (cw ad ct F S σ) [.ref (ad 0)] (fun v w => v = some (.int (ph_cp σ)) ∧ w = cw ad ct F S σ) := by
  refine gM_in RX2 rfl (by decide) (Nat.le_of_ble_eq_true rfl) (fun X C => ?_)
  refine gV_iconst (pc := 0) (v := 0) C dX2_countProcesses_0 (by decide) ?_
  refine gV_istore_n (pc := 1) (lv' := [(1, .int 0), (0, .ref (ad 0))]) C dX2_countProcesses_1 rfl (by decide) rfl ?_
  refine gV_iconst (pc := 2) (v := 0) C dX2_countProcesses_2 (by decide) ?_
  refine gV_istore_n (pc := 3) (lv' := [(2, .int 0), (1, .int 0), (0, .ref (ad 0))]) C dX2_countProcesses_3 rfl (by decide) rfl ?_
  exact lp_countProcesses  C 8 0 (Nat.zero_add _)
abbrev rm_X2_countBodies : Room := { frames := 1, cells := 0, slots := 0, locals := 22 }
set_option maxHeartbeats 4000000 in
set_option maxRecDepth 100000 in
theorem lp_countBodies {X : gx_T} {D : va_G} {ad : Nat → Nat} {ct : Nat → ClassId} {F S : Nat} {σ : ph_S} (hok : ph_ok F S σ) (C : gC X cX2_countBodies 4 RX2 rm_X2_countBodies (some .int) D (gt ct) (fun v w => v = some (.int (ph_cb F S σ)) ∧ w = cw ad ct F S σ)) : ∀ d i : Nat, i + d = S → gV X 0 0 (cw ad ct F S σ) 19 [(2, .int (nI i)), (1, .int (nI (F - ph_cf (ph_R σ 0) F + ph_cN (ph_cbB σ) i))), (0, .ref (ad 0))] [] := by
  have hF := hok.F16
  have hS := hok.S64
  intro d
  induction d with
  | zero =>
    intro i hi
    have e : i = S := by omega
    rw [e]
    refine gV_iload_n (pc := 19) C dX2_countBodies_19 0 rfl rfl ?_
    refine gV_aload_n (pc := 20) (x := ad 0) C dX2_countBodies_20 2 rfl rfl ?_
    refine cg_sectors (pc := 21) C fl_X2_27 dX2_countBodies_21 ?_
    refine cg_content2 (pc := 24) C fl_X2_111 dX2_countBodies_24 ?_
    refine cl_sc (pc := 27) C dX2_countBodies_27 ?_
    refine gV_icmp_ge (pc := 28) C 62 dX2_countBodies_28 (by decide) (fun c_1 => ?_) (fun c_1 => ?_)
    · skip
      refine gV_iload_n (pc := 62) C dX2_countBodies_62 1 rfl rfl ?_
      refine gV_iret (pc := 63) C dX2_countBodies_63 (by decide) (by decide) ?_
      exact ⟨rfl, rfl⟩
    · exact absurd (nI_le (a := S) (b := S) (by omega) (by omega)) c_1
  | succ d ih =>
    intro i hi
    refine gV_iload_n (pc := 19) C dX2_countBodies_19 0 rfl rfl ?_
    refine gV_aload_n (pc := 20) (x := ad 0) C dX2_countBodies_20 2 rfl rfl ?_
    refine cg_sectors (pc := 21) C fl_X2_27 dX2_countBodies_21 ?_
    refine cg_content2 (pc := 24) C fl_X2_111 dX2_countBodies_24 ?_
    refine cl_sc (pc := 27) C dX2_countBodies_27 ?_
    refine gV_icmp_ge (pc := 28) C 62 dX2_countBodies_28 (by decide) (fun c_1 => ?_) (fun c_1 => ?_)
    · exact absurd c_1 (nI_ge (a := i) (b := S) (by omega) (by omega))
    · skip
      refine gV_aload_n (pc := 31) (x := ad 0) C dX2_countBodies_31 2 rfl rfl ?_
      refine cg_sectors (pc := 32) C fl_X2_27 dX2_countBodies_32 ?_
      refine cg_content2 (pc := 35) C fl_X2_111 dX2_countBodies_35 ?_
      refine gV_iload_n (pc := 38) C dX2_countBodies_38 0 rfl rfl ?_
      refine ca_sc (pc := 39) C (vp_in_nI (by omega) (by omega)) dX2_countBodies_39 ?_
      rw [nI_clamp (by omega)]
      cases er_2 : ph_R σ 1 i with
      | none =>
        refine gV_astoreq_n (pc := 40) (r := none) (lv' := [(3, .null), (2, .int (nI i)), (1, .int (nI (F - ph_cf (ph_R σ 0) F + ph_cN (ph_cbB σ) i))), (0, .ref (ad 0))]) C dX2_countBodies_40 rfl (by decide) rfl ?_
        refine gV_aloadq_n (pc := 41) (r := none) C dX2_countBodies_41 0 rfl rfl ?_
        refine gV_ifnull (pc := 42) (r := none) C 56 dX2_countBodies_42 (by decide) (fun _ => ?_) (fun _ h => nomatch h)
        refine gV_iinc (pc := 56) (v := nI (i + 1)) (lv' := [(2, .int (nI (i + 1))), (3, .null), (1, .int (nI (F - ph_cf (ph_R σ 0) F + ph_cN (ph_cbB σ) i))), (0, .ref (ad 0))]) C dX2_countBodies_56 1 rfl (nI_1 _) (by decide) rfl ?_
        refine gV_goto (pc := 59) C 19 dX2_countBodies_59 (by decide) ?_
        refine gV_lv [0, 2, 3] rfl ?_
        have hh := ih (i + 1) (by omega)
        rw [ph_cN_f (f := (ph_cbB σ)) (n := i) (by simp [ph_cbB, er_2])] at hh
        exact hh
      | some a_2 =>
        have m_2 : a_2 ∈ ph_L σ := hok.refs _ _ _ er_2
        refine gV_astore_n (pc := 40) (x := a_2) (lv' := [(3, .ref a_2), (2, .int (nI i)), (1, .int (nI (F - ph_cf (ph_R σ 0) F + ph_cN (ph_cbB σ) i))), (0, .ref (ad 0))]) C dX2_countBodies_40 rfl (by decide) rfl ?_
        refine gV_aload_n (pc := 41) (x := a_2) C dX2_countBodies_41 0 rfl rfl ?_
        refine gV_ifnull (pc := 42) (r := some a_2) C 56 dX2_countBodies_42 (by decide) (fun h => nomatch h) (fun _ _ => ?_)
        refine gV_aload_n (pc := 45) (x := a_2) C dX2_countBodies_45 0 rfl rfl ?_
        refine cg_b_frame (pc := 46) (σ := σ) C m_2 fl_X2_76 dX2_countBodies_46 ?_
        refine gV_iconst (pc := 49) (v := (-1)) C dX2_countBodies_49 (by decide) ?_
        refine gV_icmp_ne (pc := 50) C 56 dX2_countBodies_50 (by decide) (fun c_3 => ?_) (fun c_3 => ?_)
        · skip
          refine gV_iinc (pc := 56) (v := nI (i + 1)) (lv' := [(2, .int (nI (i + 1))), (3, .ref a_2), (1, .int (nI (F - ph_cf (ph_R σ 0) F + ph_cN (ph_cbB σ) i))), (0, .ref (ad 0))]) C dX2_countBodies_56 1 rfl (nI_1 _) (by decide) rfl ?_
          refine gV_goto (pc := 59) C 19 dX2_countBodies_59 (by decide) ?_
          refine gV_lv [0, 2, 3] rfl ?_
          have hh := ih (i + 1) (by omega)
          rw [ph_cN_f (f := (ph_cbB σ)) (n := i) (by simp [ph_cbB, er_2, c_3])] at hh
          exact hh
        · skip
          refine gV_iinc (pc := 53) (v := nI (F - ph_cf (ph_R σ 0) F + ph_cN (ph_cbB σ) i + 1)) (lv' := [(1, .int (nI (F - ph_cf (ph_R σ 0) F + ph_cN (ph_cbB σ) i + 1))), (3, .ref a_2), (2, .int (nI i)), (0, .ref (ad 0))]) C dX2_countBodies_53 2 rfl (nI_1 _) (by decide) rfl ?_
          refine gV_iinc (pc := 56) (v := nI (i + 1)) (lv' := [(2, .int (nI (i + 1))), (1, .int (nI (F - ph_cf (ph_R σ 0) F + ph_cN (ph_cbB σ) i + 1))), (3, .ref a_2), (0, .ref (ad 0))]) C dX2_countBodies_56 2 rfl (nI_1 _) (by decide) rfl ?_
          refine gV_goto (pc := 59) C 19 dX2_countBodies_59 (by decide) ?_
          refine gV_lv [0, 1, 3] rfl ?_
          have hh := ih (i + 1) (by omega)
          rw [ph_cN_t (f := (ph_cbB σ)) (n := i) (by simp [ph_cbB, er_2, c_3])] at hh
          exact hh
set_option maxHeartbeats 4000000 in
set_option maxRecDepth 100000 in
/-- countBodies -/
theorem c_countBodies {D : va_G} {ad : Nat → Nat} {ct : Nat → ClassId} {F S : Nat} {σ : ph_S} (hok : ph_ok F S σ) : gM yX2_countBodies cX2_countBodies 4 (some .int) rm_X2_countBodies D (gt ct) (cw ad ct F S σ) [.ref (ad 0)] (fun v w => v = some (.int (ph_cb F S σ)) ∧ w = cw ad ct F S σ) := by
  refine gM_in RX2 rfl (by decide) (Nat.le_of_ble_eq_true rfl) (fun X C => ?_)
  have hF := hok.F16
  have hS := hok.S64
  refine gV_aload_n (pc := 0) (x := ad 0) C dX2_countBodies_0 0 rfl rfl ?_
  refine cg_frames (pc := 1) C fl_X2_23 dX2_countBodies_1 ?_
  refine cg_content1 (pc := 4) C fl_X2_111 dX2_countBodies_4 ?_
  refine cl_fc (pc := 7) C dX2_countBodies_7 ?_
  refine gV_aload_n (pc := 8) (x := ad 0) C dX2_countBodies_8 0 rfl rfl ?_
  refine cg_frames (pc := 9) C fl_X2_23 dX2_countBodies_9 ?_
  refine gV_callV (pc := 12) (As := []) (rest := [.int (nI F)]) C ml_X2_108 gy_X1_countFree gv_X1_countFree (c_countFree1 (by omega)) ⟨1, 1, _, _, rfl, rfl, rfl⟩ rfl rfl ⟨by decide, by decide⟩ (Nat.le_of_ble_eq_true rfl) (by decide) (by decide) dX2_countBodies_12 ?_
  rintro _ _ ⟨rfl, rfl⟩
  refine gV_isub (pc := 15) C dX2_countBodies_15 ?_
  rw [pk_sub (show ph_cf (ph_R σ 0) F ≤ F from ph_cN_le _ _)]
  refine gV_istore_n (pc := 16) (lv' := [(1, .int (nI (F - ph_cf (ph_R σ 0) F))), (0, .ref (ad 0))]) C dX2_countBodies_16 rfl (by decide) rfl ?_
  refine gV_iconst (pc := 17) (v := 0) C dX2_countBodies_17 (by decide) ?_
  refine gV_istore_n (pc := 18) (lv' := [(2, .int 0), (1, .int (nI (F - ph_cf (ph_R σ 0) F))), (0, .ref (ad 0))]) C dX2_countBodies_18 rfl (by decide) rfl ?_
  exact lp_countBodies hok C S 0 (Nat.zero_add _)
abbrev rm_X2_countDirty : Room := { frames := 0, cells := 0, slots := 0, locals := 0 }
set_option maxHeartbeats 4000000 in
set_option maxRecDepth 100000 in
theorem lp_countDirty {X : gx_T} {D : va_G} {ad : Nat → Nat} {ct : Nat → ClassId} {F S : Nat} {σ : ph_S} (hok : ph_ok F S σ) (C : gC X cX2_countDirty 4 RX2 rm_X2_countDirty (some .int) D (gt ct) (fun v w => v = some (.int (ph_cd F σ)) ∧ w = cw ad ct F S σ)) : ∀ d i : Nat, i + d = F → gV X 0 0 (cw ad ct F S σ) 4 [(2, .int (nI i)), (1, .int (nI (ph_cN (ph_cdB σ) i))), (0, .ref (ad 0))] [] := by
  have hF := hok.F16
  have hS := hok.S64
  intro d
  induction d with
  | zero =>
    intro i hi
    have e : i = F := by omega
    rw [e]
    refine gV_iload_n (pc := 4) C dX2_countDirty_4 0 rfl rfl ?_
    refine gV_aload_n (pc := 5) (x := ad 0) C dX2_countDirty_5 2 rfl rfl ?_
    refine cg_frames (pc := 6) C fl_X2_23 dX2_countDirty_6 ?_
    refine cg_content1 (pc := 9) C fl_X2_111 dX2_countDirty_9 ?_
    refine cl_fc (pc := 12) C dX2_countDirty_12 ?_
    refine gV_icmp_ge (pc := 13) C 46 dX2_countDirty_13 (by decide) (fun c_1 => ?_) (fun c_1 => ?_)
    · skip
      refine gV_iload_n (pc := 46) C dX2_countDirty_46 1 rfl rfl ?_
      refine gV_iret (pc := 47) C dX2_countDirty_47 (by decide) (by decide) ?_
      exact ⟨rfl, rfl⟩
    · exact absurd (nI_le (a := F) (b := F) (by omega) (by omega)) c_1
  | succ d ih =>
    intro i hi
    refine gV_iload_n (pc := 4) C dX2_countDirty_4 0 rfl rfl ?_
    refine gV_aload_n (pc := 5) (x := ad 0) C dX2_countDirty_5 2 rfl rfl ?_
    refine cg_frames (pc := 6) C fl_X2_23 dX2_countDirty_6 ?_
    refine cg_content1 (pc := 9) C fl_X2_111 dX2_countDirty_9 ?_
    refine cl_fc (pc := 12) C dX2_countDirty_12 ?_
    refine gV_icmp_ge (pc := 13) C 46 dX2_countDirty_13 (by decide) (fun c_1 => ?_) (fun c_1 => ?_)
    · exact absurd c_1 (nI_ge (a := i) (b := F) (by omega) (by omega))
    · skip
      refine gV_aload_n (pc := 16) (x := ad 0) C dX2_countDirty_16 2 rfl rfl ?_
      refine cg_frames (pc := 17) C fl_X2_23 dX2_countDirty_17 ?_
      refine cg_content1 (pc := 20) C fl_X2_111 dX2_countDirty_20 ?_
      refine gV_iload_n (pc := 23) C dX2_countDirty_23 0 rfl rfl ?_
      refine ca_fc (pc := 24) C (vp_in_nI (by omega) (by omega)) dX2_countDirty_24 ?_
      rw [nI_clamp (by omega)]
      cases er_2 : ph_R σ 0 i with
      | none =>
        refine gV_astoreq_n (pc := 25) (r := none) (lv' := [(3, .null), (2, .int (nI i)), (1, .int (nI (ph_cN (ph_cdB σ) i))), (0, .ref (ad 0))]) C dX2_countDirty_25 rfl (by decide) rfl ?_
        refine gV_aloadq_n (pc := 26) (r := none) C dX2_countDirty_26 0 rfl rfl ?_
        refine gV_ifnull (pc := 27) (r := none) C 40 dX2_countDirty_27 (by decide) (fun _ => ?_) (fun _ h => nomatch h)
        refine gV_iinc (pc := 40) (v := nI (i + 1)) (lv' := [(2, .int (nI (i + 1))), (3, .null), (1, .int (nI (ph_cN (ph_cdB σ) i))), (0, .ref (ad 0))]) C dX2_countDirty_40 1 rfl (nI_1 _) (by decide) rfl ?_
        refine gV_goto (pc := 43) C 4 dX2_countDirty_43 (by decide) ?_
        refine gV_lv [0, 2, 3] rfl ?_
        have hh := ih (i + 1) (by omega)
        rw [ph_cN_f (f := (ph_cdB σ)) (n := i) (by simp [ph_cdB, er_2])] at hh
        exact hh
      | some a_2 =>
        have m_2 : a_2 ∈ ph_L σ := hok.refs _ _ _ er_2
        refine gV_astore_n (pc := 25) (x := a_2) (lv' := [(3, .ref a_2), (2, .int (nI i)), (1, .int (nI (ph_cN (ph_cdB σ) i))), (0, .ref (ad 0))]) C dX2_countDirty_25 rfl (by decide) rfl ?_
        refine gV_aload_n (pc := 26) (x := a_2) C dX2_countDirty_26 0 rfl rfl ?_
        refine gV_ifnull (pc := 27) (r := some a_2) C 40 dX2_countDirty_27 (by decide) (fun h => nomatch h) (fun _ _ => ?_)
        refine gV_aload_n (pc := 30) (x := a_2) C dX2_countDirty_30 0 rfl rfl ?_
        refine cg_b_dirty (pc := 31) (σ := σ) C m_2 fl_X2_97 dX2_countDirty_31 ?_
        refine gV_if_eq (pc := 34) C 40 dX2_countDirty_34 (by decide) (fun c_3 => ?_) (fun c_3 => ?_)
        · skip
          refine gV_iinc (pc := 40) (v := nI (i + 1)) (lv' := [(2, .int (nI (i + 1))), (3, .ref a_2), (1, .int (nI (ph_cN (ph_cdB σ) i))), (0, .ref (ad 0))]) C dX2_countDirty_40 1 rfl (nI_1 _) (by decide) rfl ?_
          refine gV_goto (pc := 43) C 4 dX2_countDirty_43 (by decide) ?_
          refine gV_lv [0, 2, 3] rfl ?_
          have hh := ih (i + 1) (by omega)
          rw [ph_cN_f (f := (ph_cdB σ)) (n := i) (by simp [ph_cdB, er_2, c_3])] at hh
          exact hh
        · skip
          refine gV_iinc (pc := 37) (v := nI (ph_cN (ph_cdB σ) i + 1)) (lv' := [(1, .int (nI (ph_cN (ph_cdB σ) i + 1))), (3, .ref a_2), (2, .int (nI i)), (0, .ref (ad 0))]) C dX2_countDirty_37 2 rfl (nI_1 _) (by decide) rfl ?_
          refine gV_iinc (pc := 40) (v := nI (i + 1)) (lv' := [(2, .int (nI (i + 1))), (1, .int (nI (ph_cN (ph_cdB σ) i + 1))), (3, .ref a_2), (0, .ref (ad 0))]) C dX2_countDirty_40 2 rfl (nI_1 _) (by decide) rfl ?_
          refine gV_goto (pc := 43) C 4 dX2_countDirty_43 (by decide) ?_
          refine gV_lv [0, 1, 3] rfl ?_
          have hh := ih (i + 1) (by omega)
          rw [ph_cN_t (f := (ph_cdB σ)) (n := i) (by simp [ph_cdB, er_2, c_3])] at hh
          exact hh
set_option maxHeartbeats 4000000 in
set_option maxRecDepth 100000 in
/-- countDirty -/
theorem c_countDirty {D : va_G} {ad : Nat → Nat} {ct : Nat → ClassId} {F S : Nat} {σ : ph_S} (hok : ph_ok F S σ) : gM yX2_countDirty cX2_countDirty 4 (some .int) rm_X2_countDirty D (gt ct) (cw ad ct F S σ) [.ref (ad 0)] (fun v w => v = some (.int (ph_cd F σ)) ∧ w = cw ad ct F S σ) := by
  refine gM_in RX2 rfl (by decide) (Nat.le_of_ble_eq_true rfl) (fun X C => ?_)
  have hF := hok.F16
  have hS := hok.S64
  refine gV_iconst (pc := 0) (v := 0) C dX2_countDirty_0 (by decide) ?_
  refine gV_istore_n (pc := 1) (lv' := [(1, .int 0), (0, .ref (ad 0))]) C dX2_countDirty_1 rfl (by decide) rfl ?_
  refine gV_iconst (pc := 2) (v := 0) C dX2_countDirty_2 (by decide) ?_
  refine gV_istore_n (pc := 3) (lv' := [(2, .int 0), (1, .int 0), (0, .ref (ad 0))]) C dX2_countDirty_3 rfl (by decide) rfl ?_
  exact lp_countDirty hok C F 0 (Nat.zero_add _)
abbrev rm_X2_countWithoutSector : Room := { frames := 0, cells := 0, slots := 0, locals := 0 }
set_option maxHeartbeats 4000000 in
set_option maxRecDepth 100000 in
theorem lp_countWithoutSector {X : gx_T} {D : va_G} {ad : Nat → Nat} {ct : Nat → ClassId} {F S : Nat} {σ : ph_S} (hok : ph_ok F S σ) (C : gC X cX2_countWithoutSector 4 RX2 rm_X2_countWithoutSector (some .int) D (gt ct) (fun v w => v = some (.int (ph_cs F σ)) ∧ w = cw ad ct F S σ)) : ∀ d i : Nat, i + d = F → gV X 0 0 (cw ad ct F S σ) 4 [(2, .int (nI i)), (1, .int (nI (ph_cN (ph_csB σ) i))), (0, .ref (ad 0))] [] := by
  have hF := hok.F16
  have hS := hok.S64
  intro d
  induction d with
  | zero =>
    intro i hi
    have e : i = F := by omega
    rw [e]
    refine gV_iload_n (pc := 4) C dX2_countWithoutSector_4 0 rfl rfl ?_
    refine gV_aload_n (pc := 5) (x := ad 0) C dX2_countWithoutSector_5 2 rfl rfl ?_
    refine cg_frames (pc := 6) C fl_X2_23 dX2_countWithoutSector_6 ?_
    refine cg_content1 (pc := 9) C fl_X2_111 dX2_countWithoutSector_9 ?_
    refine cl_fc (pc := 12) C dX2_countWithoutSector_12 ?_
    refine gV_icmp_ge (pc := 13) C 47 dX2_countWithoutSector_13 (by decide) (fun c_1 => ?_) (fun c_1 => ?_)
    · skip
      refine gV_iload_n (pc := 47) C dX2_countWithoutSector_47 1 rfl rfl ?_
      refine gV_iret (pc := 48) C dX2_countWithoutSector_48 (by decide) (by decide) ?_
      exact ⟨rfl, rfl⟩
    · exact absurd (nI_le (a := F) (b := F) (by omega) (by omega)) c_1
  | succ d ih =>
    intro i hi
    refine gV_iload_n (pc := 4) C dX2_countWithoutSector_4 0 rfl rfl ?_
    refine gV_aload_n (pc := 5) (x := ad 0) C dX2_countWithoutSector_5 2 rfl rfl ?_
    refine cg_frames (pc := 6) C fl_X2_23 dX2_countWithoutSector_6 ?_
    refine cg_content1 (pc := 9) C fl_X2_111 dX2_countWithoutSector_9 ?_
    refine cl_fc (pc := 12) C dX2_countWithoutSector_12 ?_
    refine gV_icmp_ge (pc := 13) C 47 dX2_countWithoutSector_13 (by decide) (fun c_1 => ?_) (fun c_1 => ?_)
    · exact absurd c_1 (nI_ge (a := i) (b := F) (by omega) (by omega))
    · skip
      refine gV_aload_n (pc := 16) (x := ad 0) C dX2_countWithoutSector_16 2 rfl rfl ?_
      refine cg_frames (pc := 17) C fl_X2_23 dX2_countWithoutSector_17 ?_
      refine cg_content1 (pc := 20) C fl_X2_111 dX2_countWithoutSector_20 ?_
      refine gV_iload_n (pc := 23) C dX2_countWithoutSector_23 0 rfl rfl ?_
      refine ca_fc (pc := 24) C (vp_in_nI (by omega) (by omega)) dX2_countWithoutSector_24 ?_
      rw [nI_clamp (by omega)]
      cases er_2 : ph_R σ 0 i with
      | none =>
        refine gV_astoreq_n (pc := 25) (r := none) (lv' := [(3, .null), (2, .int (nI i)), (1, .int (nI (ph_cN (ph_csB σ) i))), (0, .ref (ad 0))]) C dX2_countWithoutSector_25 rfl (by decide) rfl ?_
        refine gV_aloadq_n (pc := 26) (r := none) C dX2_countWithoutSector_26 0 rfl rfl ?_
        refine gV_ifnull (pc := 27) (r := none) C 41 dX2_countWithoutSector_27 (by decide) (fun _ => ?_) (fun _ h => nomatch h)
        refine gV_iinc (pc := 41) (v := nI (i + 1)) (lv' := [(2, .int (nI (i + 1))), (3, .null), (1, .int (nI (ph_cN (ph_csB σ) i))), (0, .ref (ad 0))]) C dX2_countWithoutSector_41 1 rfl (nI_1 _) (by decide) rfl ?_
        refine gV_goto (pc := 44) C 4 dX2_countWithoutSector_44 (by decide) ?_
        refine gV_lv [0, 2, 3] rfl ?_
        have hh := ih (i + 1) (by omega)
        rw [ph_cN_f (f := (ph_csB σ)) (n := i) (by simp [ph_csB, er_2])] at hh
        exact hh
      | some a_2 =>
        have m_2 : a_2 ∈ ph_L σ := hok.refs _ _ _ er_2
        refine gV_astore_n (pc := 25) (x := a_2) (lv' := [(3, .ref a_2), (2, .int (nI i)), (1, .int (nI (ph_cN (ph_csB σ) i))), (0, .ref (ad 0))]) C dX2_countWithoutSector_25 rfl (by decide) rfl ?_
        refine gV_aload_n (pc := 26) (x := a_2) C dX2_countWithoutSector_26 0 rfl rfl ?_
        refine gV_ifnull (pc := 27) (r := some a_2) C 41 dX2_countWithoutSector_27 (by decide) (fun h => nomatch h) (fun _ _ => ?_)
        refine gV_aload_n (pc := 30) (x := a_2) C dX2_countWithoutSector_30 0 rfl rfl ?_
        refine cg_b_sector (pc := 31) (σ := σ) C m_2 fl_X2_118 dX2_countWithoutSector_31 ?_
        refine gV_iconst (pc := 34) (v := (-1)) C dX2_countWithoutSector_34 (by decide) ?_
        refine gV_icmp_ne (pc := 35) C 41 dX2_countWithoutSector_35 (by decide) (fun c_3 => ?_) (fun c_3 => ?_)
        · skip
          refine gV_iinc (pc := 41) (v := nI (i + 1)) (lv' := [(2, .int (nI (i + 1))), (3, .ref a_2), (1, .int (nI (ph_cN (ph_csB σ) i))), (0, .ref (ad 0))]) C dX2_countWithoutSector_41 1 rfl (nI_1 _) (by decide) rfl ?_
          refine gV_goto (pc := 44) C 4 dX2_countWithoutSector_44 (by decide) ?_
          refine gV_lv [0, 2, 3] rfl ?_
          have hh := ih (i + 1) (by omega)
          rw [ph_cN_f (f := (ph_csB σ)) (n := i) (by simp [ph_csB, er_2, c_3])] at hh
          exact hh
        · skip
          refine gV_iinc (pc := 38) (v := nI (ph_cN (ph_csB σ) i + 1)) (lv' := [(1, .int (nI (ph_cN (ph_csB σ) i + 1))), (3, .ref a_2), (2, .int (nI i)), (0, .ref (ad 0))]) C dX2_countWithoutSector_38 2 rfl (nI_1 _) (by decide) rfl ?_
          refine gV_iinc (pc := 41) (v := nI (i + 1)) (lv' := [(2, .int (nI (i + 1))), (1, .int (nI (ph_cN (ph_csB σ) i + 1))), (3, .ref a_2), (0, .ref (ad 0))]) C dX2_countWithoutSector_41 2 rfl (nI_1 _) (by decide) rfl ?_
          refine gV_goto (pc := 44) C 4 dX2_countWithoutSector_44 (by decide) ?_
          refine gV_lv [0, 1, 3] rfl ?_
          have hh := ih (i + 1) (by omega)
          rw [ph_cN_t (f := (ph_csB σ)) (n := i) (by simp [ph_csB, er_2, c_3])] at hh
          exact hh
set_option maxHeartbeats 4000000 in
set_option maxRecDepth 100000 in
/-- countWithoutSector -/
theorem c_countWithoutSector {D : va_G} {ad : Nat → Nat} {ct : Nat → ClassId} {F S : Nat} {σ : ph_S} (hok : ph_ok F S σ) : gM yX2_countWithoutSector cX2_countWithoutSector 4 (some .int) rm_X2_countWithoutSector D (gt ct) (cw ad ct F S σ) [.ref (ad 0)] (fun v w => v = some (.int (ph_cs F σ)) ∧ w = cw ad ct F S σ) := by
  refine gM_in RX2 rfl (by decide) (Nat.le_of_ble_eq_true rfl) (fun X C => ?_)
  have hF := hok.F16
  have hS := hok.S64
  refine gV_iconst (pc := 0) (v := 0) C dX2_countWithoutSector_0 (by decide) ?_
  refine gV_istore_n (pc := 1) (lv' := [(1, .int 0), (0, .ref (ad 0))]) C dX2_countWithoutSector_1 rfl (by decide) rfl ?_
  refine gV_iconst (pc := 2) (v := 0) C dX2_countWithoutSector_2 (by decide) ?_
  refine gV_istore_n (pc := 3) (lv' := [(2, .int 0), (1, .int 0), (0, .ref (ad 0))]) C dX2_countWithoutSector_3 rfl (by decide) rfl ?_
  exact lp_countWithoutSector hok C F 0 (Nat.zero_add _)
abbrev rm_X2_leastHolder : Room := { frames := 1, cells := 0, slots := 0, locals := 21 }
set_option maxHeartbeats 4000000 in
set_option maxRecDepth 100000 in
theorem lp_leastHolder {X : gx_T} {D : va_G} {ad : Nat → Nat} {ct : Nat → ClassId} {F S : Nat} {σ : ph_S} {a : Nat} (hok : ph_ok F S σ) (m_a : a ∈ ph_L σ) (C : gC X cX2_leastHolder 3 RX2 rm_X2_leastHolder (some .int) D (gt ct) (fun v w => v = some (.int (ph_lh σ a)) ∧ w = cw ad ct F S σ)) : ∀ d i : Nat, i + d = 8 → ph_lhG σ a d i = ph_lh σ a → gV X 0 0 (cw ad ct F S σ) 2 [(2, .int (nI i)), (0, .ref (ad 0)), (1, .ref a)] [] := by
  obtain ⟨g, hg, eg⟩ := hok.pg m_a
  intro d
  induction d with
  | zero =>
    intro i hi hr
    refine gV_iload_n (pc := 2) C dX2_leastHolder_2 0 rfl rfl ?_
    refine gV_bipush (pc := 3) (v := 8) C dX2_leastHolder_3 (by decide) ?_
    refine gV_icmp_ge (pc := 5) C 33 dX2_leastHolder_5 (by decide) (fun c_1 => ?_) (fun c_1 => ?_)
    · skip
      refine gV_iconst (pc := 33) (v := (-1)) C dX2_leastHolder_33 (by decide) ?_
      refine gV_iret (pc := 34) C dX2_leastHolder_34 (by decide) (by decide) ?_
      exact ⟨by rw [← hr]; rfl, rfl⟩
    · exact absurd (nI_le (a := 8) (b := i) (by omega) (by omega)) c_1
  | succ d ih =>
    intro i hi hr
    have hin : vp_in (nI i * 32 + ph_B σ 0 a) 256 := by rw [eg]; exact slot_in (by omega) hg
    refine gV_iload_n (pc := 2) C dX2_leastHolder_2 0 rfl rfl ?_
    refine gV_bipush (pc := 3) (v := 8) C dX2_leastHolder_3 (by decide) ?_
    refine gV_icmp_ge (pc := 5) C 33 dX2_leastHolder_5 (by decide) (fun c_1 => ?_) (fun c_1 => ?_)
    · exact absurd c_1 (nI_ge (a := i) (b := 8) (by omega) (by omega))
    · skip
      refine gV_aload_n (pc := 8) (x := ad 0) C dX2_leastHolder_8 1 rfl rfl ?_
      refine cg_bodies (pc := 9) C fl_X2_40 dX2_leastHolder_9 ?_
      refine gV_iload_n (pc := 12) C dX2_leastHolder_12 0 rfl rfl ?_
      refine gV_aload_n (pc := 13) (x := a) C dX2_leastHolder_13 2 rfl rfl ?_
      refine cg_b_pageNumber (pc := 14) (σ := σ) C m_a fl_X2_127 dX2_leastHolder_14 ?_
      refine gV_callS (pc := 17) (As := [.int (nI i), .int (ph_B σ 0 a)]) (rest := [.ref (ad 9)]) C ml_X2_52 gy_X2_slot gs_X2_slot (c_slot _ _)  rfl rfl ⟨by decide, by decide⟩ (Nat.le_of_ble_eq_true rfl) (by decide) (by decide) dX2_leastHolder_17 ?_
      rintro _ _ ⟨rfl, rfl⟩
      refine ca_bo (pc := 20) C hin dX2_leastHolder_20 ?_
      refine gV_aload_n (pc := 21) (x := a) C dX2_leastHolder_21 2 rfl rfl ?_
      refine gV_acmp_ne (pc := 22) (rx := ph_R σ 2 (((nI i) * 32 + (ph_B σ 0 a)).toNatClampNeg)) (ry := some a) C 27 dX2_leastHolder_22 (by decide) (fun c_3 => ?_) (fun c_3 => ?_)
      · skip
        refine gV_iinc (pc := 27) (v := nI (i + 1)) (lv' := [(2, .int (nI (i + 1))), (0, .ref (ad 0)), (1, .ref a)]) C dX2_leastHolder_27 0 rfl (nI_1 _) (by decide) rfl ?_
        refine gV_goto (pc := 30) C 2 dX2_leastHolder_30 (by decide) ?_
        refine gV_lv [0, 1, 2] rfl ?_
        exact ih (i + 1) (by omega) (by rw [← hr, ph_lhG, if_neg c_3])
      · skip
        refine gV_iload_n (pc := 25) C dX2_leastHolder_25 0 rfl rfl ?_
        refine gV_iret (pc := 26) C dX2_leastHolder_26 (by decide) (by decide) ?_
        exact ⟨by rw [← hr, ph_lhG, if_pos c_3], rfl⟩
set_option maxHeartbeats 4000000 in
set_option maxRecDepth 100000 in
/-- leastHolder -/
theorem c_leastHolder {D : va_G} {ad : Nat → Nat} {ct : Nat → ClassId} {F S : Nat} {σ : ph_S} {a : Nat} (hok : ph_ok F S σ) (m_a : a ∈ ph_L σ) : gM yX2_leastHolder cX2_leastHolder 3 (some .int) rm_X2_leastHolder D (gt ct) (cw ad ct F S σ) [.ref (ad 0), .ref a] (fun v w => v = some (.int (ph_lh σ a)) ∧ w = cw ad ct F S σ) := by
  refine gM_in RX2 rfl (by decide) (Nat.le_of_ble_eq_true rfl) (fun X C => ?_)
  refine gV_iconst (pc := 0) (v := 0) C dX2_leastHolder_0 (by decide) ?_
  refine gV_istore_n (pc := 1) (lv' := [(2, .int 0), (0, .ref (ad 0)), (1, .ref a)]) C dX2_leastHolder_1 rfl (by decide) rfl ?_
  exact lp_leastHolder hok m_a C 8 0 rfl rfl
