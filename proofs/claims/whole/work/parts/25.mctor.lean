theorem wf_X3_7 : Cond.fieldLink RX3 7 "PagerHouseModel" "pages" "[I" ∈ pw_all := pw_t 642 (by decide +kernel) rfl
theorem wf_X3_13 : Cond.fieldLink RX3 13 "PagerHouseModel" "bodyOf" "[I" ∈ pw_all := pw_t 643 (by decide +kernel) rfl
theorem wf_X3_16 : Cond.fieldLink RX3 16 "PagerHouseModel" "is" "[Z" ∈ pw_all := pw_t 644 (by decide +kernel) rfl
theorem wf_X3_20 : Cond.fieldLink RX3 20 "PagerHouseModel" "frameOf" "[I" ∈ pw_all := pw_t 645 (by decide +kernel) rfl
theorem wf_X3_23 : Cond.fieldLink RX3 23 "PagerHouseModel" "sectorOf" "[I" ∈ pw_all := pw_t 646 (by decide +kernel) rfl
theorem wf_X3_26 : Cond.fieldLink RX3 26 "PagerHouseModel" "dirty" "[Z" ∈ pw_all := pw_t 647 (by decide +kernel) rfl
theorem wf_X3_29 : Cond.fieldLink RX3 29 "PagerHouseModel" "inFrame" "[I" ∈ pw_all := pw_t 648 (by decide +kernel) rfl
theorem wf_X3_32 : Cond.fieldLink RX3 32 "PagerHouseModel" "inSector" "[I" ∈ pw_all := pw_t 649 (by decide +kernel) rfl
theorem wf_X3_35 : Cond.fieldLink RX3 35 "PagerHouseModel" "used" "[Z" ∈ pw_all := pw_t 650 (by decide +kernel) rfl
theorem wf_X3_38 : Cond.fieldLink RX3 38 "PagerHouseModel" "frames" "I" ∈ pw_all := pw_t 640 (by decide +kernel) rfl
theorem wf_X3_42 : Cond.fieldLink RX3 42 "PagerHouseModel" "sectors" "I" ∈ pw_all := pw_t 641 (by decide +kernel) rfl
theorem mcl1 {lo hi x : Int32} (h : ¬ lo ≤ x) (hlh : ¬ hi < lo) : ph_cl lo hi x = lo := by
  unfold ph_cl
  rw [if_pos (Int32.not_le.mp h), if_neg hlh]
theorem mcl2 {lo hi x : Int32} (h : lo ≤ x) (h2 : x ≤ hi) : ph_cl lo hi x = x := by
  unfold ph_cl
  rw [if_neg (Int32.not_lt.mpr h), if_neg (Int32.not_lt.mpr h2)]
theorem mcl3 {lo hi x : Int32} (h : lo ≤ x) (h2 : ¬ x ≤ hi) : ph_cl lo hi x = hi := by
  unfold ph_cl
  rw [if_neg (Int32.not_lt.mpr h), if_pos (Int32.not_le.mp h2)]
/-- the reference, before its rows are set -/
def pm_00 (F S : Nat) : pm_S := (fun k => match k with | 1 => nI F | 2 => nI S | _ => 0, fun _ _ => 0)
def pm_0i (F S i : Nat) : pm_S := pm_fA (pm_00 F S) 1 (ph_fill (pm_A (pm_00 F S) 1) 0 (0 + i) (-1))
/-- a new reference -/
def pm_0 (F S : Nat) : pm_S := pm_0i F S 256
abbrev rm_X3_init : Room := { frames := 1, cells := 9, slots := 2760, locals := 60 }
set_option maxHeartbeats 4000000 in
set_option maxRecDepth 100000 in
theorem mlp_init {X : gx_T} {D : va_G} {ct : Nat → ClassId} {h0 : Nat} {o : Nat → Nat} {f s : Int32} (ho : o 0 = h0) (C : gC X cX3_init 4 RX3 rm_X3_init none D (gt ct) (fun v w => ∃ o : Nat → Nat, o 0 = h0 ∧ v = none ∧ w = mw o ct (pm_0 (ph_F f) (ph_Sn s)))) : ∀ d i : Nat, i + d = 256 → gV X 9 2760 (mw o ct (pm_0i (ph_F f) (ph_Sn s) i)) 134 [(3, .int (nI i)), (0, .ref h0), (1, .int f), (2, .int s)] [] := by
  subst ho
  intro d
  induction d with
  | zero =>
    intro i hi
    have e : i = 256 := by omega
    rw [e]
    refine gV_iload_n (pc := 134) C dX3_init_134 0 rfl rfl ?_
    refine gV_sipush (pc := 135) (v := 256) C dX3_init_135 (by decide) ?_
    refine gV_icmp_ge (pc := 138) C 154 dX3_init_138 (by decide) (fun c_1 => ?_) (fun c_1 => ?_)
    · skip
      refine gV_vret (pc := 154) C dX3_init_154 (by decide) (by decide) ?_
      exact ⟨o, rfl, rfl, rfl⟩
    · exact absurd (by decide) c_1
  | succ d ih =>
    intro i hi
    refine gV_iload_n (pc := 134) C dX3_init_134 0 rfl rfl ?_
    refine gV_sipush (pc := 135) (v := 256) C dX3_init_135 (by decide) ?_
    refine gV_icmp_ge (pc := 138) C 154 dX3_init_138 (by decide) (fun c_1 => ?_) (fun c_1 => ?_)
    · exact absurd c_1 (nI_ge (a := i) (b := 256) (by omega) (by omega))
    · skip
      refine gV_aload_n (pc := 141) (x := o 0) C dX3_init_141 1 rfl rfl ?_
      refine mg_bodyOf (pc := 142) C fl_X3_13 dX3_init_142 ?_
      refine gV_iload_n (pc := 145) C dX3_init_145 0 rfl rfl ?_
      refine gV_iconst (pc := 146) (v := (-1)) C dX3_init_146 (by decide) ?_
      refine ms_bodyOf (pc := 147) C (vp_in_nI (by omega) (by omega)) dX3_init_147 ?_
      rw [nI_clamp (by omega)]
      refine gV_iinc (pc := 148) (v := nI (i + 1)) (lv' := [(3, .int (nI (i + 1))), (0, .ref (o 0)), (1, .int f), (2, .int s)]) C dX3_init_148 0 rfl (nI_1 _) (by decide) rfl ?_
      refine gV_goto (pc := 151) C 134 dX3_init_151 (by decide) ?_
      rw [show pm_sA (pm_0i (ph_F f) (ph_Sn s) i) 1 i (-1) = pm_0i (ph_F f) (ph_Sn s) (i + 1) by rw [pm_0i, pm_sA_fA, show va_up (ph_fill (pm_A (pm_00 (ph_F f) (ph_Sn s)) 1) 0 (0 + i) (-1)) i (-1) = ph_fill (pm_A (pm_00 (ph_F f) (ph_Sn s)) 1) 0 (0 + (i + 1)) (-1) by rw [← fill_s, Nat.zero_add], ← pm_0i]]
      exact ih (i + 1) (by omega)
set_option maxHeartbeats 4000000 in
set_option maxRecDepth 100000 in
/-- the reference, made -/
theorem d_model {D : va_G} {ct : Nat → ClassId} {h0 : Nat} (f s : Int32) : gM yX3_init cX3_init 4 none rm_X3_init D (gt ct) [(h0, .inr (3, [.int 0, .int 0, .int 0, .null, .null, .null, .null, .null, .null, .null, .null, .null, .int 0, .int 0, .int 0, .int 0, .int 0, .int 0]))] [.ref h0, .int f, .int s] (fun v w => ∃ o : Nat → Nat, o 0 = h0 ∧ v = none ∧ w = mw o ct (pm_0 (ph_F f) (ph_Sn s))) := by
  obtain ⟨hF2, hF16, eF⟩ := ph_F_in f
  obtain ⟨hS64, eS⟩ := ph_Sn_in s
  refine gM_inI RX3 rfl rfl (by decide) (Nat.le_of_ble_eq_true rfl) (fun X C hI => ?_)
  refine gV_aload_n (pc := 0) (x := h0) C dX3_init_0 0 rfl rfl ?_
  refine gV_objInit (pc := 1) C w_obj_X3 w_obj_i w_obj_c (Nat.le_of_ble_eq_true rfl) (by decide) dX3_init_1 ?_
  refine gV_aload_n (pc := 4) (x := h0) C dX3_init_4 0 rfl rfl ?_
  refine gV_bipush (pc := 5) (v := 8) C dX3_init_5 (by decide) ?_
  refine gV_newa (pc := 7) C w_arrI rfl 0 (N := 8) (a0 := (8, .inl (fun _ => 0))) rfl (fun _ => rfl) (by decide) (by decide) (by decide) (by decide) (by decide) dX3_init_7 (fun q1 => ?_)
  refine gV_putF (pc := 9) (ty := .array .int) C hI pw_fl_X3 tyX3 tyX3_ok nmX3 0 3 3 wf_X3_7 rfl rfl (by decide) rfl rfl (by decide +kernel) rfl rfl (Nat.le_of_ble_eq_true rfl) dX3_init_9 ?_
  refine gV_aload_n (pc := 12) (x := h0) C dX3_init_12 0 rfl rfl ?_
  refine gV_sipush (pc := 13) (v := 256) C dX3_init_13 (by decide) ?_
  refine gV_newa (pc := 16) C w_arrI rfl 0 (N := 256) (a0 := (256, .inl (fun _ => 0))) rfl (fun _ => rfl) (by decide) (by decide) (by decide) (by decide) (by decide) dX3_init_16 (fun q2 => ?_)
  refine gV_putF (pc := 18) (ty := .array .int) C hI pw_fl_X3 tyX3 tyX3_ok nmX3 0 3 4 wf_X3_13 rfl rfl (by decide) rfl rfl (by decide +kernel) rfl rfl (Nat.le_of_ble_eq_true rfl) dX3_init_18 ?_
  refine gV_aload_n (pc := 21) (x := h0) C dX3_init_21 0 rfl rfl ?_
  refine gV_sipush (pc := 22) (v := 300) C dX3_init_22 (by decide) ?_
  refine gV_newa (pc := 25) C w_arrZ rfl 1 (N := 300) (a0 := (300, .inl (fun _ => 0))) rfl (fun _ => rfl) (by decide) (by decide) (by decide) (by decide) (by decide) dX3_init_25 (fun q3 => ?_)
  refine gV_putF (pc := 27) (ty := .array .boolean) C hI pw_fl_X3 tyX3 tyX3_ok nmX3 0 3 5 wf_X3_16 rfl rfl (by decide) rfl rfl (by decide +kernel) rfl rfl (Nat.le_of_ble_eq_true rfl) dX3_init_27 ?_
  refine gV_aload_n (pc := 30) (x := h0) C dX3_init_30 0 rfl rfl ?_
  refine gV_sipush (pc := 31) (v := 300) C dX3_init_31 (by decide) ?_
  refine gV_newa (pc := 34) C w_arrI rfl 0 (N := 300) (a0 := (300, .inl (fun _ => 0))) rfl (fun _ => rfl) (by decide) (by decide) (by decide) (by decide) (by decide) dX3_init_34 (fun q4 => ?_)
  refine gV_putF (pc := 36) (ty := .array .int) C hI pw_fl_X3 tyX3 tyX3_ok nmX3 0 3 6 wf_X3_20 rfl rfl (by decide) rfl rfl (by decide +kernel) rfl rfl (Nat.le_of_ble_eq_true rfl) dX3_init_36 ?_
  refine gV_aload_n (pc := 39) (x := h0) C dX3_init_39 0 rfl rfl ?_
  refine gV_sipush (pc := 40) (v := 300) C dX3_init_40 (by decide) ?_
  refine gV_newa (pc := 43) C w_arrI rfl 0 (N := 300) (a0 := (300, .inl (fun _ => 0))) rfl (fun _ => rfl) (by decide) (by decide) (by decide) (by decide) (by decide) dX3_init_43 (fun q5 => ?_)
  refine gV_putF (pc := 45) (ty := .array .int) C hI pw_fl_X3 tyX3 tyX3_ok nmX3 0 3 7 wf_X3_23 rfl rfl (by decide) rfl rfl (by decide +kernel) rfl rfl (Nat.le_of_ble_eq_true rfl) dX3_init_45 ?_
  refine gV_aload_n (pc := 48) (x := h0) C dX3_init_48 0 rfl rfl ?_
  refine gV_sipush (pc := 49) (v := 300) C dX3_init_49 (by decide) ?_
  refine gV_newa (pc := 52) C w_arrZ rfl 1 (N := 300) (a0 := (300, .inl (fun _ => 0))) rfl (fun _ => rfl) (by decide) (by decide) (by decide) (by decide) (by decide) dX3_init_52 (fun q6 => ?_)
  refine gV_putF (pc := 54) (ty := .array .boolean) C hI pw_fl_X3 tyX3 tyX3_ok nmX3 0 3 8 wf_X3_26 rfl rfl (by decide) rfl rfl (by decide +kernel) rfl rfl (Nat.le_of_ble_eq_true rfl) dX3_init_54 ?_
  refine gV_aload_n (pc := 57) (x := h0) C dX3_init_57 0 rfl rfl ?_
  refine gV_sipush (pc := 58) (v := 256) C dX3_init_58 (by decide) ?_
  refine gV_newa (pc := 61) C w_arrI rfl 0 (N := 256) (a0 := (256, .inl (fun _ => 0))) rfl (fun _ => rfl) (by decide) (by decide) (by decide) (by decide) (by decide) dX3_init_61 (fun q7 => ?_)
  refine gV_putF (pc := 63) (ty := .array .int) C hI pw_fl_X3 tyX3 tyX3_ok nmX3 0 3 9 wf_X3_29 rfl rfl (by decide) rfl rfl (by decide +kernel) rfl rfl (Nat.le_of_ble_eq_true rfl) dX3_init_63 ?_
  refine gV_aload_n (pc := 66) (x := h0) C dX3_init_66 0 rfl rfl ?_
  refine gV_sipush (pc := 67) (v := 1024) C dX3_init_67 (by decide) ?_
  refine gV_newa (pc := 70) C w_arrI rfl 0 (N := 1024) (a0 := (1024, .inl (fun _ => 0))) rfl (fun _ => rfl) (by decide) (by decide) (by decide) (by decide) (by decide) dX3_init_70 (fun q8 => ?_)
  refine gV_putF (pc := 72) (ty := .array .int) C hI pw_fl_X3 tyX3 tyX3_ok nmX3 0 3 10 wf_X3_32 rfl rfl (by decide) rfl rfl (by decide +kernel) rfl rfl (Nat.le_of_ble_eq_true rfl) dX3_init_72 ?_
  refine gV_aload_n (pc := 75) (x := h0) C dX3_init_75 0 rfl rfl ?_
  refine gV_bipush (pc := 76) (v := 16) C dX3_init_76 (by decide) ?_
  refine gV_newa (pc := 78) C w_arrZ rfl 1 (N := 16) (a0 := (16, .inl (fun _ => 0))) rfl (fun _ => rfl) (by decide) (by decide) (by decide) (by decide) (by decide) dX3_init_78 (fun q9 => ?_)
  refine gV_putF (pc := 80) (ty := .array .boolean) C hI pw_fl_X3 tyX3 tyX3_ok nmX3 0 3 11 wf_X3_35 rfl rfl (by decide) rfl rfl (by decide +kernel) rfl rfl (Nat.le_of_ble_eq_true rfl) dX3_init_80 ?_
  refine gV_ws (ws' := [(h0, .inr (3, [.int 0, .int 0, .int 0, .ref q1, .ref q2, .ref q3, .ref q4, .ref q5, .ref q6, .ref q7, .ref q8, .ref q9, .int 0, .int 0, .int 0, .int 0, .int 0, .int 0])), (q1, .inl (ct 0, 8, .inl (fun _ => 0))), (q2, .inl (ct 0, 256, .inl (fun _ => 0))), (q3, .inl (ct 1, 300, .inl (fun _ => 0))), (q4, .inl (ct 0, 300, .inl (fun _ => 0))), (q5, .inl (ct 0, 300, .inl (fun _ => 0))), (q6, .inl (ct 1, 300, .inl (fun _ => 0))), (q7, .inl (ct 0, 256, .inl (fun _ => 0))), (q8, .inl (ct 0, 1024, .inl (fun _ => 0))), (q9, .inl (ct 1, 16, .inl (fun _ => 0)))]) rfl ?_
  have k129 : gV X 9 2760 ([(h0, .inr (3, [.int 0, .int (nI (ph_F f)), .int 0, .ref q1, .ref q2, .ref q3, .ref q4, .ref q5, .ref q6, .ref q7, .ref q8, .ref q9, .int 0, .int 0, .int 0, .int 0, .int 0, .int 0])), (q1, .inl (ct 0, 8, .inl (fun _ => 0))), (q2, .inl (ct 0, 256, .inl (fun _ => 0))), (q3, .inl (ct 1, 300, .inl (fun _ => 0))), (q4, .inl (ct 0, 300, .inl (fun _ => 0))), (q5, .inl (ct 0, 300, .inl (fun _ => 0))), (q6, .inl (ct 1, 300, .inl (fun _ => 0))), (q7, .inl (ct 0, 256, .inl (fun _ => 0))), (q8, .inl (ct 0, 1024, .inl (fun _ => 0))), (q9, .inl (ct 1, 16, .inl (fun _ => 0)))]) 129 [(0, .ref h0), (1, .int f), (2, .int s)] [.int (nI (ph_Sn s)), .ref h0] := by
    refine gV_putF (pc := 129) (ty := .int) C hI pw_fl_X3 tyX3 tyX3_ok nmX3 0 3 2 wf_X3_42 rfl rfl (by decide) rfl rfl (by decide +kernel) rfl rfl (Nat.le_of_ble_eq_true rfl) dX3_init_129 ?_
    refine gV_iconst (pc := 132) (v := 0) C dX3_init_132 (by decide) ?_
    refine gV_istore_n (pc := 133) (lv' := [(3, .int 0), (0, .ref h0), (1, .int f), (2, .int s)]) C dX3_init_133 rfl (by decide) rfl ?_
    refine gV_ws (ws' := mw (ad_of [h0, q1, q2, q3, q4, q5, q6, q7, q8, q9]) ct (pm_00 (ph_F f) (ph_Sn s))) rfl ?_
    refine gV_ws (congrArg (mw _ ct) (show _ = pm_0i (ph_F f) (ph_Sn s) 0 by rw [pm_0i, fill_0, pm_fA_self])) ?_
    exact mlp_init (f := f) (s := s) rfl C 256 0 rfl
  have k105 : gV X 9 2760 ([(h0, .inr (3, [.int 0, .int 0, .int 0, .ref q1, .ref q2, .ref q3, .ref q4, .ref q5, .ref q6, .ref q7, .ref q8, .ref q9, .int 0, .int 0, .int 0, .int 0, .int 0, .int 0])), (q1, .inl (ct 0, 8, .inl (fun _ => 0))), (q2, .inl (ct 0, 256, .inl (fun _ => 0))), (q3, .inl (ct 1, 300, .inl (fun _ => 0))), (q4, .inl (ct 0, 300, .inl (fun _ => 0))), (q5, .inl (ct 0, 300, .inl (fun _ => 0))), (q6, .inl (ct 1, 300, .inl (fun _ => 0))), (q7, .inl (ct 0, 256, .inl (fun _ => 0))), (q8, .inl (ct 0, 1024, .inl (fun _ => 0))), (q9, .inl (ct 1, 16, .inl (fun _ => 0)))]) 105 [(0, .ref h0), (1, .int f), (2, .int s)] [.int (nI (ph_F f)), .ref h0] := by
    refine gV_putF (pc := 105) (ty := .int) C hI pw_fl_X3 tyX3 tyX3_ok nmX3 0 3 1 wf_X3_38 rfl rfl (by decide) rfl rfl (by decide +kernel) rfl rfl (Nat.le_of_ble_eq_true rfl) dX3_init_105 ?_
    refine gV_ws (ws' := [(h0, .inr (3, [.int 0, .int (nI (ph_F f)), .int 0, .ref q1, .ref q2, .ref q3, .ref q4, .ref q5, .ref q6, .ref q7, .ref q8, .ref q9, .int 0, .int 0, .int 0, .int 0, .int 0, .int 0])), (q1, .inl (ct 0, 8, .inl (fun _ => 0))), (q2, .inl (ct 0, 256, .inl (fun _ => 0))), (q3, .inl (ct 1, 300, .inl (fun _ => 0))), (q4, .inl (ct 0, 300, .inl (fun _ => 0))), (q5, .inl (ct 0, 300, .inl (fun _ => 0))), (q6, .inl (ct 1, 300, .inl (fun _ => 0))), (q7, .inl (ct 0, 256, .inl (fun _ => 0))), (q8, .inl (ct 0, 1024, .inl (fun _ => 0))), (q9, .inl (ct 1, 16, .inl (fun _ => 0)))]) rfl ?_
    refine gV_aload_n (pc := 108) (x := h0) C dX3_init_108 0 rfl rfl ?_
    refine gV_iload_n (pc := 109) C dX3_init_109 2 rfl rfl ?_
    refine gV_if_ge (pc := 110) C 117 dX3_init_110 (by decide) (fun c_1 => ?_) (fun c_1 => ?_)
    · skip
      refine gV_iload_n (pc := 117) C dX3_init_117 2 rfl rfl ?_
      refine gV_bipush (pc := 118) (v := 64) C dX3_init_118 (by decide) ?_
      refine gV_icmp_le (pc := 120) C 128 dX3_init_120 (by decide) (fun c_2 => ?_) (fun c_2 => ?_)
      · skip
        refine gV_iload_n (pc := 128) C dX3_init_128 2 rfl rfl ?_
        refine gV_st (congrArg (fun z => [Value.int z, .ref h0]) (show (s : Int32) = nI (ph_Sn s) from (mcl2 c_1 c_2).symm.trans eS)) ?_
        exact k129
      · skip
        refine gV_bipush (pc := 123) (v := 64) C dX3_init_123 (by decide) ?_
        refine gV_goto (pc := 125) C 129 dX3_init_125 (by decide) ?_
        refine gV_st (congrArg (fun z => [Value.int z, .ref h0]) (show (64 : Int32) = nI (ph_Sn s) from (mcl3 c_1 c_2).symm.trans eS)) ?_
        exact k129
    · skip
      refine gV_iconst (pc := 113) (v := 0) C dX3_init_113 (by decide) ?_
      refine gV_goto (pc := 114) C 129 dX3_init_114 (by decide) ?_
      refine gV_st (congrArg (fun z => [Value.int z, .ref h0]) (show (0 : Int32) = nI (ph_Sn s) from (mcl1 c_1 (by decide)).symm.trans eS)) ?_
      exact k129
  refine gV_aload_n (pc := 83) (x := h0) C dX3_init_83 0 rfl rfl ?_
  refine gV_iload_n (pc := 84) C dX3_init_84 1 rfl rfl ?_
  refine gV_iconst (pc := 85) (v := 2) C dX3_init_85 (by decide) ?_
  refine gV_icmp_ge (pc := 86) C 93 dX3_init_86 (by decide) (fun c_11 => ?_) (fun c_11 => ?_)
  · skip
    refine gV_iload_n (pc := 93) C dX3_init_93 1 rfl rfl ?_
    refine gV_bipush (pc := 94) (v := 16) C dX3_init_94 (by decide) ?_
    refine gV_icmp_le (pc := 96) C 104 dX3_init_96 (by decide) (fun c_12 => ?_) (fun c_12 => ?_)
    · skip
      refine gV_iload_n (pc := 104) C dX3_init_104 1 rfl rfl ?_
      refine gV_st (congrArg (fun z => [Value.int z, .ref h0]) (show (f : Int32) = nI (ph_F f) from (mcl2 c_11 c_12).symm.trans eF)) ?_
      exact k105
    · skip
      refine gV_bipush (pc := 99) (v := 16) C dX3_init_99 (by decide) ?_
      refine gV_goto (pc := 101) C 105 dX3_init_101 (by decide) ?_
      refine gV_st (congrArg (fun z => [Value.int z, .ref h0]) (show (16 : Int32) = nI (ph_F f) from (mcl3 c_11 c_12).symm.trans eF)) ?_
      exact k105
  · skip
    refine gV_iconst (pc := 89) (v := 2) C dX3_init_89 (by decide) ?_
    refine gV_goto (pc := 90) C 105 dX3_init_90 (by decide) ?_
    refine gV_st (congrArg (fun z => [Value.int z, .ref h0]) (show (2 : Int32) = nI (ph_F f) from (mcl1 c_11 (by decide)).symm.trans eF)) ?_
    exact k105
