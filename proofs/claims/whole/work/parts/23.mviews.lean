theorem sdx_in {S : Nat} {s i : Int32} (hS : S ≤ 64) (h1 : ¬ s < 0) (h2 : ¬ nI S ≤ s) (h3 : ¬ i < 0) (h4 : i ≤ 15) : vp_in (16 * s + i) 1024 := by
  obtain ⟨a, ha, rfl⟩ := nI_of h1
  obtain ⟨c, hc, rfl⟩ := nI_of h3
  have h5 : a < S := Nat.lt_of_not_le fun z => h2 (nI_le z ha)
  have h6 : c ≤ 15 := (nI_leI hc (by omega)).mp h4
  rw [ix16]
  exact vp_in_nI (by omega) (by omega)
theorem frx_in {F : Nat} {f x : Int32} (hF : F ≤ 16) (h1 : ¬ f < 0) (h2 : f < nI F) (h3 : ¬ x < 16) (h4 : ¬ 32 ≤ x) : vp_in (16 * f + x - 16) 256 := by
  obtain ⟨a, ha, rfl⟩ := nI_of h1
  have h0 : ¬ x < 0 := fun h => h3 (Int32.lt_trans h (by decide))
  obtain ⟨c, hc, rfl⟩ := nI_of h0
  have h5 : a < F := Nat.lt_of_not_le fun z => (nI_nlt z ha) h2
  have h6 : 16 ≤ c := Nat.le_of_not_lt fun z => h3 (nI_lt (a := c) (b := 16) z (by omega))
  have h7 : c < 32 := Nat.lt_of_not_le fun z => h4 (nI_le z hc)
  rw [ix16, show (16 : Int32) = nI 16 from rfl, pk_sub (by omega)]
  exact vp_in_nI (by omega) (by omega)
theorem f_in {F : Nat} {f : Int32} (hF : F ≤ 16) (h1 : ¬ f < 0) (h2 : f < nI F) : vp_in f 16 := by
  obtain ⟨a, ha, rfl⟩ := nI_of h1
  have h5 : a < F := Nat.lt_of_not_le fun z => (nI_nlt z ha) h2
  exact vp_in_nI (by omega) (by omega)
def pm_flS (S : Nat) (μ : pm_S) (i : Nat) : pm_S := if pm_bi μ (nI i) = -1 then μ else if pm_A μ 5 (pm_bi μ (nI i)).toNatClampNeg = 0 then μ else pm_st S μ (pm_bi μ (nI i)).toNatClampNeg
def pm_flG (S : Nat) : Nat → Nat → pm_S → pm_S
  | 0, _, μ => μ
  | d + 1, i, μ => pm_flG S d (i + 1) (pm_flS S μ i)
def pm_flK (S : Nat) : Nat → Nat → pm_S → Prop
  | 0, _, _ => True
  | d + 1, i, μ => (¬ pm_bi μ (nI i) = -1 → ¬ pm_A μ 5 (pm_bi μ (nI i)).toNatClampNeg = 0 → pm_stOK S μ (pm_bi μ (nI i)).toNatClampNeg) ∧ pm_flK S d (i + 1) (pm_flS S μ i)
def pm_flV (S : Nat) (μ : pm_S) : Int32 := if nI (ph_cN (pm_wsB μ) 300) ≤ nI (pm_fs S μ) then nI (ph_cN (pm_diB μ) 300) else -1
def pm_flW (F S : Nat) (μ : pm_S) : pm_S := if nI (ph_cN (pm_wsB μ) 300) ≤ nI (pm_fs S μ) then pm_flG S F 0 μ else μ
theorem st_I1 (S : Nat) (μ : pm_S) (b : Nat) : pm_I (pm_st S μ b) 1 = pm_I μ 1 := by
  have h : ∀ τ : pm_S, ∀ t f, pm_I (pm_st2 τ b t f) 1 = pm_I τ 1 := fun _ _ _ => rfl
  rw [pm_st, h, pm_st1]
  split <;> rfl
theorem flS_I1 (S : Nat) (μ : pm_S) (i : Nat) : pm_I (pm_flS S μ i) 1 = pm_I μ 1 := by
  unfold pm_flS
  split
  · rfl
  · split
    · rfl
    · exact st_I1 _ _ _
theorem bi_nI {μ : pm_S} {f : Int32} (h : ¬ pm_bi μ f = -1) : (pm_bi μ f).toNatClampNeg < 300 ∧ nI (pm_bi μ f).toNatClampNeg = pm_bi μ f := by
  rcases bi_in μ f with h1 | ⟨j, hj, e⟩
  · exact absurd h1 h
  · rw [e, nI_clamp (by omega)]; exact ⟨hj, rfl⟩
abbrev rm_X3_page : Room := { frames := 2, cells := 0, slots := 0, locals := 43 }
set_option maxHeartbeats 4000000 in
set_option maxRecDepth 100000 in
/-- page -/
theorem d_page {D : va_G} {o : Nat → Nat} {ct : Nat → ClassId} {μ : pm_S} {F S : Nat} (p g x : Int32) (hok : pm_ok F S μ) : gM yX3_page cX3_page 5 (some .int) rm_X3_page D (gt ct) (mw o ct μ) [.ref (o 0), .int p, .int g, .int x] (fun v w => v = some (.int (pm_pgV (pm_sI μ 0 0) p g x)) ∧ w = mw o ct (pm_sI μ 0 0)) := by
  refine gM_in RX3 rfl (by decide) (Nat.le_of_ble_eq_true rfl) (fun X C => ?_)
  obtain ⟨⟨hF2, hF16, hS64⟩, e1, e2, hhd, hpn, hbo⟩ := id hok
  refine gV_aload_n (pc := 0) (x := o 0) C dX3_page_0 0 rfl rfl ?_
  refine gV_iconst (pc := 1) (v := 0) C dX3_page_1 (by decide) ?_
  refine mp_thrown (pc := 2) C fl_X3_45 dX3_page_2 ?_
  refine gV_aload_n (pc := 5) (x := o 0) C dX3_page_5 0 rfl rfl ?_
  refine gV_iload_n (pc := 6) C dX3_page_6 1 rfl rfl ?_
  refine gV_iload_n (pc := 7) C dX3_page_7 2 rfl rfl ?_
  refine gV_callV (pc := 8) (As := [.int p, .int g]) (rest := []) C ml_X3_88 gy_X3_isPage gv_X3_isPage (d_isPage _ _) ⟨0, 3, _, _, rfl, rfl, rfl⟩ rfl rfl ⟨by decide, by decide⟩ (Nat.le_of_ble_eq_true rfl) (by decide) (by decide) dX3_page_8 ?_
  rintro _ _ ⟨rfl, rfl⟩
  refine gV_if_eq (pc := 11) C 23 dX3_page_11 (by decide) (fun c_1 => ?_) (fun c_1 => ?_)
  · skip
    refine gV_iconst (pc := 23) (v := (-1)) C dX3_page_23 (by decide) ?_
    refine gV_iret (pc := 24) C dX3_page_24 (by decide) (by decide) ?_
    exact ⟨by rw [pm_pgV, if_pos c_1], rfl⟩
  · skip
    refine gV_iload_n (pc := 14) C dX3_page_14 3 rfl rfl ?_
    refine gV_if_lt (pc := 15) C 23 dX3_page_15 (by decide) (fun c_2 => ?_) (fun c_2 => ?_)
    · skip
      refine gV_iconst (pc := 23) (v := (-1)) C dX3_page_23 (by decide) ?_
      refine gV_iret (pc := 24) C dX3_page_24 (by decide) (by decide) ?_
      exact ⟨by rw [pm_pgV, if_neg c_1, if_pos c_2], rfl⟩
    · skip
      refine gV_iload_n (pc := 18) C dX3_page_18 3 rfl rfl ?_
      refine gV_iconst (pc := 19) (v := 3) C dX3_page_19 (by decide) ?_
      refine gV_icmp_le (pc := 20) C 25 dX3_page_20 (by decide) (fun c_3 => ?_) (fun c_3 => ?_)
      · skip
        obtain ⟨P, G, m, hP, hG, hm, rfl, rfl, em⟩ := ig_nat (mok_sI hok 0 (Or.inl rfl)) c_1
        have es : pm_sl (nI P) (nI G) = 32 * P + G := by rw [pm_sl, ix32, nI_clamp (by omega)]
        refine gV_aload_n (pc := 25) (x := o 0) C dX3_page_25 0 rfl rfl ?_
        refine mg_bodyOf (pc := 26) C fl_X3_13 dX3_page_26 ?_
        refine gV_bipush (pc := 29) (v := 32) C dX3_page_29 (by decide) ?_
        refine gV_iload_n (pc := 31) C dX3_page_31 1 rfl rfl ?_
        refine gV_imul (pc := 32) C dX3_page_32 ?_
        refine gV_iload_n (pc := 33) C dX3_page_33 2 rfl rfl ?_
        refine gV_iadd (pc := 34) C dX3_page_34 ?_
        rw [show (32 * (nI P)) + (nI G) = nI (32 * P + G) from ix32 _ _]
        refine ma_bodyOf (pc := 35) C (vp_in_nI (by omega) (by omega)) dX3_page_35 ?_
        rw [nI_clamp (by omega)]
        refine gV_istore (pc := 36) (lv' := [(4, .int (pm_A (pm_sI μ 0 0) 1 (32 * P + G))), (0, .ref (o 0)), (1, .int (nI P)), (2, .int (nI G)), (3, .int x)]) C dX3_page_36 (by decide) rfl ?_
        refine gV_iload (pc := 38) C dX3_page_38 0 rfl ?_
        refine gV_iconst (pc := 40) (v := (-1)) C dX3_page_40 (by decide) ?_
        refine gV_icmp_ne (pc := 41) C 55 dX3_page_41 (by decide) (fun c_4 => ?_) (fun c_4 => ?_)
        · skip
          refine gV_iload_n (pc := 55) C dX3_page_55 4 rfl rfl ?_
          refine gV_if_ne (pc := 56) C 69 dX3_page_56 (by decide) (fun c_5 => ?_) (fun c_5 => ?_)
          · skip
            refine gV_iload_n (pc := 69) C dX3_page_69 4 rfl rfl ?_
            refine gV_iconst (pc := 70) (v := 1) C dX3_page_70 (by decide) ?_
            refine gV_icmp_ne (pc := 71) C 84 dX3_page_71 (by decide) (fun c_6 => ?_) (fun c_6 => ?_)
            · skip
              refine gV_iload_n (pc := 84) C dX3_page_84 4 rfl rfl ?_
              refine gV_iconst (pc := 85) (v := 2) C dX3_page_85 (by decide) ?_
              refine gV_icmp_ne (pc := 86) C 98 dX3_page_86 (by decide) (fun c_7 => ?_) (fun c_7 => ?_)
              · skip
                refine gV_aload_n (pc := 98) (x := o 0) C dX3_page_98 1 rfl rfl ?_
                refine mg_frameOf (pc := 99) C fl_X3_20 dX3_page_99 ?_
                refine gV_iload (pc := 102) C dX3_page_102 0 rfl ?_
                refine ma_frameOf (pc := 104) C (by rcases hbo (32 * P + G) (by omega) with h | ⟨z, hz, e⟩; exact absurd h c_4; exact (congrArg (fun q => vp_in q 300) e).mpr (vp_in_nI hz (by omega))) dX3_page_104 ?_
                refine gV_iconst (pc := 105) (v := (-1)) C dX3_page_105 (by decide) ?_
                refine gV_icmp_eq (pc := 106) C 123 dX3_page_106 (by decide) (fun c_8 => ?_) (fun c_8 => ?_)
                · skip
                  refine gV_iconst (pc := 123) (v := 0) C dX3_page_123 (by decide) ?_
                  refine gV_iret (pc := 124) C dX3_page_124 (by decide) (by decide) ?_
                  exact ⟨by rw [pm_pgV, if_neg c_1, if_neg c_2, if_pos c_3, es, if_neg c_4, if_neg c_5, if_neg c_6, if_neg c_7, if_pos c_8], rfl⟩
                · skip
                  refine gV_aload_n (pc := 109) (x := o 0) C dX3_page_109 1 rfl rfl ?_
                  refine mg_dirty (pc := 110) C fl_X3_26 dX3_page_110 ?_
                  refine gV_iload (pc := 113) C dX3_page_113 0 rfl ?_
                  refine ma_dirty (pc := 115) C (by rcases hbo (32 * P + G) (by omega) with h | ⟨z, hz, e⟩; exact absurd h c_4; exact (congrArg (fun q => vp_in q 300) e).mpr (vp_in_nI hz (by omega))) dX3_page_115 ?_
                  refine gV_if_eq (pc := 116) C 123 dX3_page_116 (by decide) (fun c_9 => ?_) (fun c_9 => ?_)
                  · skip
                    refine gV_iconst (pc := 123) (v := 0) C dX3_page_123 (by decide) ?_
                    refine gV_iret (pc := 124) C dX3_page_124 (by decide) (by decide) ?_
                    exact ⟨by rw [pm_pgV, if_neg c_1, if_neg c_2, if_pos c_3, es, if_neg c_4, if_neg c_5, if_neg c_6, if_neg c_7, if_neg c_8, if_pos c_9], rfl⟩
                  · skip
                    refine gV_iconst (pc := 119) (v := 1) C dX3_page_119 (by decide) ?_
                    refine gV_goto (pc := 120) C 124 dX3_page_120 (by decide) ?_
                    refine gV_iret (pc := 124) C dX3_page_124 (by decide) (by decide) ?_
                    exact ⟨by rw [pm_pgV, if_neg c_1, if_neg c_2, if_pos c_3, es, if_neg c_4, if_neg c_5, if_neg c_6, if_neg c_7, if_neg c_8, if_neg c_9], rfl⟩
              · skip
                refine gV_aload_n (pc := 89) (x := o 0) C dX3_page_89 1 rfl rfl ?_
                refine gV_iload (pc := 90) C dX3_page_90 0 rfl ?_
                refine gV_callV (pc := 92) (As := [.int (pm_A (pm_sI μ 0 0) 1 (32 * P + G))]) (rest := []) C ml_X3_59 gy_X3_holders gv_X3_holders (d_holders _) ⟨0, 3, _, _, rfl, rfl, rfl⟩ rfl rfl ⟨by decide, by decide⟩ (Nat.le_of_ble_eq_true rfl) (by decide) (by decide) dX3_page_92 ?_
                rintro _ _ ⟨rfl, rfl⟩
                refine gV_goto (pc := 95) C 124 dX3_page_95 (by decide) ?_
                refine gV_iret (pc := 124) C dX3_page_124 (by decide) (by decide) ?_
                exact ⟨by rw [pm_pgV, if_neg c_1, if_neg c_2, if_pos c_3, es, if_neg c_4, if_neg c_5, if_neg c_6, if_pos c_7], rfl⟩
            · skip
              refine gV_aload_n (pc := 74) (x := o 0) C dX3_page_74 1 rfl rfl ?_
              refine mg_sectorOf (pc := 75) C fl_X3_23 dX3_page_75 ?_
              refine gV_iload (pc := 78) C dX3_page_78 0 rfl ?_
              refine ma_sectorOf (pc := 80) C (by rcases hbo (32 * P + G) (by omega) with h | ⟨z, hz, e⟩; exact absurd h c_4; exact (congrArg (fun q => vp_in q 300) e).mpr (vp_in_nI hz (by omega))) dX3_page_80 ?_
              refine gV_goto (pc := 81) C 124 dX3_page_81 (by decide) ?_
              refine gV_iret (pc := 124) C dX3_page_124 (by decide) (by decide) ?_
              exact ⟨by rw [pm_pgV, if_neg c_1, if_neg c_2, if_pos c_3, es, if_neg c_4, if_neg c_5, if_pos c_6], rfl⟩
          · skip
            refine gV_aload_n (pc := 59) (x := o 0) C dX3_page_59 1 rfl rfl ?_
            refine mg_frameOf (pc := 60) C fl_X3_20 dX3_page_60 ?_
            refine gV_iload (pc := 63) C dX3_page_63 0 rfl ?_
            refine ma_frameOf (pc := 65) C (by rcases hbo (32 * P + G) (by omega) with h | ⟨z, hz, e⟩; exact absurd h c_4; exact (congrArg (fun q => vp_in q 300) e).mpr (vp_in_nI hz (by omega))) dX3_page_65 ?_
            refine gV_goto (pc := 66) C 124 dX3_page_66 (by decide) ?_
            refine gV_iret (pc := 124) C dX3_page_124 (by decide) (by decide) ?_
            exact ⟨by rw [pm_pgV, if_neg c_1, if_neg c_2, if_pos c_3, es, if_neg c_4, if_pos c_5], rfl⟩
        · skip
          refine gV_iload_n (pc := 44) C dX3_page_44 4 rfl rfl ?_
          refine gV_iconst (pc := 45) (v := 2) C dX3_page_45 (by decide) ?_
          refine gV_icmp_ge (pc := 46) C 53 dX3_page_46 (by decide) (fun c_10 => ?_) (fun c_10 => ?_)
          · skip
            refine gV_iconst (pc := 53) (v := 0) C dX3_page_53 (by decide) ?_
            refine gV_iret (pc := 54) C dX3_page_54 (by decide) (by decide) ?_
            exact ⟨by rw [pm_pgV, if_neg c_1, if_neg c_2, if_pos c_3, es, if_pos c_4, if_pos c_10], rfl⟩
          · skip
            refine gV_iconst (pc := 49) (v := (-1)) C dX3_page_49 (by decide) ?_
            refine gV_goto (pc := 50) C 54 dX3_page_50 (by decide) ?_
            refine gV_iret (pc := 54) C dX3_page_54 (by decide) (by decide) ?_
            exact ⟨by rw [pm_pgV, if_neg c_1, if_neg c_2, if_pos c_3, es, if_pos c_4, if_neg c_10], rfl⟩
      · skip
        refine gV_iconst (pc := 23) (v := (-1)) C dX3_page_23 (by decide) ?_
        refine gV_iret (pc := 24) C dX3_page_24 (by decide) (by decide) ?_
        exact ⟨by rw [pm_pgV, if_neg c_1, if_neg c_2, if_neg c_3], rfl⟩
abbrev rm_X3_frame : Room := { frames := 1, cells := 0, slots := 0, locals := 22 }
set_option maxHeartbeats 4000000 in
set_option maxRecDepth 100000 in
theorem mlp_frame {X : gx_T} {D : va_G} {o : Nat → Nat} {ct : Nat → ClassId} {ρ : pm_S} {f x b r : Int32} (hwh : pm_wh ρ b < 256) (hr : r = if x = 1 then nI (pm_wh ρ b) / 32 else nI (pm_wh ρ b) - nI (pm_wh ρ b) / 32 * 32) (C : gC X cX3_frame 5 RX3 rm_X3_frame (some .int) D (gt ct) (fun v w => v = some (.int r) ∧ w = mw o ct ρ)) : ∀ d i : Nat, i + d = 256 → pm_whG ρ b d i = pm_wh ρ b → gV X 0 0 (mw o ct ρ) 95 [(4, .int (nI i)), (3, .int b), (0, .ref (o 0)), (1, .int f), (2, .int x)] [] := by
  intro d
  induction d with
  | zero =>
    intro i hi h
    have e : i = pm_wh ρ b := h
    exact absurd hwh (by omega)
  | succ d ih =>
    intro i hi h
    refine gV_aload_n (pc := 95) (x := o 0) C dX3_frame_95 2 rfl rfl ?_
    refine mg_bodyOf (pc := 96) C fl_X3_13 dX3_frame_96 ?_
    refine gV_iload (pc := 99) C dX3_frame_99 0 rfl ?_
    refine ma_bodyOf (pc := 101) C (vp_in_nI (by omega) (by omega)) dX3_frame_101 ?_
    rw [nI_clamp (by omega)]
    refine gV_iload_n (pc := 102) C dX3_frame_102 1 rfl rfl ?_
    refine gV_icmp_eq (pc := 103) C 112 dX3_frame_103 (by decide) (fun c_1 => ?_) (fun c_1 => ?_)
    · skip
      have e : i = pm_wh ρ b := by rw [← h, pm_whG, if_pos c_1]
      refine gV_iload_n (pc := 112) C dX3_frame_112 4 rfl rfl ?_
      refine gV_iconst (pc := 113) (v := 1) C dX3_frame_113 (by decide) ?_
      refine gV_icmp_ne (pc := 114) C 125 dX3_frame_114 (by decide) (fun c_2 => ?_) (fun c_2 => ?_)
      · skip
        refine gV_iload (pc := 125) C dX3_frame_125 0 rfl ?_
        refine gV_bipush (pc := 127) (v := 32) C dX3_frame_127 (by decide) ?_
        refine gV_irem (pc := 129) C dX3_frame_129 (by decide) ?_
        refine gV_iret (pc := 130) C dX3_frame_130 (by decide) (by decide) ?_
        exact ⟨by rw [hr, ← e, if_neg c_2], rfl⟩
      · skip
        refine gV_iload (pc := 117) C dX3_frame_117 0 rfl ?_
        refine gV_bipush (pc := 119) (v := 32) C dX3_frame_119 (by decide) ?_
        refine gV_idiv (pc := 121) C dX3_frame_121 (by decide) ?_
        refine gV_goto (pc := 122) C 130 dX3_frame_122 (by decide) ?_
        refine gV_iret (pc := 130) C dX3_frame_130 (by decide) (by decide) ?_
        exact ⟨by rw [hr, ← e, if_pos c_2], rfl⟩
    · skip
      refine gV_iinc (pc := 106) (v := nI (i + 1)) (lv' := [(4, .int (nI (i + 1))), (3, .int b), (0, .ref (o 0)), (1, .int f), (2, .int x)]) C dX3_frame_106 0 rfl (nI_1 _) (by decide) rfl ?_
      refine gV_goto (pc := 109) C 95 dX3_frame_109 (by decide) ?_
      exact ih (i + 1) (by omega) (by rw [← h, pm_whG, if_neg c_1])
set_option maxHeartbeats 4000000 in
set_option maxRecDepth 100000 in
/-- frame -/
theorem d_frame {D : va_G} {o : Nat → Nat} {ct : Nat → ClassId} {μ : pm_S} {F S : Nat} (f x : Int32) (hok : pm_ok F S μ) (hwh : ∀ f, ¬ pm_bi (pm_sI μ 0 0) f = -1 → pm_wh (pm_sI μ 0 0) (pm_bi (pm_sI μ 0 0) f) < 256) : gM yX3_frame cX3_frame 5 (some .int) rm_X3_frame D (gt ct) (mw o ct μ) [.ref (o 0), .int f, .int x] (fun v w => v = some (.int (pm_frV F (pm_sI μ 0 0) f x)) ∧ w = mw o ct (pm_sI μ 0 0)) := by
  refine gM_in RX3 rfl (by decide) (Nat.le_of_ble_eq_true rfl) (fun X C => ?_)
  obtain ⟨⟨hF2, hF16, hS64⟩, e1, e2, hhd, hpn, hbo⟩ := id hok
  refine gV_aload_n (pc := 0) (x := o 0) C dX3_frame_0 0 rfl rfl ?_
  refine gV_iconst (pc := 1) (v := 0) C dX3_frame_1 (by decide) ?_
  refine mp_thrown (pc := 2) C fl_X3_45 dX3_frame_2 ?_
  refine gV_iload_n (pc := 5) C dX3_frame_5 1 rfl rfl ?_
  refine gV_if_lt (pc := 6) C 17 dX3_frame_6 (by decide) (fun c_1 => ?_) (fun c_1 => ?_)
  · skip
    refine gV_iconst (pc := 17) (v := (-1)) C dX3_frame_17 (by decide) ?_
    refine gV_iret (pc := 18) C dX3_frame_18 (by decide) (by decide) ?_
    exact ⟨by rw [pm_frV, if_pos c_1], rfl⟩
  · skip
    refine gV_iload_n (pc := 9) C dX3_frame_9 1 rfl rfl ?_
    refine gV_aload_n (pc := 10) (x := o 0) C dX3_frame_10 0 rfl rfl ?_
    refine mg_frames (pc := 11) C fl_X3_38 dX3_frame_11 ?_
    rw [show pm_I (pm_sI μ 0 0) 1 = nI F from e1]
    refine gV_icmp_lt (pc := 14) C 19 dX3_frame_14 (by decide) (fun c_2 => ?_) (fun c_2 => ?_)
    · skip
      refine gV_aload_n (pc := 19) (x := o 0) C dX3_frame_19 0 rfl rfl ?_
      refine gV_iload_n (pc := 20) C dX3_frame_20 1 rfl rfl ?_
      refine gV_callV (pc := 21) (As := [.int f]) (rest := []) C ml_X3_52 gy_X3_bodyIn gv_X3_bodyIn (d_bodyIn _) ⟨0, 3, _, _, rfl, rfl, rfl⟩ rfl rfl ⟨by decide, by decide⟩ (Nat.le_of_ble_eq_true rfl) (by decide) (by decide) dX3_frame_21 ?_
      rintro _ _ ⟨rfl, rfl⟩
      refine gV_istore_n (pc := 24) (lv' := [(3, .int (pm_bi (pm_sI μ 0 0) f)), (0, .ref (o 0)), (1, .int f), (2, .int x)]) C dX3_frame_24 rfl (by decide) rfl ?_
      refine gV_iload_n (pc := 25) C dX3_frame_25 3 rfl rfl ?_
      refine gV_bipush (pc := 26) (v := 16) C dX3_frame_26 (by decide) ?_
      refine gV_icmp_lt (pc := 28) C 52 dX3_frame_28 (by decide) (fun c_3 => ?_) (fun c_3 => ?_)
      · skip
        refine gV_iload_n (pc := 52) C dX3_frame_52 3 rfl rfl ?_
        refine gV_if_ne (pc := 53) C 76 dX3_frame_53 (by decide) (fun c_4 => ?_) (fun c_4 => ?_)
        · skip
          refine gV_iload_n (pc := 76) C dX3_frame_76 0 rfl rfl ?_
          refine gV_iconst (pc := 77) (v := (-1)) C dX3_frame_77 (by decide) ?_
          refine gV_icmp_eq (pc := 78) C 90 dX3_frame_78 (by decide) (fun c_5 => ?_) (fun c_5 => ?_)
          · skip
            refine gV_iconst (pc := 90) (v := (-1)) C dX3_frame_90 (by decide) ?_
            refine gV_iret (pc := 91) C dX3_frame_91 (by decide) (by decide) ?_
            exact ⟨by rw [pm_frV, if_neg c_1, if_pos c_2, if_pos c_3, pm_fr3, if_neg c_4, if_pos c_5], rfl⟩
          · skip
            refine gV_iload_n (pc := 81) C dX3_frame_81 3 rfl rfl ?_
            refine gV_if_lt (pc := 82) C 90 dX3_frame_82 (by decide) (fun c_6 => ?_) (fun c_6 => ?_)
            · skip
              refine gV_iconst (pc := 90) (v := (-1)) C dX3_frame_90 (by decide) ?_
              refine gV_iret (pc := 91) C dX3_frame_91 (by decide) (by decide) ?_
              exact ⟨by rw [pm_frV, if_neg c_1, if_pos c_2, if_pos c_3, pm_fr3, if_neg c_4, if_neg c_5, if_pos c_6], rfl⟩
            · skip
              refine gV_iload_n (pc := 85) C dX3_frame_85 3 rfl rfl ?_
              refine gV_iconst (pc := 86) (v := 2) C dX3_frame_86 (by decide) ?_
              refine gV_icmp_le (pc := 87) C 92 dX3_frame_87 (by decide) (fun c_7 => ?_) (fun c_7 => ?_)
              · skip
                refine gV_iconst (pc := 92) (v := 0) C dX3_frame_92 (by decide) ?_
                refine gV_istore (pc := 93) (lv' := [(4, .int 0), (3, .int (pm_bi (pm_sI μ 0 0) f)), (0, .ref (o 0)), (1, .int f), (2, .int x)]) C dX3_frame_93 (by decide) rfl ?_
                exact mlp_frame (hwh _ c_5) (by rw [pm_frV, if_neg c_1, if_pos c_2, if_pos c_3, pm_fr3, if_neg c_4, if_neg c_5, if_neg c_6, if_pos c_7]) C 256 0 rfl rfl
              · skip
                refine gV_iconst (pc := 90) (v := (-1)) C dX3_frame_90 (by decide) ?_
                refine gV_iret (pc := 91) C dX3_frame_91 (by decide) (by decide) ?_
                exact ⟨by rw [pm_frV, if_neg c_1, if_pos c_2, if_pos c_3, pm_fr3, if_neg c_4, if_neg c_5, if_neg c_6, if_neg c_7], rfl⟩
        · skip
          refine gV_iload_n (pc := 56) C dX3_frame_56 0 rfl rfl ?_
          refine gV_iconst (pc := 57) (v := (-1)) C dX3_frame_57 (by decide) ?_
          refine gV_icmp_eq (pc := 58) C 74 dX3_frame_58 (by decide) (fun c_8 => ?_) (fun c_8 => ?_)
          · skip
            refine gV_iconst (pc := 74) (v := 0) C dX3_frame_74 (by decide) ?_
            refine gV_iret (pc := 75) C dX3_frame_75 (by decide) (by decide) ?_
            exact ⟨by rw [pm_frV, if_neg c_1, if_pos c_2, if_pos c_3, pm_fr3, if_pos c_4, if_pos c_8], rfl⟩
          · skip
            refine gV_aload_n (pc := 61) (x := o 0) C dX3_frame_61 1 rfl rfl ?_
            refine mg_used (pc := 62) C fl_X3_35 dX3_frame_62 ?_
            refine gV_iload_n (pc := 65) C dX3_frame_65 2 rfl rfl ?_
            refine ma_used (pc := 66) C (f_in hF16 c_1 c_2) dX3_frame_66 ?_
            refine gV_if_eq (pc := 67) C 74 dX3_frame_67 (by decide) (fun c_9 => ?_) (fun c_9 => ?_)
            · skip
              refine gV_iconst (pc := 74) (v := 0) C dX3_frame_74 (by decide) ?_
              refine gV_iret (pc := 75) C dX3_frame_75 (by decide) (by decide) ?_
              exact ⟨by rw [pm_frV, if_neg c_1, if_pos c_2, if_pos c_3, pm_fr3, if_pos c_4, if_neg c_8, if_pos c_9], rfl⟩
            · skip
              refine gV_iconst (pc := 70) (v := 1) C dX3_frame_70 (by decide) ?_
              refine gV_goto (pc := 71) C 75 dX3_frame_71 (by decide) ?_
              refine gV_iret (pc := 75) C dX3_frame_75 (by decide) (by decide) ?_
              exact ⟨by rw [pm_frV, if_neg c_1, if_pos c_2, if_pos c_3, pm_fr3, if_pos c_4, if_neg c_8, if_neg c_9], rfl⟩
      · skip
        refine gV_iload_n (pc := 31) C dX3_frame_31 3 rfl rfl ?_
        refine gV_bipush (pc := 32) (v := 32) C dX3_frame_32 (by decide) ?_
        refine gV_icmp_ge (pc := 34) C 52 dX3_frame_34 (by decide) (fun c_10 => ?_) (fun c_10 => ?_)
        · skip
          refine gV_iload_n (pc := 52) C dX3_frame_52 3 rfl rfl ?_
          refine gV_if_ne (pc := 53) C 76 dX3_frame_53 (by decide) (fun c_11 => ?_) (fun c_11 => ?_)
          · skip
            refine gV_iload_n (pc := 76) C dX3_frame_76 0 rfl rfl ?_
            refine gV_iconst (pc := 77) (v := (-1)) C dX3_frame_77 (by decide) ?_
            refine gV_icmp_eq (pc := 78) C 90 dX3_frame_78 (by decide) (fun c_12 => ?_) (fun c_12 => ?_)
            · skip
              refine gV_iconst (pc := 90) (v := (-1)) C dX3_frame_90 (by decide) ?_
              refine gV_iret (pc := 91) C dX3_frame_91 (by decide) (by decide) ?_
              exact ⟨by rw [pm_frV, if_neg c_1, if_pos c_2, if_neg c_3, if_pos c_10, pm_fr3, if_neg c_11, if_pos c_12], rfl⟩
            · skip
              refine gV_iload_n (pc := 81) C dX3_frame_81 3 rfl rfl ?_
              refine gV_if_lt (pc := 82) C 90 dX3_frame_82 (by decide) (fun c_13 => ?_) (fun c_13 => ?_)
              · skip
                refine gV_iconst (pc := 90) (v := (-1)) C dX3_frame_90 (by decide) ?_
                refine gV_iret (pc := 91) C dX3_frame_91 (by decide) (by decide) ?_
                exact ⟨by rw [pm_frV, if_neg c_1, if_pos c_2, if_neg c_3, if_pos c_10, pm_fr3, if_neg c_11, if_neg c_12, if_pos c_13], rfl⟩
              · skip
                refine gV_iload_n (pc := 85) C dX3_frame_85 3 rfl rfl ?_
                refine gV_iconst (pc := 86) (v := 2) C dX3_frame_86 (by decide) ?_
                refine gV_icmp_le (pc := 87) C 92 dX3_frame_87 (by decide) (fun c_14 => ?_) (fun c_14 => ?_)
                · skip
                  refine gV_iconst (pc := 92) (v := 0) C dX3_frame_92 (by decide) ?_
                  refine gV_istore (pc := 93) (lv' := [(4, .int 0), (3, .int (pm_bi (pm_sI μ 0 0) f)), (0, .ref (o 0)), (1, .int f), (2, .int x)]) C dX3_frame_93 (by decide) rfl ?_
                  exact mlp_frame (hwh _ c_12) (by rw [pm_frV, if_neg c_1, if_pos c_2, if_neg c_3, if_pos c_10, pm_fr3, if_neg c_11, if_neg c_12, if_neg c_13, if_pos c_14]) C 256 0 rfl rfl
                · skip
                  refine gV_iconst (pc := 90) (v := (-1)) C dX3_frame_90 (by decide) ?_
                  refine gV_iret (pc := 91) C dX3_frame_91 (by decide) (by decide) ?_
                  exact ⟨by rw [pm_frV, if_neg c_1, if_pos c_2, if_neg c_3, if_pos c_10, pm_fr3, if_neg c_11, if_neg c_12, if_neg c_13, if_neg c_14], rfl⟩
          · skip
            refine gV_iload_n (pc := 56) C dX3_frame_56 0 rfl rfl ?_
            refine gV_iconst (pc := 57) (v := (-1)) C dX3_frame_57 (by decide) ?_
            refine gV_icmp_eq (pc := 58) C 74 dX3_frame_58 (by decide) (fun c_15 => ?_) (fun c_15 => ?_)
            · skip
              refine gV_iconst (pc := 74) (v := 0) C dX3_frame_74 (by decide) ?_
              refine gV_iret (pc := 75) C dX3_frame_75 (by decide) (by decide) ?_
              exact ⟨by rw [pm_frV, if_neg c_1, if_pos c_2, if_neg c_3, if_pos c_10, pm_fr3, if_pos c_11, if_pos c_15], rfl⟩
            · skip
              refine gV_aload_n (pc := 61) (x := o 0) C dX3_frame_61 1 rfl rfl ?_
              refine mg_used (pc := 62) C fl_X3_35 dX3_frame_62 ?_
              refine gV_iload_n (pc := 65) C dX3_frame_65 2 rfl rfl ?_
              refine ma_used (pc := 66) C (f_in hF16 c_1 c_2) dX3_frame_66 ?_
              refine gV_if_eq (pc := 67) C 74 dX3_frame_67 (by decide) (fun c_16 => ?_) (fun c_16 => ?_)
              · skip
                refine gV_iconst (pc := 74) (v := 0) C dX3_frame_74 (by decide) ?_
                refine gV_iret (pc := 75) C dX3_frame_75 (by decide) (by decide) ?_
                exact ⟨by rw [pm_frV, if_neg c_1, if_pos c_2, if_neg c_3, if_pos c_10, pm_fr3, if_pos c_11, if_neg c_15, if_pos c_16], rfl⟩
              · skip
                refine gV_iconst (pc := 70) (v := 1) C dX3_frame_70 (by decide) ?_
                refine gV_goto (pc := 71) C 75 dX3_frame_71 (by decide) ?_
                refine gV_iret (pc := 75) C dX3_frame_75 (by decide) (by decide) ?_
                exact ⟨by rw [pm_frV, if_neg c_1, if_pos c_2, if_neg c_3, if_pos c_10, pm_fr3, if_pos c_11, if_neg c_15, if_neg c_16], rfl⟩
        · skip
          refine gV_aload_n (pc := 37) (x := o 0) C dX3_frame_37 1 rfl rfl ?_
          refine mg_inFrame (pc := 38) C fl_X3_29 dX3_frame_38 ?_
          refine gV_bipush (pc := 41) (v := 16) C dX3_frame_41 (by decide) ?_
          refine gV_iload_n (pc := 43) C dX3_frame_43 2 rfl rfl ?_
          refine gV_imul (pc := 44) C dX3_frame_44 ?_
          refine gV_iload_n (pc := 45) C dX3_frame_45 3 rfl rfl ?_
          refine gV_iadd (pc := 46) C dX3_frame_46 ?_
          refine gV_bipush (pc := 47) (v := 16) C dX3_frame_47 (by decide) ?_
          refine gV_isub (pc := 49) C dX3_frame_49 ?_
          refine ma_inFrame (pc := 50) C (frx_in hF16 c_1 c_2 c_3 c_10) dX3_frame_50 ?_
          refine gV_iret (pc := 51) C dX3_frame_51 (by decide) (by decide) ?_
          exact ⟨by rw [pm_frV, if_neg c_1, if_pos c_2, if_neg c_3, if_neg c_10], rfl⟩
    · skip
      refine gV_iconst (pc := 17) (v := (-1)) C dX3_frame_17 (by decide) ?_
      refine gV_iret (pc := 18) C dX3_frame_18 (by decide) (by decide) ?_
      exact ⟨by rw [pm_frV, if_neg c_1, if_neg c_2], rfl⟩
abbrev rm_X3_stored : Room := { frames := 0, cells := 0, slots := 0, locals := 0 }
set_option maxHeartbeats 4000000 in
set_option maxRecDepth 100000 in
/-- stored -/
theorem d_stored {D : va_G} {o : Nat → Nat} {ct : Nat → ClassId} {μ : pm_S} {F S : Nat} (s i : Int32) (hok : pm_ok F S μ) : gM yX3_stored cX3_stored 3 (some .int) rm_X3_stored D (gt ct) (mw o ct μ) [.ref (o 0), .int s, .int i] (fun v w => v = some (.int (pm_sdV S μ s i)) ∧ w = mw o ct (pm_sI μ 0 (pm_sdT S s i))) := by
  refine gM_in RX3 rfl (by decide) (Nat.le_of_ble_eq_true rfl) (fun X C => ?_)
  obtain ⟨⟨hF2, hF16, hS64⟩, e1, e2, hhd, hpn, hbo⟩ := id hok
  refine gV_aload_n (pc := 0) (x := o 0) C dX3_stored_0 0 rfl rfl ?_
  refine gV_iload_n (pc := 1) C dX3_stored_1 1 rfl rfl ?_
  refine gV_if_lt (pc := 2) C 23 dX3_stored_2 (by decide) (fun c_1 => ?_) (fun c_1 => ?_)
  · skip
    refine gV_iconst (pc := 23) (v := 1) C dX3_stored_23 (by decide) ?_
    refine gV_goto (pc := 24) C 28 dX3_stored_24 (by decide) ?_
    refine mp_thrown (pc := 28) C fl_X3_45 dX3_stored_28 ?_
    refine gV_aload_n (pc := 31) (x := o 0) C dX3_stored_31 0 rfl rfl ?_
    refine mg_thrown (pc := 32) C fl_X3_45 dX3_stored_32 ?_
    rw [show pm_I (pm_sI μ 0 1) 0 = 1 from rfl]
    refine gV_if_le (pc := 35) C 42 dX3_stored_35 (by decide) (fun c_2 => ?_) (fun c_2 => ?_)
    · exact absurd c_2 (by decide)
    · skip
      refine gV_iconst (pc := 38) (v := 0) C dX3_stored_38 (by decide) ?_
      refine gV_goto (pc := 39) C 53 dX3_stored_39 (by decide) ?_
      refine gV_iret (pc := 53) C dX3_stored_53 (by decide) (by decide) ?_
      exact ⟨by rw [pm_sdV, show pm_sdT S s i = 1 by rw [pm_sdT, if_pos c_1], if_neg (by decide)], by rw [show pm_sdT S s i = 1 by rw [pm_sdT, if_pos c_1]]⟩
  · skip
    refine gV_iload_n (pc := 5) C dX3_stored_5 1 rfl rfl ?_
    refine gV_aload_n (pc := 6) (x := o 0) C dX3_stored_6 0 rfl rfl ?_
    refine mg_sectors (pc := 7) C fl_X3_42 dX3_stored_7 ?_
    rw [show pm_I μ 2 = nI S from e2]
    refine gV_icmp_ge (pc := 10) C 23 dX3_stored_10 (by decide) (fun c_3 => ?_) (fun c_3 => ?_)
    · skip
      refine gV_iconst (pc := 23) (v := 1) C dX3_stored_23 (by decide) ?_
      refine gV_goto (pc := 24) C 28 dX3_stored_24 (by decide) ?_
      refine mp_thrown (pc := 28) C fl_X3_45 dX3_stored_28 ?_
      refine gV_aload_n (pc := 31) (x := o 0) C dX3_stored_31 0 rfl rfl ?_
      refine mg_thrown (pc := 32) C fl_X3_45 dX3_stored_32 ?_
      rw [show pm_I (pm_sI μ 0 1) 0 = 1 from rfl]
      refine gV_if_le (pc := 35) C 42 dX3_stored_35 (by decide) (fun c_4 => ?_) (fun c_4 => ?_)
      · exact absurd c_4 (by decide)
      · skip
        refine gV_iconst (pc := 38) (v := 0) C dX3_stored_38 (by decide) ?_
        refine gV_goto (pc := 39) C 53 dX3_stored_39 (by decide) ?_
        refine gV_iret (pc := 53) C dX3_stored_53 (by decide) (by decide) ?_
        exact ⟨by rw [pm_sdV, show pm_sdT S s i = 1 by rw [pm_sdT, if_neg c_1, if_pos c_3], if_neg (by decide)], by rw [show pm_sdT S s i = 1 by rw [pm_sdT, if_neg c_1, if_pos c_3]]⟩
    · skip
      refine gV_iload_n (pc := 13) C dX3_stored_13 2 rfl rfl ?_
      refine gV_if_lt (pc := 14) C 23 dX3_stored_14 (by decide) (fun c_5 => ?_) (fun c_5 => ?_)
      · skip
        refine gV_iconst (pc := 23) (v := 1) C dX3_stored_23 (by decide) ?_
        refine gV_goto (pc := 24) C 28 dX3_stored_24 (by decide) ?_
        refine mp_thrown (pc := 28) C fl_X3_45 dX3_stored_28 ?_
        refine gV_aload_n (pc := 31) (x := o 0) C dX3_stored_31 0 rfl rfl ?_
        refine mg_thrown (pc := 32) C fl_X3_45 dX3_stored_32 ?_
        rw [show pm_I (pm_sI μ 0 1) 0 = 1 from rfl]
        refine gV_if_le (pc := 35) C 42 dX3_stored_35 (by decide) (fun c_6 => ?_) (fun c_6 => ?_)
        · exact absurd c_6 (by decide)
        · skip
          refine gV_iconst (pc := 38) (v := 0) C dX3_stored_38 (by decide) ?_
          refine gV_goto (pc := 39) C 53 dX3_stored_39 (by decide) ?_
          refine gV_iret (pc := 53) C dX3_stored_53 (by decide) (by decide) ?_
          exact ⟨by rw [pm_sdV, show pm_sdT S s i = 1 by rw [pm_sdT, if_neg c_1, if_neg c_3, if_pos c_5], if_neg (by decide)], by rw [show pm_sdT S s i = 1 by rw [pm_sdT, if_neg c_1, if_neg c_3, if_pos c_5]]⟩
      · skip
        refine gV_iload_n (pc := 17) C dX3_stored_17 2 rfl rfl ?_
        refine gV_bipush (pc := 18) (v := 15) C dX3_stored_18 (by decide) ?_
        refine gV_icmp_le (pc := 20) C 27 dX3_stored_20 (by decide) (fun c_7 => ?_) (fun c_7 => ?_)
        · skip
          refine gV_iconst (pc := 27) (v := 0) C dX3_stored_27 (by decide) ?_
          refine mp_thrown (pc := 28) C fl_X3_45 dX3_stored_28 ?_
          refine gV_aload_n (pc := 31) (x := o 0) C dX3_stored_31 0 rfl rfl ?_
          refine mg_thrown (pc := 32) C fl_X3_45 dX3_stored_32 ?_
          rw [show pm_I (pm_sI μ 0 0) 0 = 0 from rfl]
          refine gV_if_le (pc := 35) C 42 dX3_stored_35 (by decide) (fun c_8 => ?_) (fun c_8 => ?_)
          · skip
            refine gV_aload_n (pc := 42) (x := o 0) C dX3_stored_42 0 rfl rfl ?_
            refine mg_inSector (pc := 43) C fl_X3_32 dX3_stored_43 ?_
            refine gV_bipush (pc := 46) (v := 16) C dX3_stored_46 (by decide) ?_
            refine gV_iload_n (pc := 48) C dX3_stored_48 1 rfl rfl ?_
            refine gV_imul (pc := 49) C dX3_stored_49 ?_
            refine gV_iload_n (pc := 50) C dX3_stored_50 2 rfl rfl ?_
            refine gV_iadd (pc := 51) C dX3_stored_51 ?_
            refine ma_inSector (pc := 52) C (sdx_in hS64 c_1 c_3 c_5 c_7) dX3_stored_52 ?_
            refine gV_iret (pc := 53) C dX3_stored_53 (by decide) (by decide) ?_
            exact ⟨by rw [pm_sdV, show pm_sdT S s i = 0 by rw [pm_sdT, if_neg c_1, if_neg c_3, if_neg c_5, if_pos c_7], if_pos (by decide)]; rfl, by rw [show pm_sdT S s i = 0 by rw [pm_sdT, if_neg c_1, if_neg c_3, if_neg c_5, if_pos c_7]]⟩
          · exact absurd (by decide) c_8
        · skip
          refine gV_iconst (pc := 23) (v := 1) C dX3_stored_23 (by decide) ?_
          refine gV_goto (pc := 24) C 28 dX3_stored_24 (by decide) ?_
          refine mp_thrown (pc := 28) C fl_X3_45 dX3_stored_28 ?_
          refine gV_aload_n (pc := 31) (x := o 0) C dX3_stored_31 0 rfl rfl ?_
          refine mg_thrown (pc := 32) C fl_X3_45 dX3_stored_32 ?_
          rw [show pm_I (pm_sI μ 0 1) 0 = 1 from rfl]
          refine gV_if_le (pc := 35) C 42 dX3_stored_35 (by decide) (fun c_9 => ?_) (fun c_9 => ?_)
          · exact absurd c_9 (by decide)
          · skip
            refine gV_iconst (pc := 38) (v := 0) C dX3_stored_38 (by decide) ?_
            refine gV_goto (pc := 39) C 53 dX3_stored_39 (by decide) ?_
            refine gV_iret (pc := 53) C dX3_stored_53 (by decide) (by decide) ?_
            exact ⟨by rw [pm_sdV, show pm_sdT S s i = 1 by rw [pm_sdT, if_neg c_1, if_neg c_3, if_neg c_5, if_neg c_7], if_neg (by decide)], by rw [show pm_sdT S s i = 1 by rw [pm_sdT, if_neg c_1, if_neg c_3, if_neg c_5, if_neg c_7]]⟩
abbrev rm_X3_look : Room := { frames := 2, cells := 0, slots := 0, locals := 44 }
set_option maxHeartbeats 4000000 in
set_option maxRecDepth 100000 in
theorem mlp_look70 {X : gx_T} {D : va_G} {o : Nat → Nat} {ct : Nat → ClassId} {ρ : pm_S} {x r : Int32} (hr : nI (ph_cN (fun p => decide (¬ pm_A ρ 0 p ≤ 0)) 8) = r) (C : gC X cX3_look 4 RX3 rm_X3_look (some .int) D (gt ct) (fun v w => v = some (.int r) ∧ w = mw o ct ρ)) : ∀ d i : Nat, i + d = 8 → gV X 0 0 (mw o ct ρ) 70 [(3, .int (nI i)), (2, .int (nI (ph_cN (fun p => decide (¬ pm_A ρ 0 p ≤ 0)) i))), (0, .ref (o 0)), (1, .int x)] [] := by
  intro d
  induction d with
  | zero =>
    intro i hi
    have e : i = 8 := by omega
    rw [e]
    refine gV_iload_n (pc := 70) C dX3_look_70 0 rfl rfl ?_
    refine gV_bipush (pc := 71) (v := 8) C dX3_look_71 (by decide) ?_
    refine gV_icmp_ge (pc := 73) C 99 dX3_look_73 (by decide) (fun c_1 => ?_) (fun c_1 => ?_)
    · skip
      refine gV_iload_n (pc := 99) C dX3_look_99 1 rfl rfl ?_
      refine gV_iret (pc := 100) C dX3_look_100 (by decide) (by decide) ?_
      exact ⟨by rw [hr], rfl⟩
    · exact absurd (by decide) c_1
  | succ d ih =>
    intro i hi
    refine gV_iload_n (pc := 70) C dX3_look_70 0 rfl rfl ?_
    refine gV_bipush (pc := 71) (v := 8) C dX3_look_71 (by decide) ?_
    refine gV_icmp_ge (pc := 73) C 99 dX3_look_73 (by decide) (fun c_1 => ?_) (fun c_1 => ?_)
    · exact absurd c_1 (nI_ge (a := i) (b := 8) (by omega) (by omega))
    · skip
      refine gV_iload_n (pc := 76) C dX3_look_76 1 rfl rfl ?_
      refine gV_aload_n (pc := 77) (x := o 0) C dX3_look_77 2 rfl rfl ?_
      refine mg_pages (pc := 78) C fl_X3_7 dX3_look_78 ?_
      refine gV_iload_n (pc := 81) C dX3_look_81 0 rfl rfl ?_
      refine ma_pages (pc := 82) C (vp_in_nI (by omega) (by omega)) dX3_look_82 ?_
      rw [nI_clamp (by omega)]
      refine gV_if_le (pc := 83) C 90 dX3_look_83 (by decide) (fun c_2 => ?_) (fun c_2 => ?_)
      · skip
        refine gV_iconst (pc := 90) (v := 0) C dX3_look_90 (by decide) ?_
        refine gV_iadd (pc := 91) C dX3_look_91 ?_
        rw [show (nI (ph_cN (fun p => decide (¬ pm_A ρ 0 p ≤ 0)) i)) + 0 = nI (ph_cN (fun p => decide (¬ pm_A ρ 0 p ≤ 0)) (i + 1)) from by rw [ph_cN_f (f := fun p => decide (¬ pm_A ρ 0 p ≤ 0)) (n := i) (by simp [c_2]), nI_p0]]
        refine gV_istore_n (pc := 92) (lv' := [(2, .int (nI (ph_cN (fun p => decide (¬ pm_A ρ 0 p ≤ 0)) (i + 1)))), (3, .int (nI i)), (0, .ref (o 0)), (1, .int x)]) C dX3_look_92 rfl (by decide) rfl ?_
        refine gV_iinc (pc := 93) (v := nI (i + 1)) (lv' := [(3, .int (nI (i + 1))), (2, .int (nI (ph_cN (fun p => decide (¬ pm_A ρ 0 p ≤ 0)) (i + 1)))), (0, .ref (o 0)), (1, .int x)]) C dX3_look_93 1 rfl (nI_1 _) (by decide) rfl ?_
        refine gV_goto (pc := 96) C 70 dX3_look_96 (by decide) ?_
        exact ih (i + 1) (by omega)
      · skip
        refine gV_iconst (pc := 86) (v := 1) C dX3_look_86 (by decide) ?_
        refine gV_goto (pc := 87) C 91 dX3_look_87 (by decide) ?_
        refine gV_iadd (pc := 91) C dX3_look_91 ?_
        rw [show (nI (ph_cN (fun p => decide (¬ pm_A ρ 0 p ≤ 0)) i)) + 1 = nI (ph_cN (fun p => decide (¬ pm_A ρ 0 p ≤ 0)) (i + 1)) from by rw [ph_cN_t (f := fun p => decide (¬ pm_A ρ 0 p ≤ 0)) (n := i) (by simp [c_2]), nI_1]]
        refine gV_istore_n (pc := 92) (lv' := [(2, .int (nI (ph_cN (fun p => decide (¬ pm_A ρ 0 p ≤ 0)) (i + 1)))), (3, .int (nI i)), (0, .ref (o 0)), (1, .int x)]) C dX3_look_92 rfl (by decide) rfl ?_
        refine gV_iinc (pc := 93) (v := nI (i + 1)) (lv' := [(3, .int (nI (i + 1))), (2, .int (nI (ph_cN (fun p => decide (¬ pm_A ρ 0 p ≤ 0)) (i + 1)))), (0, .ref (o 0)), (1, .int x)]) C dX3_look_93 1 rfl (nI_1 _) (by decide) rfl ?_
        refine gV_goto (pc := 96) C 70 dX3_look_96 (by decide) ?_
        exact ih (i + 1) (by omega)
set_option maxHeartbeats 4000000 in
set_option maxRecDepth 100000 in
theorem mlp_look118 {X : gx_T} {D : va_G} {o : Nat → Nat} {ct : Nat → ClassId} {ρ : pm_S} {x r : Int32} (hr : nI (ph_cN (pm_isB ρ) 300) = r) (C : gC X cX3_look 4 RX3 rm_X3_look (some .int) D (gt ct) (fun v w => v = some (.int r) ∧ w = mw o ct ρ)) : ∀ d i : Nat, i + d = 300 → gV X 0 0 (mw o ct ρ) 118 [(3, .int (nI i)), (2, .int (nI (ph_cN (pm_isB ρ) i))), (0, .ref (o 0)), (1, .int x)] [] := by
  intro d
  induction d with
  | zero =>
    intro i hi
    have e : i = 300 := by omega
    rw [e]
    refine gV_iload_n (pc := 118) C dX3_look_118 0 rfl rfl ?_
    refine gV_sipush (pc := 119) (v := 300) C dX3_look_119 (by decide) ?_
    refine gV_icmp_ge (pc := 122) C 148 dX3_look_122 (by decide) (fun c_1 => ?_) (fun c_1 => ?_)
    · skip
      refine gV_iload_n (pc := 148) C dX3_look_148 1 rfl rfl ?_
      refine gV_iret (pc := 149) C dX3_look_149 (by decide) (by decide) ?_
      exact ⟨by rw [hr], rfl⟩
    · exact absurd (by decide) c_1
  | succ d ih =>
    intro i hi
    refine gV_iload_n (pc := 118) C dX3_look_118 0 rfl rfl ?_
    refine gV_sipush (pc := 119) (v := 300) C dX3_look_119 (by decide) ?_
    refine gV_icmp_ge (pc := 122) C 148 dX3_look_122 (by decide) (fun c_1 => ?_) (fun c_1 => ?_)
    · exact absurd c_1 (nI_ge (a := i) (b := 300) (by omega) (by omega))
    · skip
      refine gV_iload_n (pc := 125) C dX3_look_125 1 rfl rfl ?_
      refine gV_aload_n (pc := 126) (x := o 0) C dX3_look_126 2 rfl rfl ?_
      refine mg_is (pc := 127) C fl_X3_16 dX3_look_127 ?_
      refine gV_iload_n (pc := 130) C dX3_look_130 0 rfl rfl ?_
      refine ma_is (pc := 131) C (vp_in_nI (by omega) (by omega)) dX3_look_131 ?_
      rw [nI_clamp (by omega)]
      refine gV_if_eq (pc := 132) C 139 dX3_look_132 (by decide) (fun c_2 => ?_) (fun c_2 => ?_)
      · skip
        refine gV_iconst (pc := 139) (v := 0) C dX3_look_139 (by decide) ?_
        refine gV_iadd (pc := 140) C dX3_look_140 ?_
        rw [show (nI (ph_cN (pm_isB ρ) i)) + 0 = nI (ph_cN (pm_isB ρ) (i + 1)) from by rw [ph_cN_f (f := pm_isB ρ) (n := i) (by simp [pm_isB, c_2]), nI_p0]]
        refine gV_istore_n (pc := 141) (lv' := [(2, .int (nI (ph_cN (pm_isB ρ) (i + 1)))), (3, .int (nI i)), (0, .ref (o 0)), (1, .int x)]) C dX3_look_141 rfl (by decide) rfl ?_
        refine gV_iinc (pc := 142) (v := nI (i + 1)) (lv' := [(3, .int (nI (i + 1))), (2, .int (nI (ph_cN (pm_isB ρ) (i + 1)))), (0, .ref (o 0)), (1, .int x)]) C dX3_look_142 1 rfl (nI_1 _) (by decide) rfl ?_
        refine gV_goto (pc := 145) C 118 dX3_look_145 (by decide) ?_
        exact ih (i + 1) (by omega)
      · skip
        refine gV_iconst (pc := 135) (v := 1) C dX3_look_135 (by decide) ?_
        refine gV_goto (pc := 136) C 140 dX3_look_136 (by decide) ?_
        refine gV_iadd (pc := 140) C dX3_look_140 ?_
        rw [show (nI (ph_cN (pm_isB ρ) i)) + 1 = nI (ph_cN (pm_isB ρ) (i + 1)) from by rw [ph_cN_t (f := pm_isB ρ) (n := i) (by simp [pm_isB, c_2]), nI_1]]
        refine gV_istore_n (pc := 141) (lv' := [(2, .int (nI (ph_cN (pm_isB ρ) (i + 1)))), (3, .int (nI i)), (0, .ref (o 0)), (1, .int x)]) C dX3_look_141 rfl (by decide) rfl ?_
        refine gV_iinc (pc := 142) (v := nI (i + 1)) (lv' := [(3, .int (nI (i + 1))), (2, .int (nI (ph_cN (pm_isB ρ) (i + 1)))), (0, .ref (o 0)), (1, .int x)]) C dX3_look_142 1 rfl (nI_1 _) (by decide) rfl ?_
        refine gV_goto (pc := 145) C 118 dX3_look_145 (by decide) ?_
        exact ih (i + 1) (by omega)
set_option maxHeartbeats 4000000 in
set_option maxRecDepth 100000 in
theorem mlp_look152 {X : gx_T} {D : va_G} {o : Nat → Nat} {ct : Nat → ClassId} {ρ : pm_S} {x r : Int32} (hr : nI (ph_cN (pm_diB ρ) 300) = r) (C : gC X cX3_look 4 RX3 rm_X3_look (some .int) D (gt ct) (fun v w => v = some (.int r) ∧ w = mw o ct ρ)) : ∀ d i : Nat, i + d = 300 → gV X 0 0 (mw o ct ρ) 152 [(3, .int (nI i)), (2, .int (nI (ph_cN (pm_diB ρ) i))), (0, .ref (o 0)), (1, .int x)] [] := by
  intro d
  induction d with
  | zero =>
    intro i hi
    have e : i = 300 := by omega
    rw [e]
    refine gV_iload_n (pc := 152) C dX3_look_152 0 rfl rfl ?_
    refine gV_sipush (pc := 153) (v := 300) C dX3_look_153 (by decide) ?_
    refine gV_icmp_ge (pc := 156) C 201 dX3_look_156 (by decide) (fun c_1 => ?_) (fun c_1 => ?_)
    · skip
      refine gV_iload_n (pc := 201) C dX3_look_201 1 rfl rfl ?_
      refine gV_iret (pc := 202) C dX3_look_202 (by decide) (by decide) ?_
      exact ⟨by rw [hr], rfl⟩
    · exact absurd (by decide) c_1
  | succ d ih =>
    intro i hi
    refine gV_iload_n (pc := 152) C dX3_look_152 0 rfl rfl ?_
    refine gV_sipush (pc := 153) (v := 300) C dX3_look_153 (by decide) ?_
    refine gV_icmp_ge (pc := 156) C 201 dX3_look_156 (by decide) (fun c_1 => ?_) (fun c_1 => ?_)
    · exact absurd c_1 (nI_ge (a := i) (b := 300) (by omega) (by omega))
    · skip
      refine gV_iload_n (pc := 159) C dX3_look_159 1 rfl rfl ?_
      refine gV_aload_n (pc := 160) (x := o 0) C dX3_look_160 2 rfl rfl ?_
      refine mg_is (pc := 161) C fl_X3_16 dX3_look_161 ?_
      refine gV_iload_n (pc := 164) C dX3_look_164 0 rfl rfl ?_
      refine ma_is (pc := 165) C (vp_in_nI (by omega) (by omega)) dX3_look_165 ?_
      rw [nI_clamp (by omega)]
      refine gV_if_eq (pc := 166) C 192 dX3_look_166 (by decide) (fun c_2 => ?_) (fun c_2 => ?_)
      · skip
        refine gV_iconst (pc := 192) (v := 0) C dX3_look_192 (by decide) ?_
        refine gV_iadd (pc := 193) C dX3_look_193 ?_
        rw [show (nI (ph_cN (pm_diB ρ) i)) + 0 = nI (ph_cN (pm_diB ρ) (i + 1)) from by rw [ph_cN_f (f := pm_diB ρ) (n := i) (by simp [pm_diB, c_2]), nI_p0]]
        refine gV_istore_n (pc := 194) (lv' := [(2, .int (nI (ph_cN (pm_diB ρ) (i + 1)))), (3, .int (nI i)), (0, .ref (o 0)), (1, .int x)]) C dX3_look_194 rfl (by decide) rfl ?_
        refine gV_iinc (pc := 195) (v := nI (i + 1)) (lv' := [(3, .int (nI (i + 1))), (2, .int (nI (ph_cN (pm_diB ρ) (i + 1)))), (0, .ref (o 0)), (1, .int x)]) C dX3_look_195 1 rfl (nI_1 _) (by decide) rfl ?_
        refine gV_goto (pc := 198) C 152 dX3_look_198 (by decide) ?_
        exact ih (i + 1) (by omega)
      · skip
        refine gV_aload_n (pc := 169) (x := o 0) C dX3_look_169 2 rfl rfl ?_
        refine mg_frameOf (pc := 170) C fl_X3_20 dX3_look_170 ?_
        refine gV_iload_n (pc := 173) C dX3_look_173 0 rfl rfl ?_
        refine ma_frameOf (pc := 174) C (vp_in_nI (by omega) (by omega)) dX3_look_174 ?_
        rw [nI_clamp (by omega)]
        refine gV_iconst (pc := 175) (v := (-1)) C dX3_look_175 (by decide) ?_
        refine gV_icmp_eq (pc := 176) C 192 dX3_look_176 (by decide) (fun c_3 => ?_) (fun c_3 => ?_)
        · skip
          refine gV_iconst (pc := 192) (v := 0) C dX3_look_192 (by decide) ?_
          refine gV_iadd (pc := 193) C dX3_look_193 ?_
          rw [show (nI (ph_cN (pm_diB ρ) i)) + 0 = nI (ph_cN (pm_diB ρ) (i + 1)) from by rw [ph_cN_f (f := pm_diB ρ) (n := i) (by simp [pm_diB, c_2, c_3]), nI_p0]]
          refine gV_istore_n (pc := 194) (lv' := [(2, .int (nI (ph_cN (pm_diB ρ) (i + 1)))), (3, .int (nI i)), (0, .ref (o 0)), (1, .int x)]) C dX3_look_194 rfl (by decide) rfl ?_
          refine gV_iinc (pc := 195) (v := nI (i + 1)) (lv' := [(3, .int (nI (i + 1))), (2, .int (nI (ph_cN (pm_diB ρ) (i + 1)))), (0, .ref (o 0)), (1, .int x)]) C dX3_look_195 1 rfl (nI_1 _) (by decide) rfl ?_
          refine gV_goto (pc := 198) C 152 dX3_look_198 (by decide) ?_
          exact ih (i + 1) (by omega)
        · skip
          refine gV_aload_n (pc := 179) (x := o 0) C dX3_look_179 2 rfl rfl ?_
          refine mg_dirty (pc := 180) C fl_X3_26 dX3_look_180 ?_
          refine gV_iload_n (pc := 183) C dX3_look_183 0 rfl rfl ?_
          refine ma_dirty (pc := 184) C (vp_in_nI (by omega) (by omega)) dX3_look_184 ?_
          rw [nI_clamp (by omega)]
          refine gV_if_eq (pc := 185) C 192 dX3_look_185 (by decide) (fun c_4 => ?_) (fun c_4 => ?_)
          · skip
            refine gV_iconst (pc := 192) (v := 0) C dX3_look_192 (by decide) ?_
            refine gV_iadd (pc := 193) C dX3_look_193 ?_
            rw [show (nI (ph_cN (pm_diB ρ) i)) + 0 = nI (ph_cN (pm_diB ρ) (i + 1)) from by rw [ph_cN_f (f := pm_diB ρ) (n := i) (by simp [pm_diB, c_2, c_3, c_4]), nI_p0]]
            refine gV_istore_n (pc := 194) (lv' := [(2, .int (nI (ph_cN (pm_diB ρ) (i + 1)))), (3, .int (nI i)), (0, .ref (o 0)), (1, .int x)]) C dX3_look_194 rfl (by decide) rfl ?_
            refine gV_iinc (pc := 195) (v := nI (i + 1)) (lv' := [(3, .int (nI (i + 1))), (2, .int (nI (ph_cN (pm_diB ρ) (i + 1)))), (0, .ref (o 0)), (1, .int x)]) C dX3_look_195 1 rfl (nI_1 _) (by decide) rfl ?_
            refine gV_goto (pc := 198) C 152 dX3_look_198 (by decide) ?_
            exact ih (i + 1) (by omega)
          · skip
            refine gV_iconst (pc := 188) (v := 1) C dX3_look_188 (by decide) ?_
            refine gV_goto (pc := 189) C 193 dX3_look_189 (by decide) ?_
            refine gV_iadd (pc := 193) C dX3_look_193 ?_
            rw [show (nI (ph_cN (pm_diB ρ) i)) + 1 = nI (ph_cN (pm_diB ρ) (i + 1)) from by rw [ph_cN_t (f := pm_diB ρ) (n := i) (by simp [pm_diB, c_2, c_3, c_4]), nI_1]]
            refine gV_istore_n (pc := 194) (lv' := [(2, .int (nI (ph_cN (pm_diB ρ) (i + 1)))), (3, .int (nI i)), (0, .ref (o 0)), (1, .int x)]) C dX3_look_194 rfl (by decide) rfl ?_
            refine gV_iinc (pc := 195) (v := nI (i + 1)) (lv' := [(3, .int (nI (i + 1))), (2, .int (nI (ph_cN (pm_diB ρ) (i + 1)))), (0, .ref (o 0)), (1, .int x)]) C dX3_look_195 1 rfl (nI_1 _) (by decide) rfl ?_
            refine gV_goto (pc := 198) C 152 dX3_look_198 (by decide) ?_
            exact ih (i + 1) (by omega)
set_option maxHeartbeats 4000000 in
set_option maxRecDepth 100000 in
/-- look -/
theorem d_look {D : va_G} {o : Nat → Nat} {ct : Nat → ClassId} {μ : pm_S} {F S : Nat} (x : Int32) (hok : pm_ok F S μ) : gM yX3_look cX3_look 4 (some .int) rm_X3_look D (gt ct) (mw o ct μ) [.ref (o 0), .int x] (fun v w => v = some (.int (pm_lkV F S (pm_sI μ 0 0) x)) ∧ w = mw o ct (pm_sI μ 0 0)) := by
  refine gM_in RX3 rfl (by decide) (Nat.le_of_ble_eq_true rfl) (fun X C => ?_)
  obtain ⟨⟨hF2, hF16, hS64⟩, e1, e2, hhd, hpn, hbo⟩ := id hok
  refine gV_aload_n (pc := 0) (x := o 0) C dX3_look_0 0 rfl rfl ?_
  refine gV_iconst (pc := 1) (v := 0) C dX3_look_1 (by decide) ?_
  refine mp_thrown (pc := 2) C fl_X3_45 dX3_look_2 ?_
  refine gV_iconst (pc := 5) (v := 0) C dX3_look_5 (by decide) ?_
  refine gV_istore_n (pc := 6) (lv' := [(2, .int 0), (0, .ref (o 0)), (1, .int x)]) C dX3_look_6 rfl (by decide) rfl ?_
  refine gV_iload_n (pc := 7) C dX3_look_7 2 rfl rfl ?_
  by_cases t_1 : x = 0
  · refine gV_tableIn (pc := 8) C 68 dX3_look_8 (by rw [t_1]; decide) (by rw [t_1]; decide) (by rw [t_1]; rfl) (by decide) ?_
    refine gV_iconst (pc := 68) (v := 0) C dX3_look_68 (by decide) ?_
    refine gV_istore_n (pc := 69) (lv' := [(3, .int 0), (2, .int 0), (0, .ref (o 0)), (1, .int x)]) C dX3_look_69 rfl (by decide) rfl ?_
    exact mlp_look70 (by rw [pm_lkV, if_pos t_1]) C 8 0 rfl
  by_cases t_2 : x = 1
  · refine gV_tableIn (pc := 8) C 101 dX3_look_8 (by rw [t_2]; decide) (by rw [t_2]; decide) (by rw [t_2]; rfl) (by decide) ?_
    refine gV_aload_n (pc := 101) (x := o 0) C dX3_look_101 1 rfl rfl ?_
    refine gV_callV (pc := 102) (As := []) (rest := []) C ml_X3_92 gy_X3_freeFrames gv_X3_freeFrames (d_freeFrames (F := F) e1 (by omega)) ⟨0, 3, _, _, rfl, rfl, rfl⟩ rfl rfl ⟨by decide, by decide⟩ (Nat.le_of_ble_eq_true rfl) (by decide) (by decide) dX3_look_102 ?_
    rintro _ _ ⟨rfl, rfl⟩
    refine gV_iret (pc := 105) C dX3_look_105 (by decide) (by decide) ?_
    exact ⟨by rw [pm_lkV, if_neg t_1, if_pos t_2], rfl⟩
  by_cases t_3 : x = 2
  · refine gV_tableIn (pc := 8) C 106 dX3_look_8 (by rw [t_3]; decide) (by rw [t_3]; decide) (by rw [t_3]; rfl) (by decide) ?_
    refine gV_aload_n (pc := 106) (x := o 0) C dX3_look_106 1 rfl rfl ?_
    refine gV_callV (pc := 107) (As := []) (rest := []) C ml_X3_95 gy_X3_freeSectors gv_X3_freeSectors (d_freeSectors (S := S) e2 (by omega)) ⟨0, 3, _, _, rfl, rfl, rfl⟩ rfl rfl ⟨by decide, by decide⟩ (Nat.le_of_ble_eq_true rfl) (by decide) (by decide) dX3_look_107 ?_
    rintro _ _ ⟨rfl, rfl⟩
    refine gV_iret (pc := 110) C dX3_look_110 (by decide) (by decide) ?_
    exact ⟨by rw [pm_lkV, if_neg t_1, if_neg t_2, if_pos t_3], rfl⟩
  by_cases t_4 : x = 3
  · refine gV_tableIn (pc := 8) C 111 dX3_look_8 (by rw [t_4]; decide) (by rw [t_4]; decide) (by rw [t_4]; rfl) (by decide) ?_
    refine gV_aload_n (pc := 111) (x := o 0) C dX3_look_111 1 rfl rfl ?_
    refine mg_hand (pc := 112) C fl_X3_68 dX3_look_112 ?_
    refine gV_iret (pc := 115) C dX3_look_115 (by decide) (by decide) ?_
    exact ⟨by rw [pm_lkV, if_neg t_1, if_neg t_2, if_neg t_3, if_pos t_4], rfl⟩
  by_cases t_5 : x = 4
  · refine gV_tableIn (pc := 8) C 116 dX3_look_8 (by rw [t_5]; decide) (by rw [t_5]; decide) (by rw [t_5]; rfl) (by decide) ?_
    refine gV_iconst (pc := 116) (v := 0) C dX3_look_116 (by decide) ?_
    refine gV_istore_n (pc := 117) (lv' := [(3, .int 0), (2, .int 0), (0, .ref (o 0)), (1, .int x)]) C dX3_look_117 rfl (by decide) rfl ?_
    exact mlp_look118 (by rw [pm_lkV, if_neg t_1, if_neg t_2, if_neg t_3, if_neg t_4, if_pos t_5]) C 300 0 rfl
  by_cases t_6 : x = 5
  · refine gV_tableIn (pc := 8) C 150 dX3_look_8 (by rw [t_6]; decide) (by rw [t_6]; decide) (by rw [t_6]; rfl) (by decide) ?_
    refine gV_iconst (pc := 150) (v := 0) C dX3_look_150 (by decide) ?_
    refine gV_istore_n (pc := 151) (lv' := [(3, .int 0), (2, .int 0), (0, .ref (o 0)), (1, .int x)]) C dX3_look_151 rfl (by decide) rfl ?_
    exact mlp_look152 (by rw [pm_lkV, if_neg t_1, if_neg t_2, if_neg t_3, if_neg t_4, if_neg t_5, if_pos t_6]) C 300 0 rfl
  by_cases t_7 : x = 6
  · refine gV_tableIn (pc := 8) C 203 dX3_look_8 (by rw [t_7]; decide) (by rw [t_7]; decide) (by rw [t_7]; rfl) (by decide) ?_
    refine gV_aload_n (pc := 203) (x := o 0) C dX3_look_203 1 rfl rfl ?_
    refine mg_asked (pc := 204) C fl_X3_102 dX3_look_204 ?_
    refine gV_iret (pc := 207) C dX3_look_207 (by decide) (by decide) ?_
    exact ⟨by rw [pm_lkV, if_neg t_1, if_neg t_2, if_neg t_3, if_neg t_4, if_neg t_5, if_neg t_6, if_pos t_7], rfl⟩
  by_cases t_8 : x = 7
  · refine gV_tableIn (pc := 8) C 208 dX3_look_8 (by rw [t_8]; decide) (by rw [t_8]; decide) (by rw [t_8]; rfl) (by decide) ?_
    refine gV_aload_n (pc := 208) (x := o 0) C dX3_look_208 1 rfl rfl ?_
    refine mg_taken (pc := 209) C fl_X3_65 dX3_look_209 ?_
    refine gV_iret (pc := 212) C dX3_look_212 (by decide) (by decide) ?_
    exact ⟨by rw [pm_lkV, if_neg t_1, if_neg t_2, if_neg t_3, if_neg t_4, if_neg t_5, if_neg t_6, if_neg t_7, if_pos t_8], rfl⟩
  by_cases t_9 : x = 8
  · refine gV_tableIn (pc := 8) C 213 dX3_look_8 (by rw [t_9]; decide) (by rw [t_9]; decide) (by rw [t_9]; rfl) (by decide) ?_
    refine gV_aload_n (pc := 213) (x := o 0) C dX3_look_213 1 rfl rfl ?_
    refine mg_brought (pc := 214) C fl_X3_78 dX3_look_214 ?_
    refine gV_iret (pc := 217) C dX3_look_217 (by decide) (by decide) ?_
    exact ⟨by rw [pm_lkV, if_neg t_1, if_neg t_2, if_neg t_3, if_neg t_4, if_neg t_5, if_neg t_6, if_neg t_7, if_neg t_8, if_pos t_9], rfl⟩
  by_cases t_10 : x = 9
  · refine gV_tableIn (pc := 8) C 218 dX3_look_8 (by rw [t_10]; decide) (by rw [t_10]; decide) (by rw [t_10]; rfl) (by decide) ?_
    refine gV_aload_n (pc := 218) (x := o 0) C dX3_look_218 1 rfl rfl ?_
    refine mg_stores (pc := 219) C fl_X3_62 dX3_look_219 ?_
    refine gV_iret (pc := 222) C dX3_look_222 (by decide) (by decide) ?_
    exact ⟨by rw [pm_lkV, if_neg t_1, if_neg t_2, if_neg t_3, if_neg t_4, if_neg t_5, if_neg t_6, if_neg t_7, if_neg t_8, if_neg t_9, if_pos t_10], rfl⟩
  by_cases t_11 : x = 10
  · refine gV_tableIn (pc := 8) C 223 dX3_look_8 (by rw [t_11]; decide) (by rw [t_11]; decide) (by rw [t_11]; rfl) (by decide) ?_
    refine gV_aload_n (pc := 223) (x := o 0) C dX3_look_223 1 rfl rfl ?_
    refine mg_copies (pc := 224) C fl_X3_111 dX3_look_224 ?_
    refine gV_iret (pc := 227) C dX3_look_227 (by decide) (by decide) ?_
    exact ⟨by rw [pm_lkV, if_neg t_1, if_neg t_2, if_neg t_3, if_neg t_4, if_neg t_5, if_neg t_6, if_neg t_7, if_neg t_8, if_neg t_9, if_neg t_10, if_pos t_11], rfl⟩
  have nt_1 : x.toInt ≠ 0 := fun e => t_1 (Int32.toInt_inj.mp (e.trans (by decide)))
  have nt_2 : x.toInt ≠ 1 := fun e => t_2 (Int32.toInt_inj.mp (e.trans (by decide)))
  have nt_3 : x.toInt ≠ 2 := fun e => t_3 (Int32.toInt_inj.mp (e.trans (by decide)))
  have nt_4 : x.toInt ≠ 3 := fun e => t_4 (Int32.toInt_inj.mp (e.trans (by decide)))
  have nt_5 : x.toInt ≠ 4 := fun e => t_5 (Int32.toInt_inj.mp (e.trans (by decide)))
  have nt_6 : x.toInt ≠ 5 := fun e => t_6 (Int32.toInt_inj.mp (e.trans (by decide)))
  have nt_7 : x.toInt ≠ 6 := fun e => t_7 (Int32.toInt_inj.mp (e.trans (by decide)))
  have nt_8 : x.toInt ≠ 7 := fun e => t_8 (Int32.toInt_inj.mp (e.trans (by decide)))
  have nt_9 : x.toInt ≠ 8 := fun e => t_9 (Int32.toInt_inj.mp (e.trans (by decide)))
  have nt_10 : x.toInt ≠ 9 := fun e => t_10 (Int32.toInt_inj.mp (e.trans (by decide)))
  have nt_11 : x.toInt ≠ 10 := fun e => t_11 (Int32.toInt_inj.mp (e.trans (by decide)))
  refine gV_tableOut (pc := 8) C 228 dX3_look_8 (by omega) (by decide) ?_
  refine gV_iconst (pc := 228) (v := (-1)) C dX3_look_228 (by decide) ?_
  refine gV_iret (pc := 229) C dX3_look_229 (by decide) (by decide) ?_
  exact ⟨by rw [pm_lkV, if_neg t_1, if_neg t_2, if_neg t_3, if_neg t_4, if_neg t_5, if_neg t_6, if_neg t_7, if_neg t_8, if_neg t_9, if_neg t_10, if_neg t_11], rfl⟩
abbrev rm_X3_flush : Room := { frames := 2, cells := 0, slots := 0, locals := 45 }
set_option maxHeartbeats 4000000 in
set_option maxRecDepth 100000 in
theorem mlp_flushB {X : gx_T} {D : va_G} {o : Nat → Nat} {ct : Nat → ClassId} {ρ : pm_S} {F S : Nat} {y z : Int32} (hF : F ≤ 16) (hS : S ≤ 64) (hv : pm_flV S ρ = y) (C : gC X cX3_flush 5 RX3 rm_X3_flush (some .int) D (gt ct) (fun v w => v = some (.int (pm_flV S ρ)) ∧ w = mw o ct (pm_flW F S ρ))) : ∀ (d i : Nat) (τ : pm_S), i + d = F → pm_I τ 1 = nI F → pm_flK S d i τ → pm_flG S d i τ = pm_flW F S ρ → gV X 0 0 (mw o ct τ) 107 [(3, .int (nI i)), (2, .int y), (1, .int z), (0, .ref (o 0))] [] := by
  intro d
  induction d with
  | zero =>
    intro i τ hi e1 hk hr
    have e : τ = pm_flW F S ρ := hr
    refine gV_iload_n (pc := 107) C dX3_flush_107 0 rfl rfl ?_
    refine gV_aload_n (pc := 108) (x := o 0) C dX3_flush_108 3 rfl rfl ?_
    refine mg_frames (pc := 109) C fl_X3_38 dX3_flush_109 ?_
    rw [show pm_I (τ) 1 = nI F from e1]
    refine gV_icmp_ge (pc := 112) C 150 dX3_flush_112 (by decide) (fun c_1 => ?_) (fun c_1 => ?_)
    · skip
      refine gV_iload_n (pc := 150) C dX3_flush_150 1 rfl rfl ?_
      refine gV_iret (pc := 151) C dX3_flush_151 (by decide) (by decide) ?_
      exact ⟨by rw [hv], by rw [e]⟩
    · exact absurd (nI_le (by omega) (by omega)) c_1
  | succ d ih =>
    intro i τ hi e1 hk hr
    refine gV_iload_n (pc := 107) C dX3_flush_107 0 rfl rfl ?_
    refine gV_aload_n (pc := 108) (x := o 0) C dX3_flush_108 3 rfl rfl ?_
    refine mg_frames (pc := 109) C fl_X3_38 dX3_flush_109 ?_
    rw [show pm_I (τ) 1 = nI F from e1]
    refine gV_icmp_ge (pc := 112) C 150 dX3_flush_112 (by decide) (fun c_1 => ?_) (fun c_1 => ?_)
    · exact absurd c_1 (nI_ge (by omega) (by omega))
    · skip
      refine gV_aload_n (pc := 115) (x := o 0) C dX3_flush_115 3 rfl rfl ?_
      refine gV_iload_n (pc := 116) C dX3_flush_116 0 rfl rfl ?_
      refine gV_callV (pc := 117) (As := [.int (nI i)]) (rest := []) C ml_X3_52 gy_X3_bodyIn gv_X3_bodyIn (d_bodyIn _) ⟨0, 3, _, _, rfl, rfl, rfl⟩ rfl rfl ⟨by decide, by decide⟩ (Nat.le_of_ble_eq_true rfl) (by decide) (by decide) dX3_flush_117 ?_
      rintro _ _ ⟨rfl, rfl⟩
      refine gV_istore (pc := 120) (lv' := [(4, .int (pm_bi (τ) (nI i))), (3, .int (nI i)), (2, .int y), (1, .int z), (0, .ref (o 0))]) C dX3_flush_120 (by decide) rfl ?_
      refine gV_iload (pc := 122) C dX3_flush_122 0 rfl ?_
      refine gV_iconst (pc := 124) (v := (-1)) C dX3_flush_124 (by decide) ?_
      refine gV_icmp_eq (pc := 125) C 144 dX3_flush_125 (by decide) (fun c_2 => ?_) (fun c_2 => ?_)
      · skip
        refine gV_iinc (pc := 144) (v := nI (i + 1)) (lv' := [(3, .int (nI (i + 1))), (4, .int (pm_bi (τ) (nI i))), (2, .int y), (1, .int z), (0, .ref (o 0))]) C dX3_flush_144 1 rfl (nI_1 _) (by decide) rfl ?_
        refine gV_goto (pc := 147) C 107 dX3_flush_147 (by decide) ?_
        refine gV_lv [0, 2, 3, 4] rfl ?_
        have eS : pm_flS S τ i = τ := by rw [pm_flS, if_pos c_2]
        have hk2 := hk.2
        have hr2 := hr
        have e3 := flS_I1 S τ i
        rw [pm_flG, eS] at hr2
        rw [eS] at hk2 e3
        exact ih (i + 1) _ (by omega) (e3.trans e1) hk2 hr2
      · skip
        refine gV_aload_n (pc := 128) (x := o 0) C dX3_flush_128 4 rfl rfl ?_
        refine mg_dirty (pc := 129) C fl_X3_26 dX3_flush_129 ?_
        refine gV_iload (pc := 132) C dX3_flush_132 0 rfl ?_
        refine ma_dirty (pc := 134) C (by have h9 := bi_nI c_2; rw [← h9.2]; exact vp_in_nI h9.1 (by omega)) dX3_flush_134 ?_
        refine gV_if_eq (pc := 135) C 144 dX3_flush_135 (by decide) (fun c_3 => ?_) (fun c_3 => ?_)
        · skip
          refine gV_iinc (pc := 144) (v := nI (i + 1)) (lv' := [(3, .int (nI (i + 1))), (4, .int (pm_bi (τ) (nI i))), (2, .int y), (1, .int z), (0, .ref (o 0))]) C dX3_flush_144 1 rfl (nI_1 _) (by decide) rfl ?_
          refine gV_goto (pc := 147) C 107 dX3_flush_147 (by decide) ?_
          refine gV_lv [0, 2, 3, 4] rfl ?_
          have eS : pm_flS S τ i = τ := by rw [pm_flS, if_neg c_2, if_pos c_3]
          have hk2 := hk.2
          have hr2 := hr
          have e3 := flS_I1 S τ i
          rw [pm_flG, eS] at hr2
          rw [eS] at hk2 e3
          exact ih (i + 1) _ (by omega) (e3.trans e1) hk2 hr2
        · skip
          refine gV_aload_n (pc := 138) (x := o 0) C dX3_flush_138 4 rfl rfl ?_
          refine gV_iload (pc := 139) C dX3_flush_139 0 rfl ?_
          have h9 := bi_nI c_2
          refine gV_st (congrArg (fun q => [Value.int q, .ref (o 0)]) h9.2.symm) ?_
          refine gV_callV (pc := 141) (As := [.int (nI (pm_bi τ (nI i)).toNatClampNeg)]) (rest := []) C ml_X3_71 gy_X3_store gv_X3_store (d_store (b := (pm_bi τ (nI i)).toNatClampNeg) (S := S) (by omega) (by omega) (hk.1 c_2 c_3)) ⟨0, 3, _, _, rfl, rfl, rfl⟩ rfl rfl ⟨by decide, by decide⟩ (Nat.le_of_ble_eq_true rfl) (by decide) (by decide) dX3_flush_141 ?_
          rintro _ _ ⟨rfl, rfl⟩
          refine gV_iinc (pc := 144) (v := nI (i + 1)) (lv' := [(3, .int (nI (i + 1))), (4, .int (pm_bi (τ) (nI i))), (2, .int y), (1, .int z), (0, .ref (o 0))]) C dX3_flush_144 1 rfl (nI_1 _) (by decide) rfl ?_
          refine gV_goto (pc := 147) C 107 dX3_flush_147 (by decide) ?_
          refine gV_lv [0, 2, 3, 4] rfl ?_
          have eS : pm_flS S τ i = pm_st S τ (pm_bi τ (nI i)).toNatClampNeg := by rw [pm_flS, if_neg c_2, if_neg c_3]
          have hk2 := hk.2
          have hr2 := hr
          have e3 := flS_I1 S τ i
          rw [pm_flG, eS] at hr2
          rw [eS] at hk2 e3
          exact ih (i + 1) _ (by omega) (e3.trans e1) hk2 hr2
set_option maxHeartbeats 4000000 in
set_option maxRecDepth 100000 in
theorem mlp_flushA {X : gx_T} {D : va_G} {o : Nat → Nat} {ct : Nat → ClassId} {ρ : pm_S} {F S : Nat} (hF : F ≤ 16) (hS : S ≤ 64) (e1 : pm_I ρ 1 = nI F) (e2 : pm_I ρ 2 = nI S) (hk : nI (ph_cN (pm_wsB ρ) 300) ≤ nI (pm_fs S ρ) → pm_flK S F 0 ρ) (C : gC X cX3_flush 5 RX3 rm_X3_flush (some .int) D (gt ct) (fun v w => v = some (.int (pm_flV S ρ)) ∧ w = mw o ct (pm_flW F S ρ))) : ∀ d i : Nat, i + d = 300 → gV X 0 0 (mw o ct ρ) 11 [(3, .int (nI i)), (2, .int (nI (ph_cN (pm_diB ρ) i))), (1, .int (nI (ph_cN (pm_wsB ρ) i))), (0, .ref (o 0))] [] := by
  intro d
  induction d with
  | zero =>
    intro i hi
    have e : i = 300 := by omega
    rw [e]
    refine gV_iload_n (pc := 11) C dX3_flush_11 0 rfl rfl ?_
    refine gV_sipush (pc := 12) (v := 300) C dX3_flush_12 (by decide) ?_
    refine gV_icmp_ge (pc := 15) C 95 dX3_flush_15 (by decide) (fun c_1 => ?_) (fun c_1 => ?_)
    · skip
      refine gV_iload_n (pc := 95) C dX3_flush_95 2 rfl rfl ?_
      refine gV_aload_n (pc := 96) (x := o 0) C dX3_flush_96 3 rfl rfl ?_
      refine gV_callV (pc := 97) (As := []) (rest := [.int (nI (ph_cN (pm_wsB ρ) 300))]) C ml_X3_95 gy_X3_freeSectors gv_X3_freeSectors (d_freeSectors (S := S) e2 (by omega)) ⟨0, 3, _, _, rfl, rfl, rfl⟩ rfl rfl ⟨by decide, by decide⟩ (Nat.le_of_ble_eq_true rfl) (by decide) (by decide) dX3_flush_97 ?_
      rintro _ _ ⟨rfl, rfl⟩
      refine gV_icmp_le (pc := 100) C 105 dX3_flush_100 (by decide) (fun c_2 => ?_) (fun c_2 => ?_)
      · skip
        refine gV_iconst (pc := 105) (v := 0) C dX3_flush_105 (by decide) ?_
        refine gV_istore_n (pc := 106) (lv' := [(3, .int 0), (2, .int (nI (ph_cN (pm_diB ρ) 300))), (1, .int (nI (ph_cN (pm_wsB ρ) 300))), (0, .ref (o 0))]) C dX3_flush_106 rfl (by decide) rfl ?_
        exact mlp_flushB hF hS (by rw [pm_flV, if_pos c_2]) C F 0 ρ (Nat.zero_add _) e1 (hk c_2) (by rw [pm_flW, if_pos c_2])
      · skip
        refine gV_iconst (pc := 103) (v := (-1)) C dX3_flush_103 (by decide) ?_
        refine gV_iret (pc := 104) C dX3_flush_104 (by decide) (by decide) ?_
        exact ⟨by rw [pm_flV, if_neg c_2], by rw [pm_flW, if_neg c_2]⟩
    · exact absurd (by decide) c_1
  | succ d ih =>
    intro i hi
    refine gV_iload_n (pc := 11) C dX3_flush_11 0 rfl rfl ?_
    refine gV_sipush (pc := 12) (v := 300) C dX3_flush_12 (by decide) ?_
    refine gV_icmp_ge (pc := 15) C 95 dX3_flush_15 (by decide) (fun c_1 => ?_) (fun c_1 => ?_)
    · exact absurd c_1 (nI_ge (a := i) (b := 300) (by omega) (by omega))
    · skip
      refine gV_aload_n (pc := 18) (x := o 0) C dX3_flush_18 3 rfl rfl ?_
      refine mg_is (pc := 19) C fl_X3_16 dX3_flush_19 ?_
      refine gV_iload_n (pc := 22) C dX3_flush_22 0 rfl rfl ?_
      refine ma_is (pc := 23) C (vp_in_nI (by omega) (by omega)) dX3_flush_23 ?_
      rw [nI_clamp (by omega)]
      refine gV_if_eq (pc := 24) C 50 dX3_flush_24 (by decide) (fun c_2 => ?_) (fun c_2 => ?_)
      · skip
        refine gV_iconst (pc := 50) (v := 0) C dX3_flush_50 (by decide) ?_
        refine gV_istore (pc := 51) (lv' := [(4, .int 0), (3, .int (nI i)), (2, .int (nI (ph_cN (pm_diB ρ) i))), (1, .int (nI (ph_cN (pm_wsB ρ) i))), (0, .ref (o 0))]) C dX3_flush_51 (by decide) rfl ?_
        refine gV_iload_n (pc := 53) C dX3_flush_53 2 rfl rfl ?_
        refine gV_iload (pc := 54) C dX3_flush_54 0 rfl ?_
        refine gV_if_eq (pc := 56) C 63 dX3_flush_56 (by decide) (fun c_3 => ?_) (fun c_3 => ?_)
        · skip
          refine gV_iconst (pc := 63) (v := 0) C dX3_flush_63 (by decide) ?_
          refine gV_iadd (pc := 64) C dX3_flush_64 ?_
          rw [show (nI (ph_cN (pm_diB ρ) i)) + 0 = nI (ph_cN (pm_diB ρ) (i + 1)) from by rw [ph_cN_f (f := pm_diB ρ) (n := i) (by simp [pm_diB, c_2, c_3]), nI_p0]]
          refine gV_istore_n (pc := 65) (lv' := [(2, .int (nI (ph_cN (pm_diB ρ) (i + 1)))), (4, .int 0), (3, .int (nI i)), (1, .int (nI (ph_cN (pm_wsB ρ) i))), (0, .ref (o 0))]) C dX3_flush_65 rfl (by decide) rfl ?_
          refine gV_iload_n (pc := 66) C dX3_flush_66 3 rfl rfl ?_
          refine gV_iload (pc := 67) C dX3_flush_67 1 rfl ?_
          refine gV_if_eq (pc := 69) C 86 dX3_flush_69 (by decide) (fun c_4 => ?_) (fun c_4 => ?_)
          · skip
            refine gV_iconst (pc := 86) (v := 0) C dX3_flush_86 (by decide) ?_
            refine gV_iadd (pc := 87) C dX3_flush_87 ?_
            rw [show (nI (ph_cN (pm_wsB ρ) i)) + 0 = nI (ph_cN (pm_wsB ρ) (i + 1)) from by rw [ph_cN_f (f := pm_wsB ρ) (n := i) (by simp [pm_wsB, pm_diB, c_2, c_3, c_4]), nI_p0]]
            refine gV_istore_n (pc := 88) (lv' := [(1, .int (nI (ph_cN (pm_wsB ρ) (i + 1)))), (2, .int (nI (ph_cN (pm_diB ρ) (i + 1)))), (4, .int 0), (3, .int (nI i)), (0, .ref (o 0))]) C dX3_flush_88 rfl (by decide) rfl ?_
            refine gV_iinc (pc := 89) (v := nI (i + 1)) (lv' := [(3, .int (nI (i + 1))), (1, .int (nI (ph_cN (pm_wsB ρ) (i + 1)))), (2, .int (nI (ph_cN (pm_diB ρ) (i + 1)))), (4, .int 0), (0, .ref (o 0))]) C dX3_flush_89 3 rfl (nI_1 _) (by decide) rfl ?_
            refine gV_goto (pc := 92) C 11 dX3_flush_92 (by decide) ?_
            refine gV_lv [0, 2, 1, 4] rfl ?_
            exact ih (i + 1) (by omega)
          · exact absurd rfl c_4
        · exact absurd rfl c_3
      · skip
        refine gV_aload_n (pc := 27) (x := o 0) C dX3_flush_27 3 rfl rfl ?_
        refine mg_frameOf (pc := 28) C fl_X3_20 dX3_flush_28 ?_
        refine gV_iload_n (pc := 31) C dX3_flush_31 0 rfl rfl ?_
        refine ma_frameOf (pc := 32) C (vp_in_nI (by omega) (by omega)) dX3_flush_32 ?_
        rw [nI_clamp (by omega)]
        refine gV_iconst (pc := 33) (v := (-1)) C dX3_flush_33 (by decide) ?_
        refine gV_icmp_eq (pc := 34) C 50 dX3_flush_34 (by decide) (fun c_5 => ?_) (fun c_5 => ?_)
        · skip
          refine gV_iconst (pc := 50) (v := 0) C dX3_flush_50 (by decide) ?_
          refine gV_istore (pc := 51) (lv' := [(4, .int 0), (3, .int (nI i)), (2, .int (nI (ph_cN (pm_diB ρ) i))), (1, .int (nI (ph_cN (pm_wsB ρ) i))), (0, .ref (o 0))]) C dX3_flush_51 (by decide) rfl ?_
          refine gV_iload_n (pc := 53) C dX3_flush_53 2 rfl rfl ?_
          refine gV_iload (pc := 54) C dX3_flush_54 0 rfl ?_
          refine gV_if_eq (pc := 56) C 63 dX3_flush_56 (by decide) (fun c_6 => ?_) (fun c_6 => ?_)
          · skip
            refine gV_iconst (pc := 63) (v := 0) C dX3_flush_63 (by decide) ?_
            refine gV_iadd (pc := 64) C dX3_flush_64 ?_
            rw [show (nI (ph_cN (pm_diB ρ) i)) + 0 = nI (ph_cN (pm_diB ρ) (i + 1)) from by rw [ph_cN_f (f := pm_diB ρ) (n := i) (by simp [pm_diB, c_2, c_5, c_6]), nI_p0]]
            refine gV_istore_n (pc := 65) (lv' := [(2, .int (nI (ph_cN (pm_diB ρ) (i + 1)))), (4, .int 0), (3, .int (nI i)), (1, .int (nI (ph_cN (pm_wsB ρ) i))), (0, .ref (o 0))]) C dX3_flush_65 rfl (by decide) rfl ?_
            refine gV_iload_n (pc := 66) C dX3_flush_66 3 rfl rfl ?_
            refine gV_iload (pc := 67) C dX3_flush_67 1 rfl ?_
            refine gV_if_eq (pc := 69) C 86 dX3_flush_69 (by decide) (fun c_7 => ?_) (fun c_7 => ?_)
            · skip
              refine gV_iconst (pc := 86) (v := 0) C dX3_flush_86 (by decide) ?_
              refine gV_iadd (pc := 87) C dX3_flush_87 ?_
              rw [show (nI (ph_cN (pm_wsB ρ) i)) + 0 = nI (ph_cN (pm_wsB ρ) (i + 1)) from by rw [ph_cN_f (f := pm_wsB ρ) (n := i) (by simp [pm_wsB, pm_diB, c_2, c_5, c_6, c_7]), nI_p0]]
              refine gV_istore_n (pc := 88) (lv' := [(1, .int (nI (ph_cN (pm_wsB ρ) (i + 1)))), (2, .int (nI (ph_cN (pm_diB ρ) (i + 1)))), (4, .int 0), (3, .int (nI i)), (0, .ref (o 0))]) C dX3_flush_88 rfl (by decide) rfl ?_
              refine gV_iinc (pc := 89) (v := nI (i + 1)) (lv' := [(3, .int (nI (i + 1))), (1, .int (nI (ph_cN (pm_wsB ρ) (i + 1)))), (2, .int (nI (ph_cN (pm_diB ρ) (i + 1)))), (4, .int 0), (0, .ref (o 0))]) C dX3_flush_89 3 rfl (nI_1 _) (by decide) rfl ?_
              refine gV_goto (pc := 92) C 11 dX3_flush_92 (by decide) ?_
              refine gV_lv [0, 2, 1, 4] rfl ?_
              exact ih (i + 1) (by omega)
            · exact absurd rfl c_7
          · exact absurd rfl c_6
        · skip
          refine gV_aload_n (pc := 37) (x := o 0) C dX3_flush_37 3 rfl rfl ?_
          refine mg_dirty (pc := 38) C fl_X3_26 dX3_flush_38 ?_
          refine gV_iload_n (pc := 41) C dX3_flush_41 0 rfl rfl ?_
          refine ma_dirty (pc := 42) C (vp_in_nI (by omega) (by omega)) dX3_flush_42 ?_
          rw [nI_clamp (by omega)]
          refine gV_if_eq (pc := 43) C 50 dX3_flush_43 (by decide) (fun c_8 => ?_) (fun c_8 => ?_)
          · skip
            refine gV_iconst (pc := 50) (v := 0) C dX3_flush_50 (by decide) ?_
            refine gV_istore (pc := 51) (lv' := [(4, .int 0), (3, .int (nI i)), (2, .int (nI (ph_cN (pm_diB ρ) i))), (1, .int (nI (ph_cN (pm_wsB ρ) i))), (0, .ref (o 0))]) C dX3_flush_51 (by decide) rfl ?_
            refine gV_iload_n (pc := 53) C dX3_flush_53 2 rfl rfl ?_
            refine gV_iload (pc := 54) C dX3_flush_54 0 rfl ?_
            refine gV_if_eq (pc := 56) C 63 dX3_flush_56 (by decide) (fun c_9 => ?_) (fun c_9 => ?_)
            · skip
              refine gV_iconst (pc := 63) (v := 0) C dX3_flush_63 (by decide) ?_
              refine gV_iadd (pc := 64) C dX3_flush_64 ?_
              rw [show (nI (ph_cN (pm_diB ρ) i)) + 0 = nI (ph_cN (pm_diB ρ) (i + 1)) from by rw [ph_cN_f (f := pm_diB ρ) (n := i) (by simp [pm_diB, c_2, c_5, c_8, c_9]), nI_p0]]
              refine gV_istore_n (pc := 65) (lv' := [(2, .int (nI (ph_cN (pm_diB ρ) (i + 1)))), (4, .int 0), (3, .int (nI i)), (1, .int (nI (ph_cN (pm_wsB ρ) i))), (0, .ref (o 0))]) C dX3_flush_65 rfl (by decide) rfl ?_
              refine gV_iload_n (pc := 66) C dX3_flush_66 3 rfl rfl ?_
              refine gV_iload (pc := 67) C dX3_flush_67 1 rfl ?_
              refine gV_if_eq (pc := 69) C 86 dX3_flush_69 (by decide) (fun c_10 => ?_) (fun c_10 => ?_)
              · skip
                refine gV_iconst (pc := 86) (v := 0) C dX3_flush_86 (by decide) ?_
                refine gV_iadd (pc := 87) C dX3_flush_87 ?_
                rw [show (nI (ph_cN (pm_wsB ρ) i)) + 0 = nI (ph_cN (pm_wsB ρ) (i + 1)) from by rw [ph_cN_f (f := pm_wsB ρ) (n := i) (by simp [pm_wsB, pm_diB, c_2, c_5, c_8, c_9, c_10]), nI_p0]]
                refine gV_istore_n (pc := 88) (lv' := [(1, .int (nI (ph_cN (pm_wsB ρ) (i + 1)))), (2, .int (nI (ph_cN (pm_diB ρ) (i + 1)))), (4, .int 0), (3, .int (nI i)), (0, .ref (o 0))]) C dX3_flush_88 rfl (by decide) rfl ?_
                refine gV_iinc (pc := 89) (v := nI (i + 1)) (lv' := [(3, .int (nI (i + 1))), (1, .int (nI (ph_cN (pm_wsB ρ) (i + 1)))), (2, .int (nI (ph_cN (pm_diB ρ) (i + 1)))), (4, .int 0), (0, .ref (o 0))]) C dX3_flush_89 3 rfl (nI_1 _) (by decide) rfl ?_
                refine gV_goto (pc := 92) C 11 dX3_flush_92 (by decide) ?_
                refine gV_lv [0, 2, 1, 4] rfl ?_
                exact ih (i + 1) (by omega)
              · exact absurd rfl c_10
            · exact absurd rfl c_9
          · skip
            refine gV_iconst (pc := 46) (v := 1) C dX3_flush_46 (by decide) ?_
            refine gV_goto (pc := 47) C 51 dX3_flush_47 (by decide) ?_
            refine gV_istore (pc := 51) (lv' := [(4, .int 1), (3, .int (nI i)), (2, .int (nI (ph_cN (pm_diB ρ) i))), (1, .int (nI (ph_cN (pm_wsB ρ) i))), (0, .ref (o 0))]) C dX3_flush_51 (by decide) rfl ?_
            refine gV_iload_n (pc := 53) C dX3_flush_53 2 rfl rfl ?_
            refine gV_iload (pc := 54) C dX3_flush_54 0 rfl ?_
            refine gV_if_eq (pc := 56) C 63 dX3_flush_56 (by decide) (fun c_11 => ?_) (fun c_11 => ?_)
            · exact absurd c_11 (by decide)
            · skip
              refine gV_iconst (pc := 59) (v := 1) C dX3_flush_59 (by decide) ?_
              refine gV_goto (pc := 60) C 64 dX3_flush_60 (by decide) ?_
              refine gV_iadd (pc := 64) C dX3_flush_64 ?_
              rw [show (nI (ph_cN (pm_diB ρ) i)) + 1 = nI (ph_cN (pm_diB ρ) (i + 1)) from by rw [ph_cN_t (f := pm_diB ρ) (n := i) (by simp [pm_diB, c_2, c_5, c_8, c_11]), nI_1]]
              refine gV_istore_n (pc := 65) (lv' := [(2, .int (nI (ph_cN (pm_diB ρ) (i + 1)))), (4, .int 1), (3, .int (nI i)), (1, .int (nI (ph_cN (pm_wsB ρ) i))), (0, .ref (o 0))]) C dX3_flush_65 rfl (by decide) rfl ?_
              refine gV_iload_n (pc := 66) C dX3_flush_66 3 rfl rfl ?_
              refine gV_iload (pc := 67) C dX3_flush_67 1 rfl ?_
              refine gV_if_eq (pc := 69) C 86 dX3_flush_69 (by decide) (fun c_12 => ?_) (fun c_12 => ?_)
              · exact absurd c_12 (by decide)
              · skip
                refine gV_aload_n (pc := 72) (x := o 0) C dX3_flush_72 4 rfl rfl ?_
                refine mg_sectorOf (pc := 73) C fl_X3_23 dX3_flush_73 ?_
                refine gV_iload_n (pc := 76) C dX3_flush_76 2 rfl rfl ?_
                refine ma_sectorOf (pc := 77) C (vp_in_nI (by omega) (by omega)) dX3_flush_77 ?_
                rw [nI_clamp (by omega)]
                refine gV_iconst (pc := 78) (v := (-1)) C dX3_flush_78 (by decide) ?_
                refine gV_icmp_ne (pc := 79) C 86 dX3_flush_79 (by decide) (fun c_13 => ?_) (fun c_13 => ?_)
                · skip
                  refine gV_iconst (pc := 86) (v := 0) C dX3_flush_86 (by decide) ?_
                  refine gV_iadd (pc := 87) C dX3_flush_87 ?_
                  rw [show (nI (ph_cN (pm_wsB ρ) i)) + 0 = nI (ph_cN (pm_wsB ρ) (i + 1)) from by rw [ph_cN_f (f := pm_wsB ρ) (n := i) (by simp [pm_wsB, pm_diB, c_2, c_5, c_8, c_11, c_12, c_13]), nI_p0]]
                  refine gV_istore_n (pc := 88) (lv' := [(1, .int (nI (ph_cN (pm_wsB ρ) (i + 1)))), (2, .int (nI (ph_cN (pm_diB ρ) (i + 1)))), (4, .int 1), (3, .int (nI i)), (0, .ref (o 0))]) C dX3_flush_88 rfl (by decide) rfl ?_
                  refine gV_iinc (pc := 89) (v := nI (i + 1)) (lv' := [(3, .int (nI (i + 1))), (1, .int (nI (ph_cN (pm_wsB ρ) (i + 1)))), (2, .int (nI (ph_cN (pm_diB ρ) (i + 1)))), (4, .int 1), (0, .ref (o 0))]) C dX3_flush_89 3 rfl (nI_1 _) (by decide) rfl ?_
                  refine gV_goto (pc := 92) C 11 dX3_flush_92 (by decide) ?_
                  refine gV_lv [0, 2, 1, 4] rfl ?_
                  exact ih (i + 1) (by omega)
                · skip
                  refine gV_iconst (pc := 82) (v := 1) C dX3_flush_82 (by decide) ?_
                  refine gV_goto (pc := 83) C 87 dX3_flush_83 (by decide) ?_
                  refine gV_iadd (pc := 87) C dX3_flush_87 ?_
                  rw [show (nI (ph_cN (pm_wsB ρ) i)) + 1 = nI (ph_cN (pm_wsB ρ) (i + 1)) from by rw [ph_cN_t (f := pm_wsB ρ) (n := i) (by simp [pm_wsB, pm_diB, c_2, c_5, c_8, c_11, c_12, c_13]), nI_1]]
                  refine gV_istore_n (pc := 88) (lv' := [(1, .int (nI (ph_cN (pm_wsB ρ) (i + 1)))), (2, .int (nI (ph_cN (pm_diB ρ) (i + 1)))), (4, .int 1), (3, .int (nI i)), (0, .ref (o 0))]) C dX3_flush_88 rfl (by decide) rfl ?_
                  refine gV_iinc (pc := 89) (v := nI (i + 1)) (lv' := [(3, .int (nI (i + 1))), (1, .int (nI (ph_cN (pm_wsB ρ) (i + 1)))), (2, .int (nI (ph_cN (pm_diB ρ) (i + 1)))), (4, .int 1), (0, .ref (o 0))]) C dX3_flush_89 3 rfl (nI_1 _) (by decide) rfl ?_
                  refine gV_goto (pc := 92) C 11 dX3_flush_92 (by decide) ?_
                  refine gV_lv [0, 2, 1, 4] rfl ?_
                  exact ih (i + 1) (by omega)
set_option maxHeartbeats 4000000 in
set_option maxRecDepth 100000 in
/-- flush -/
theorem d_flush {D : va_G} {o : Nat → Nat} {ct : Nat → ClassId} {μ : pm_S} {F S : Nat} (hok : pm_ok F S μ) (hk : nI (ph_cN (pm_wsB (pm_sI μ 0 0)) 300) ≤ nI (pm_fs S (pm_sI μ 0 0)) → pm_flK S F 0 (pm_sI μ 0 0)) : gM yX3_flush cX3_flush 5 (some .int) rm_X3_flush D (gt ct) (mw o ct μ) [.ref (o 0)] (fun v w => v = some (.int (pm_flV S (pm_sI μ 0 0))) ∧ w = mw o ct (pm_flW F S (pm_sI μ 0 0))) := by
  refine gM_in RX3 rfl (by decide) (Nat.le_of_ble_eq_true rfl) (fun X C => ?_)
  obtain ⟨⟨hF2, hF16, hS64⟩, e1, e2, hhd, hpn, hbo⟩ := id hok
  refine gV_aload_n (pc := 0) (x := o 0) C dX3_flush_0 0 rfl rfl ?_
  refine gV_iconst (pc := 1) (v := 0) C dX3_flush_1 (by decide) ?_
  refine mp_thrown (pc := 2) C fl_X3_45 dX3_flush_2 ?_
  refine gV_iconst (pc := 5) (v := 0) C dX3_flush_5 (by decide) ?_
  refine gV_istore_n (pc := 6) (lv' := [(1, .int 0), (0, .ref (o 0))]) C dX3_flush_6 rfl (by decide) rfl ?_
  refine gV_iconst (pc := 7) (v := 0) C dX3_flush_7 (by decide) ?_
  refine gV_istore_n (pc := 8) (lv' := [(2, .int 0), (1, .int 0), (0, .ref (o 0))]) C dX3_flush_8 rfl (by decide) rfl ?_
  refine gV_iconst (pc := 9) (v := 0) C dX3_flush_9 (by decide) ?_
  refine gV_istore_n (pc := 10) (lv' := [(3, .int 0), (2, .int 0), (1, .int 0), (0, .ref (o 0))]) C dX3_flush_10 rfl (by decide) rfl ?_
  exact mlp_flushA (ρ := pm_sI μ 0 0) hF16 hS64 e1 e2 hk C 300 0 rfl
