def pm_fA (μ : pm_S) (k : Nat) (f : Nat → Int32) : pm_S := (μ.1, va_up μ.2 k f)
theorem pA_fA (μ : pm_S) (k : Nat) (f : Nat → Int32) (k' j : Nat) : pm_A (pm_fA μ k f) k' j = if k' = k then f j else pm_A μ k' j := by
  simp only [pm_A, pm_fA, va_up]
  by_cases h : k' = k <;> simp [h]
theorem pI_fA (μ : pm_S) (k : Nat) (f : Nat → Int32) (k' : Nat) : pm_I (pm_fA μ k f) k' = pm_I μ k' := rfl
theorem pm_fA_self (μ : pm_S) (k : Nat) : pm_fA μ k (pm_A μ k) = μ := by
  obtain ⟨a, b⟩ := μ
  refine congrArg (fun z => (a, z)) ?_
  funext j
  simp only [va_up]
  by_cases hj : j = k
  · subst hj; simp only [if_true]; rfl
  · simp [hj]
theorem pm_sA_fA (μ : pm_S) (k : Nat) (f : Nat → Int32) (j : Nat) (v : Int32) : pm_sA (pm_fA μ k f) k j v = pm_fA μ k (va_up f j v) := by
  obtain ⟨a, b⟩ := μ
  refine congrArg (fun z => (a, z)) ?_
  funext i
  simp only [va_up, pm_fA]
  by_cases hi : i = k
  · subst hi; simp
  · simp [hi]
theorem cpy_0 (f g : Nat → Int32) (sp dp : Nat) : va_cpy f g sp dp 0 = g := by
  funext k
  unfold va_cpy
  rw [if_neg (by omega)]
theorem cpy_s (f g : Nat → Int32) (sp dp i : Nat) : va_up (va_cpy f g sp dp i) (dp + i) (f (sp + i)) = va_cpy f g sp dp (i + 1) := by
  funext k
  simp only [va_up, va_cpy]
  by_cases h : k = dp + i
  · subst h
    rw [if_pos rfl, if_pos (by omega)]
    congr 1; omega
  · rw [if_neg h]
    by_cases h2 : dp ≤ k ∧ k < dp + i
    · rw [if_pos h2, if_pos (by omega)]
    · rw [if_neg h2, if_neg (by omega)]
theorem ix16 (t i : Nat) : (16 : Int32) * nI t + nI i = nI (16 * t + i) := by
  rw [show (16 : Int32) = nI 16 from rfl, pk_mul, nI_add]
def pm_nfG (μ : pm_S) : Nat → Nat → Nat
  | 0, i => i
  | d + 1, i => if pm_A μ 2 i = 0 then i else pm_nfG μ d (i + 1)
def pm_nf (μ : pm_S) : Nat := pm_nfG μ 300 0
def pm_nb (μ : pm_S) (f : Int32) : pm_S := pm_sA (pm_sA (pm_sA (pm_sA μ 2 (pm_nf μ) 1) 3 (pm_nf μ) f) 4 (pm_nf μ) (-1)) 5 (pm_nf μ) 1
def pm_lv2 (μ : pm_S) (b : Int32) : pm_S := if nI (pm_ho μ b) = 0 then pm_sA μ 2 b.toNatClampNeg 0 else μ
def pm_lv (μ : pm_S) (k : Nat) : pm_S := if pm_A μ 1 k = -1 then pm_sA μ 1 k (-1) else pm_lv2 (pm_sA μ 1 k (-1)) (pm_A μ 1 k)
def pm_nsG (μ : pm_S) : Nat → Nat → Nat
  | 0, s => s
  | d + 1, s => if pm_sf μ (nI s) = 0 then pm_nsG μ d (s + 1) else s
def pm_ns (S : Nat) (μ : pm_S) : Nat := pm_nsG μ S 0
def pm_stT (S : Nat) (μ : pm_S) (b : Nat) : Nat := if pm_A μ 4 b = -1 then pm_ns S μ else (pm_A μ 4 b).toNatClampNeg
def pm_st1 (S : Nat) (μ : pm_S) (b : Nat) : pm_S := if pm_A μ 4 b = -1 then pm_sA μ 4 b (nI (pm_ns S μ)) else μ
def pm_st3 (μ : pm_S) (b : Nat) : pm_S := pm_sI (pm_sA μ 5 b 0) 7 (pm_I (pm_sA μ 5 b 0) 7 + 1)
def pm_st2 (μ : pm_S) (b t f : Nat) : pm_S := pm_st3 (pm_fA μ 7 (va_cpy (pm_A μ 6) (pm_A μ 7) (16 * f) (16 * t) 16)) b
def pm_st (S : Nat) (μ : pm_S) (b : Nat) : pm_S := pm_st2 (pm_st1 S μ b) b (pm_stT S μ b) (pm_A μ 3 b).toNatClampNeg
def pm_stOK (S : Nat) (μ : pm_S) (b : Nat) : Prop := (∃ f, f < 16 ∧ pm_A μ 3 b = nI f) ∧ ((pm_A μ 4 b = -1 ∧ pm_ns S μ < S ∧ ¬ pm_sf μ (nI (pm_ns S μ)) = 0) ∨ ∃ t, t < 64 ∧ pm_A μ 4 b = nI t)
theorem nI_ne_m1 {j : Nat} (h : j < 2 ^ 31) : ¬ nI j = -1 := fun e => by
  have : (nI j).toInt = (-1 : Int32).toInt := by rw [e]
  rw [nI_toInt h, show (-1 : Int32).toInt = -1 by decide] at this
  omega
def pm_tk0 (μ : pm_S) : pm_S := pm_sI μ 5 (pm_I μ 5 + 1)
def pm_frG (μ : pm_S) : Nat → Nat → Int32
  | 0, _ => -1
  | d + 1, i => if pm_bi μ (nI i) = -1 then nI i else pm_frG μ d (i + 1)
def pm_fr (F : Nat) (μ : pm_S) : Int32 := pm_frG μ F 0
def pm_hn (μ : pm_S) : Int32 := (pm_I μ 3 + 1) - (pm_I μ 3 + 1) / pm_I μ 1 * pm_I μ 1
def pm_scS (μ : pm_S) : pm_S := pm_sI μ 3 (pm_hn μ)
def pm_scG (kept : Int32) : Nat → pm_S → pm_S
  | 0, μ => μ
  | n + 1, μ => if pm_I μ 3 = kept then pm_scG kept n (pm_scS μ) else if pm_A μ 8 (pm_I μ 3).toNatClampNeg = 0 then μ else pm_scG kept n (pm_scS (pm_sA μ 8 (pm_I μ 3).toNatClampNeg 0))
def pm_scX (kept : Int32) (μ : pm_S) : Prop := ¬ pm_I μ 3 = kept ∧ pm_A μ 8 (pm_I μ 3).toNatClampNeg = 0
def pm_scT (F : Nat) (kept : Int32) (μ : pm_S) : pm_S := pm_scG kept (2 * F) (pm_tk0 μ)
def pm_tkE (F : Nat) (kept : Int32) (μ : pm_S) : pm_S := pm_scS (pm_scT F kept μ)
def pm_tkB (F : Nat) (kept : Int32) (μ : pm_S) : Nat := (pm_bi (pm_tkE F kept μ) (pm_I (pm_scT F kept μ) 3)).toNatClampNeg
def pm_tkV (S : Nat) (μ : pm_S) (b : Nat) : pm_S := if pm_A μ 5 b = 0 then pm_sA μ 3 b (-1) else pm_sA (pm_st S μ b) 3 b (-1)
def pm_tkF (F S : Nat) (kept : Int32) (μ : pm_S) : Int32 := if pm_fr F (pm_tk0 μ) = -1 then pm_I (pm_scT F kept μ) 3 else pm_fr F (pm_tk0 μ)
def pm_tkN (F S : Nat) (kept : Int32) (μ : pm_S) : Nat := (pm_tkF F S kept μ).toNatClampNeg
def pm_tkS (F S : Nat) (kept : Int32) (μ : pm_S) : pm_S := if pm_fr F (pm_tk0 μ) = -1 then pm_tkV S (pm_tkE F kept μ) (pm_tkB F kept μ) else pm_sA (pm_tk0 μ) 8 (pm_fr F (pm_tk0 μ)).toNatClampNeg 0
/-- what a taking rests on -/
def pm_tkOK (F S : Nat) (kept : Int32) (μ : pm_S) : Prop := (2 ≤ F ∧ F ≤ 16 ∧ S ≤ 64) ∧ pm_I μ 1 = nI F ∧ (∃ h, h < F ∧ pm_I μ 3 = nI h) ∧
  (pm_fr F (pm_tk0 μ) = -1 → pm_scX kept (pm_scT F kept μ) ∧ (∃ b, b < 300 ∧ pm_bi (pm_tkE F kept μ) (pm_I (pm_scT F kept μ) 3) = nI b ∧ (¬ pm_A (pm_tkE F kept μ) 5 b = 0 → pm_stOK S (pm_tkE F kept μ) b)))
def pm_hd (F : Nat) (μ : pm_S) : Prop := pm_I μ 1 = nI F ∧ ∃ h, h < F ∧ pm_I μ 3 = nI h
theorem hn_in {F : Nat} {μ : pm_S} (h1 : 2 ≤ F) (h2 : F ≤ 16) (h : pm_hd F μ) : ∃ j, j < F ∧ pm_hn μ = nI j := by
  obtain ⟨e, j, hj, ej⟩ := h
  unfold pm_hn
  rw [e, ej, nI_1, pk_rem (by omega) (by omega) (by omega)]
  exact ⟨(j + 1) % F, Nat.mod_lt _ (by omega), rfl⟩
theorem hd_scS {F : Nat} {μ : pm_S} (h1 : 2 ≤ F) (h2 : F ≤ 16) (h : pm_hd F μ) : pm_hd F (pm_scS μ) := ⟨h.1, hn_in h1 h2 h⟩
theorem hd_us {F : Nat} {μ : pm_S} (h : pm_hd F μ) (j : Nat) (v : Int32) : pm_hd F (pm_sA μ 8 j v) := h
theorem hd_scG {F : Nat} {kept : Int32} (h1 : 2 ≤ F) (h2 : F ≤ 16) : ∀ (n : Nat) {μ : pm_S}, pm_hd F μ → pm_hd F (pm_scG kept n μ)
  | 0, _, h => h
  | n + 1, μ, h => by
    unfold pm_scG; split
    · exact hd_scG h1 h2 n (hd_scS h1 h2 h)
    · split
      · exact h
      · exact hd_scG h1 h2 n (hd_scS h1 h2 (hd_us h _ _))
theorem hd_scT {F S : Nat} {kept : Int32} {μ : pm_S} (h : pm_tkOK F S kept μ) : pm_hd F (pm_scT F kept μ) := hd_scG h.1.1 h.1.2.1 _ ⟨h.2.1, h.2.2.1⟩
theorem frG_in (μ : pm_S) : ∀ d i, pm_frG μ d i = -1 ∨ ∃ j, j < i + d ∧ pm_frG μ d i = nI j
  | 0, _ => Or.inl rfl
  | d + 1, i => by
    unfold pm_frG; split
    · exact Or.inr ⟨i, by omega, rfl⟩
    · rcases frG_in μ d (i + 1) with h | ⟨j, hj, h⟩
      · exact Or.inl h
      · exact Or.inr ⟨j, by omega, h⟩
theorem mtkF_in {F S : Nat} {kept : Int32} {μ : pm_S} (h : pm_tkOK F S kept μ) : ∃ j, j < F ∧ pm_tkF F S kept μ = nI j := by
  unfold pm_tkF; split
  · exact (hd_scT h).2
  · rename_i hh
    rcases frG_in (pm_tk0 μ) F 0 with h1 | h1
    · exact absurd h1 hh
    · rw [Nat.zero_add] at h1; exact h1
theorem mtkN_lt {F S : Nat} {kept : Int32} {μ : pm_S} (h : pm_tkOK F S kept μ) : pm_tkN F S kept μ < F := by
  obtain ⟨j, hj, e⟩ := mtkF_in h
  have := h.1.2.1
  unfold pm_tkN
  rw [e, nI_clamp (by omega)]; exact hj
theorem mtkN_eq {F S : Nat} {kept : Int32} {μ : pm_S} (h : pm_tkOK F S kept μ) : nI (pm_tkN F S kept μ) = pm_tkF F S kept μ := by
  obtain ⟨j, hj, e⟩ := mtkF_in h
  have := h.1.2.1
  unfold pm_tkN
  rw [e, nI_clamp (by omega)]
def pm_br2 (μ : pm_S) (b f : Nat) : pm_S := pm_sI (pm_sA (pm_sA μ 3 b (nI f)) 5 b 0) 6 (pm_I (pm_sA (pm_sA μ 3 b (nI f)) 5 b 0) 6 + 1)
def pm_br1 (μ : pm_S) (b f t : Nat) : pm_S := pm_br2 (pm_fA μ 6 (va_cpy (pm_A μ 7) (pm_A μ 6) (16 * t) (16 * f) 16)) b f
def pm_br (F S : Nat) (μ : pm_S) (b : Nat) : pm_S := pm_br1 (pm_tkS F S (-1) μ) b (pm_tkN F S (-1) μ) (pm_A (pm_tkS F S (-1) μ) 4 b).toNatClampNeg
def pm_brOK (F S : Nat) (μ : pm_S) (b : Nat) : Prop := pm_tkOK F S (-1) μ ∧ ∃ t, t < 64 ∧ pm_A (pm_tkS F S (-1) μ) 4 b = nI t
abbrev rm_X3_newBody : Room := { frames := 0, cells := 0, slots := 0, locals := 0 }
set_option maxHeartbeats 4000000 in
set_option maxRecDepth 100000 in
theorem mlp_newBody {X : gx_T} {D : va_G} {o : Nat → Nat} {ct : Nat → ClassId} {μ : pm_S} {f : Int32} (hn : pm_nf μ < 300) (C : gC X cX3_newBody 3 RX3 rm_X3_newBody (some .int) D (gt ct) (fun v w => v = some (.int (nI (pm_nf μ))) ∧ w = mw o ct (pm_nb μ f))) : ∀ d i : Nat, i + d = 300 → pm_nfG μ d i = pm_nf μ → gV X 0 0 (mw o ct μ) 2 [(2, .int (nI i)), (0, .ref (o 0)), (1, .int f)] [] := by
  intro d
  induction d with
  | zero =>
    intro i hi hr
    have e : i = pm_nf μ := hr
    exact absurd hn (by omega)
  | succ d ih =>
    intro i hi hr
    refine gV_aload_n (pc := 2) (x := o 0) C dX3_newBody_2 1 rfl rfl ?_
    refine mg_is (pc := 3) C fl_X3_16 dX3_newBody_3 ?_
    refine gV_iload_n (pc := 6) C dX3_newBody_6 0 rfl rfl ?_
    refine ma_is (pc := 7) C (vp_in_nI (by omega) (by omega)) dX3_newBody_7 ?_
    rw [nI_clamp (by omega)]
    refine gV_if_eq (pc := 8) C 17 dX3_newBody_8 (by decide) (fun c_1 => ?_) (fun c_1 => ?_)
    · skip
      have e : i = pm_nf μ := by rw [← hr, pm_nfG, if_pos c_1]
      refine gV_aload_n (pc := 17) (x := o 0) C dX3_newBody_17 1 rfl rfl ?_
      refine mg_is (pc := 18) C fl_X3_16 dX3_newBody_18 ?_
      refine gV_iload_n (pc := 21) C dX3_newBody_21 0 rfl rfl ?_
      refine gV_iconst (pc := 22) (v := 1) C dX3_newBody_22 (by decide) ?_
      refine ms_is (pc := 23) C (vp_in_nI (by omega) (by omega)) (by decide) dX3_newBody_23 ?_
      rw [nI_clamp (by omega)]
      refine gV_aload_n (pc := 24) (x := o 0) C dX3_newBody_24 1 rfl rfl ?_
      refine mg_frameOf (pc := 25) C fl_X3_20 dX3_newBody_25 ?_
      refine gV_iload_n (pc := 28) C dX3_newBody_28 0 rfl rfl ?_
      refine gV_iload_n (pc := 29) C dX3_newBody_29 2 rfl rfl ?_
      refine ms_frameOf (pc := 30) C (vp_in_nI (by omega) (by omega)) dX3_newBody_30 ?_
      rw [nI_clamp (by omega)]
      refine gV_aload_n (pc := 31) (x := o 0) C dX3_newBody_31 1 rfl rfl ?_
      refine mg_sectorOf (pc := 32) C fl_X3_23 dX3_newBody_32 ?_
      refine gV_iload_n (pc := 35) C dX3_newBody_35 0 rfl rfl ?_
      refine gV_iconst (pc := 36) (v := (-1)) C dX3_newBody_36 (by decide) ?_
      refine ms_sectorOf (pc := 37) C (vp_in_nI (by omega) (by omega)) dX3_newBody_37 ?_
      rw [nI_clamp (by omega)]
      refine gV_aload_n (pc := 38) (x := o 0) C dX3_newBody_38 1 rfl rfl ?_
      refine mg_dirty (pc := 39) C fl_X3_26 dX3_newBody_39 ?_
      refine gV_iload_n (pc := 42) C dX3_newBody_42 0 rfl rfl ?_
      refine gV_iconst (pc := 43) (v := 1) C dX3_newBody_43 (by decide) ?_
      refine ms_dirty (pc := 44) C (vp_in_nI (by omega) (by omega)) (by decide) dX3_newBody_44 ?_
      rw [nI_clamp (by omega)]
      refine gV_iload_n (pc := 45) C dX3_newBody_45 0 rfl rfl ?_
      refine gV_iret (pc := 46) C dX3_newBody_46 (by decide) (by decide) ?_
      exact ⟨by rw [e], by rw [pm_nb, ← e]⟩
    · skip
      refine gV_iinc (pc := 11) (v := nI (i + 1)) (lv' := [(2, .int (nI (i + 1))), (0, .ref (o 0)), (1, .int f)]) C dX3_newBody_11 0 rfl (nI_1 _) (by decide) rfl ?_
      refine gV_goto (pc := 14) C 2 dX3_newBody_14 (by decide) ?_
      exact ih (i + 1) (by omega) (by rw [← hr, pm_nfG, if_neg c_1])
set_option maxHeartbeats 4000000 in
set_option maxRecDepth 100000 in
/-- newBody -/
theorem d_newBody {D : va_G} {o : Nat → Nat} {ct : Nat → ClassId} {μ : pm_S} {f : Int32} (hn : pm_nf μ < 300) : gM yX3_newBody cX3_newBody 3 (some .int) rm_X3_newBody D (gt ct) (mw o ct μ) [.ref (o 0), .int f] (fun v w => v = some (.int (nI (pm_nf μ))) ∧ w = mw o ct (pm_nb μ f)) := by
  refine gM_in RX3 rfl (by decide) (Nat.le_of_ble_eq_true rfl) (fun X C => ?_)
  refine gV_iconst (pc := 0) (v := 0) C dX3_newBody_0 (by decide) ?_
  refine gV_istore_n (pc := 1) (lv' := [(2, .int 0), (0, .ref (o 0)), (1, .int f)]) C dX3_newBody_1 rfl (by decide) rfl ?_
  exact mlp_newBody hn C 300 0 rfl rfl
abbrev rm_X3_leave : Room := { frames := 1, cells := 0, slots := 0, locals := 23 }
set_option maxHeartbeats 4000000 in
set_option maxRecDepth 100000 in
/-- leave -/
theorem d_leave {D : va_G} {o : Nat → Nat} {ct : Nat → ClassId} {μ : pm_S} {k : Nat} (hk : k < 256) (hb : pm_A μ 1 k = -1 ∨ ∃ b, b < 300 ∧ pm_A μ 1 k = nI b) : gM yX3_leave cX3_leave 3 none rm_X3_leave D (gt ct) (mw o ct μ) [.ref (o 0), .int (nI k)] (fun v w => v = none ∧ w = mw o ct (pm_lv μ k)) := by
  refine gM_in RX3 rfl (by decide) (Nat.le_of_ble_eq_true rfl) (fun X C => ?_)
  refine gV_aload_n (pc := 0) (x := o 0) C dX3_leave_0 0 rfl rfl ?_
  refine mg_bodyOf (pc := 1) C fl_X3_13 dX3_leave_1 ?_
  refine gV_iload_n (pc := 4) C dX3_leave_4 1 rfl rfl ?_
  refine ma_bodyOf (pc := 5) C (vp_in_nI (by omega) (by omega)) dX3_leave_5 ?_
  rw [nI_clamp (by omega)]
  refine gV_istore_n (pc := 6) (lv' := [(2, .int (pm_A μ 1 k)), (0, .ref (o 0)), (1, .int (nI k))]) C dX3_leave_6 rfl (by decide) rfl ?_
  refine gV_aload_n (pc := 7) (x := o 0) C dX3_leave_7 1 rfl rfl ?_
  refine mg_bodyOf (pc := 8) C fl_X3_13 dX3_leave_8 ?_
  refine gV_iload_n (pc := 11) C dX3_leave_11 2 rfl rfl ?_
  refine gV_iconst (pc := 12) (v := (-1)) C dX3_leave_12 (by decide) ?_
  refine ms_bodyOf (pc := 13) C (vp_in_nI (by omega) (by omega)) dX3_leave_13 ?_
  rw [nI_clamp (by omega)]
  refine gV_iload_n (pc := 14) C dX3_leave_14 0 rfl rfl ?_
  refine gV_iconst (pc := 15) (v := (-1)) C dX3_leave_15 (by decide) ?_
  refine gV_icmp_eq (pc := 16) C 34 dX3_leave_16 (by decide) (fun c_1 => ?_) (fun c_1 => ?_)
  · skip
    refine gV_vret (pc := 34) C dX3_leave_34 (by decide) (by decide) ?_
    exact ⟨rfl, by rw [pm_lv, if_pos c_1]⟩
  · skip
    refine gV_aload_n (pc := 19) (x := o 0) C dX3_leave_19 1 rfl rfl ?_
    refine gV_iload_n (pc := 20) C dX3_leave_20 0 rfl rfl ?_
    refine gV_callV (pc := 21) (As := [.int (pm_A μ 1 k)]) (rest := []) C ml_X3_59 gy_X3_holders gv_X3_holders (d_holders _) ⟨0, 3, _, _, rfl, rfl, rfl⟩ rfl rfl ⟨by decide, by decide⟩ (Nat.le_of_ble_eq_true rfl) (by decide) (by decide) dX3_leave_21 ?_
    rintro _ _ ⟨rfl, rfl⟩
    refine gV_if_ne (pc := 24) C 34 dX3_leave_24 (by decide) (fun c_2 => ?_) (fun c_2 => ?_)
    · skip
      refine gV_vret (pc := 34) C dX3_leave_34 (by decide) (by decide) ?_
      exact ⟨rfl, by rw [pm_lv, if_neg c_1, pm_lv2, if_neg c_2]⟩
    · skip
      refine gV_aload_n (pc := 27) (x := o 0) C dX3_leave_27 1 rfl rfl ?_
      refine mg_is (pc := 28) C fl_X3_16 dX3_leave_28 ?_
      refine gV_iload_n (pc := 31) C dX3_leave_31 0 rfl rfl ?_
      refine gV_iconst (pc := 32) (v := 0) C dX3_leave_32 (by decide) ?_
      refine ms_is (pc := 33) C (by rcases hb with h | ⟨z, hz, e⟩; exact absurd h c_1; rw [e]; exact vp_in_nI hz (by omega)) (by decide) dX3_leave_33 ?_
      refine gV_vret (pc := 34) C dX3_leave_34 (by decide) (by decide) ?_
      exact ⟨rfl, by rw [pm_lv, if_neg c_1, pm_lv2, if_pos c_2]⟩
abbrev rm_X3_store : Room := { frames := 1, cells := 0, slots := 0, locals := 22 }
set_option maxHeartbeats 4000000 in
set_option maxRecDepth 100000 in
theorem mlp_store2 {X : gx_T} {D : va_G} {o : Nat → Nat} {ct : Nat → ClassId} {μ : pm_S} {S b t f : Nat} {z : Int32} {τ : pm_S} (hb : b < 300) (ht : t < 64) (hf : f < 16) (h4 : pm_A τ 4 b = nI t) (h3 : pm_A τ 3 b = nI f) (hfin : pm_st2 τ b t f = pm_st S μ b) (C : gC X cX3_store 4 RX3 rm_X3_store none D (gt ct) (fun v w => v = none ∧ w = mw o ct (pm_st S μ b))) : ∀ d i : Nat, i + d = 16 → gV X 0 0 (mw o ct (pm_fA τ 7 (va_cpy (pm_A τ 6) (pm_A τ 7) (16 * f) (16 * t) i))) 45 [(3, .int (nI i)), (2, .int z), (0, .ref (o 0)), (1, .int (nI b))] [] := by
  intro d
  induction d with
  | zero =>
    intro i hi
    have e : i = 16 := by omega
    rw [e]
    refine gV_iload_n (pc := 45) C dX3_store_45 0 rfl rfl ?_
    refine gV_bipush (pc := 46) (v := 16) C dX3_store_46 (by decide) ?_
    refine gV_icmp_ge (pc := 48) C 89 dX3_store_48 (by decide) (fun c_1 => ?_) (fun c_1 => ?_)
    · skip
      refine gV_aload_n (pc := 89) (x := o 0) C dX3_store_89 2 rfl rfl ?_
      refine mg_dirty (pc := 90) C fl_X3_26 dX3_store_90 ?_
      refine gV_iload_n (pc := 93) C dX3_store_93 3 rfl rfl ?_
      refine gV_iconst (pc := 94) (v := 0) C dX3_store_94 (by decide) ?_
      refine ms_dirty (pc := 95) C (vp_in_nI (by omega) (by omega)) (by decide) dX3_store_95 ?_
      rw [nI_clamp (by omega)]
      refine gV_aload_n (pc := 96) (x := o 0) C dX3_store_96 2 rfl rfl ?_
      refine gV_dup (pc := 97) C dX3_store_97 rfl ?_
      refine mg_stores (pc := 98) C fl_X3_62 dX3_store_98 ?_
      refine gV_iconst (pc := 101) (v := 1) C dX3_store_101 (by decide) ?_
      refine gV_iadd (pc := 102) C dX3_store_102 ?_
      refine mp_stores (pc := 103) C fl_X3_62 dX3_store_103 ?_
      refine gV_vret (pc := 106) C dX3_store_106 (by decide) (by decide) ?_
      exact ⟨rfl, by rw [← hfin]; rfl⟩
    · exact absurd (by decide) c_1
  | succ d ih =>
    intro i hi
    refine gV_iload_n (pc := 45) C dX3_store_45 0 rfl rfl ?_
    refine gV_bipush (pc := 46) (v := 16) C dX3_store_46 (by decide) ?_
    refine gV_icmp_ge (pc := 48) C 89 dX3_store_48 (by decide) (fun c_1 => ?_) (fun c_1 => ?_)
    · exact absurd c_1 (nI_ge (a := i) (b := 16) (by omega) (by omega))
    · skip
      refine gV_aload_n (pc := 51) (x := o 0) C dX3_store_51 2 rfl rfl ?_
      refine mg_inSector (pc := 52) C fl_X3_32 dX3_store_52 ?_
      refine gV_bipush (pc := 55) (v := 16) C dX3_store_55 (by decide) ?_
      refine gV_aload_n (pc := 57) (x := o 0) C dX3_store_57 2 rfl rfl ?_
      refine mg_sectorOf (pc := 58) C fl_X3_23 dX3_store_58 ?_
      refine gV_iload_n (pc := 61) C dX3_store_61 3 rfl rfl ?_
      refine ma_sectorOf (pc := 62) C (vp_in_nI (by omega) (by omega)) dX3_store_62 ?_
      rw [nI_clamp (by omega)]
      rw [show pm_A (pm_fA τ 7 (va_cpy (pm_A τ 6) (pm_A τ 7) (16 * f) (16 * t) i)) 4 b = nI t from h4]
      refine gV_imul (pc := 63) C dX3_store_63 ?_
      refine gV_iload_n (pc := 64) C dX3_store_64 0 rfl rfl ?_
      refine gV_iadd (pc := 65) C dX3_store_65 ?_
      rw [show (16 * (nI t)) + (nI i) = nI (16 * t + i) from ix16 _ _]
      refine gV_aload_n (pc := 66) (x := o 0) C dX3_store_66 2 rfl rfl ?_
      refine mg_inFrame (pc := 67) C fl_X3_29 dX3_store_67 ?_
      refine gV_bipush (pc := 70) (v := 16) C dX3_store_70 (by decide) ?_
      refine gV_aload_n (pc := 72) (x := o 0) C dX3_store_72 2 rfl rfl ?_
      refine mg_frameOf (pc := 73) C fl_X3_20 dX3_store_73 ?_
      refine gV_iload_n (pc := 76) C dX3_store_76 3 rfl rfl ?_
      refine ma_frameOf (pc := 77) C (vp_in_nI (by omega) (by omega)) dX3_store_77 ?_
      rw [nI_clamp (by omega)]
      rw [show pm_A (pm_fA τ 7 (va_cpy (pm_A τ 6) (pm_A τ 7) (16 * f) (16 * t) i)) 3 b = nI f from h3]
      refine gV_imul (pc := 78) C dX3_store_78 ?_
      refine gV_iload_n (pc := 79) C dX3_store_79 0 rfl rfl ?_
      refine gV_iadd (pc := 80) C dX3_store_80 ?_
      rw [show (16 * (nI f)) + (nI i) = nI (16 * f + i) from ix16 _ _]
      refine ma_inFrame (pc := 81) C (vp_in_nI (by omega) (by omega)) dX3_store_81 ?_
      rw [nI_clamp (by omega)]
      rw [show pm_A (pm_fA τ 7 (va_cpy (pm_A τ 6) (pm_A τ 7) (16 * f) (16 * t) i)) 6 (16 * f + i) = pm_A τ 6 (16 * f + i) from rfl]
      refine ms_inSector (pc := 82) C (vp_in_nI (by omega) (by omega)) dX3_store_82 ?_
      rw [nI_clamp (by omega)]
      refine gV_iinc (pc := 83) (v := nI (i + 1)) (lv' := [(3, .int (nI (i + 1))), (2, .int z), (0, .ref (o 0)), (1, .int (nI b))]) C dX3_store_83 0 rfl (nI_1 _) (by decide) rfl ?_
      refine gV_goto (pc := 86) C 45 dX3_store_86 (by decide) ?_
      rw [pm_sA_fA, cpy_s]
      exact ih (i + 1) (by omega)
set_option maxHeartbeats 4000000 in
set_option maxRecDepth 100000 in
theorem mlp_store1 {X : gx_T} {D : va_G} {o : Nat → Nat} {ct : Nat → ClassId} {μ : pm_S} {S b f : Nat} (hb : b < 300) (hS : S ≤ 64) (hf : f < 16) (h3 : pm_A μ 3 b = nI f) (h4 : pm_A μ 4 b = -1) (hn : pm_ns S μ < S) (C : gC X cX3_store 4 RX3 rm_X3_store none D (gt ct) (fun v w => v = none ∧ w = mw o ct (pm_st S μ b))) : ∀ d s : Nat, s + d = S → pm_nsG μ d s = pm_ns S μ → gV X 0 0 (mw o ct μ) 2 [(2, .int (nI s)), (0, .ref (o 0)), (1, .int (nI b))] [] := by
  intro d
  induction d with
  | zero =>
    intro s hi hr
    have e : s = pm_ns S μ := hr
    exact absurd hn (by omega)
  | succ d ih =>
    intro s hi hr
    refine gV_aload_n (pc := 2) (x := o 0) C dX3_store_2 1 rfl rfl ?_
    refine mg_sectorOf (pc := 3) C fl_X3_23 dX3_store_3 ?_
    refine gV_iload_n (pc := 6) C dX3_store_6 2 rfl rfl ?_
    refine ma_sectorOf (pc := 7) C (vp_in_nI (by omega) (by omega)) dX3_store_7 ?_
    rw [nI_clamp (by omega)]
    refine gV_iconst (pc := 8) (v := (-1)) C dX3_store_8 (by decide) ?_
    refine gV_icmp_ne (pc := 9) C 26 dX3_store_9 (by decide) (fun c_1 => ?_) (fun c_1 => ?_)
    · exact absurd h4 c_1
    · skip
      refine gV_aload_n (pc := 12) (x := o 0) C dX3_store_12 1 rfl rfl ?_
      refine gV_iload_n (pc := 13) C dX3_store_13 0 rfl rfl ?_
      refine gV_callV (pc := 14) (As := [.int (nI s)]) (rest := []) C ml_X3_56 gy_X3_isSectorFree gv_X3_isSectorFree (d_isSectorFree _) ⟨0, 3, _, _, rfl, rfl, rfl⟩ rfl rfl ⟨by decide, by decide⟩ (Nat.le_of_ble_eq_true rfl) (by decide) (by decide) dX3_store_14 ?_
      rintro _ _ ⟨rfl, rfl⟩
      refine gV_if_ne (pc := 17) C 26 dX3_store_17 (by decide) (fun c_2 => ?_) (fun c_2 => ?_)
      · skip
        have e : s = pm_ns S μ := by rw [← hr, pm_nsG, if_neg c_2]
        refine gV_aload_n (pc := 26) (x := o 0) C dX3_store_26 1 rfl rfl ?_
        refine mg_sectorOf (pc := 27) C fl_X3_23 dX3_store_27 ?_
        refine gV_iload_n (pc := 30) C dX3_store_30 2 rfl rfl ?_
        refine ma_sectorOf (pc := 31) C (vp_in_nI (by omega) (by omega)) dX3_store_31 ?_
        rw [nI_clamp (by omega)]
        refine gV_iconst (pc := 32) (v := (-1)) C dX3_store_32 (by decide) ?_
        refine gV_icmp_ne (pc := 33) C 43 dX3_store_33 (by decide) (fun c_3 => ?_) (fun c_3 => ?_)
        · exact absurd h4 c_3
        · skip
          refine gV_aload_n (pc := 36) (x := o 0) C dX3_store_36 1 rfl rfl ?_
          refine mg_sectorOf (pc := 37) C fl_X3_23 dX3_store_37 ?_
          refine gV_iload_n (pc := 40) C dX3_store_40 2 rfl rfl ?_
          refine gV_iload_n (pc := 41) C dX3_store_41 0 rfl rfl ?_
          refine ms_sectorOf (pc := 42) C (vp_in_nI (by omega) (by omega)) dX3_store_42 ?_
          rw [nI_clamp (by omega)]
          refine gV_iconst (pc := 43) (v := 0) C dX3_store_43 (by decide) ?_
          refine gV_istore_n (pc := 44) (lv' := [(3, .int 0), (2, .int (nI s)), (0, .ref (o 0)), (1, .int (nI b))]) C dX3_store_44 rfl (by decide) rfl ?_
          refine gV_ws (congrArg (mw o ct) (show _ = pm_fA (pm_sA μ 4 b (nI s)) 7 (va_cpy (pm_A (pm_sA μ 4 b (nI s)) 6) (pm_A (pm_sA μ 4 b (nI s)) 7) (16 * f) (16 * s) 0) by rw [cpy_0, pm_fA_self])) ?_
          exact mlp_store2 (τ := pm_sA μ 4 b (nI s)) (t := s) (f := f) hb (by omega) hf (by rw [pA_sA, if_pos ⟨rfl, rfl⟩]) h3 (by rw [pm_st, pm_st1, if_pos h4, pm_stT, if_pos h4, ← e, h3, nI_clamp (by omega)]) C 16 0 rfl
      · skip
        refine gV_iinc (pc := 20) (v := nI (s + 1)) (lv' := [(2, .int (nI (s + 1))), (0, .ref (o 0)), (1, .int (nI b))]) C dX3_store_20 0 rfl (nI_1 _) (by decide) rfl ?_
        refine gV_goto (pc := 23) C 2 dX3_store_23 (by decide) ?_
        exact ih (s + 1) (by omega) (by rw [← hr, pm_nsG, if_pos c_2])
set_option maxHeartbeats 4000000 in
set_option maxRecDepth 100000 in
/-- store -/
theorem d_store {D : va_G} {o : Nat → Nat} {ct : Nat → ClassId} {μ : pm_S} {S b : Nat} (hb : b < 300) (hS : S ≤ 64) (h : pm_stOK S μ b) : gM yX3_store cX3_store 4 none rm_X3_store D (gt ct) (mw o ct μ) [.ref (o 0), .int (nI b)] (fun v w => v = none ∧ w = mw o ct (pm_st S μ b)) := by
  obtain ⟨⟨f, hf, h3⟩, h⟩ := h
  refine gM_in RX3 rfl (by decide) (Nat.le_of_ble_eq_true rfl) (fun X C => ?_)
  rcases h with ⟨h4, hn, -⟩ | ⟨t, ht, h4⟩
  · skip
    refine gV_iconst (pc := 0) (v := 0) C dX3_store_0 (by decide) ?_
    refine gV_istore_n (pc := 1) (lv' := [(2, .int 0), (0, .ref (o 0)), (1, .int (nI b))]) C dX3_store_1 rfl (by decide) rfl ?_
    exact mlp_store1 hb hS hf h3 h4 hn C S 0 (Nat.zero_add _) rfl
  · have hne : ¬ pm_A μ 4 b = -1 := by rw [h4]; exact nI_ne_m1 (by omega)
    refine gV_iconst (pc := 0) (v := 0) C dX3_store_0 (by decide) ?_
    refine gV_istore_n (pc := 1) (lv' := [(2, .int 0), (0, .ref (o 0)), (1, .int (nI b))]) C dX3_store_1 rfl (by decide) rfl ?_
    refine gV_aload_n (pc := 2) (x := o 0) C dX3_store_2 1 rfl rfl ?_
    refine mg_sectorOf (pc := 3) C fl_X3_23 dX3_store_3 ?_
    refine gV_iload_n (pc := 6) C dX3_store_6 2 rfl rfl ?_
    refine ma_sectorOf (pc := 7) C (vp_in_nI (by omega) (by omega)) dX3_store_7 ?_
    rw [nI_clamp (by omega)]
    refine gV_iconst (pc := 8) (v := (-1)) C dX3_store_8 (by decide) ?_
    refine gV_icmp_ne (pc := 9) C 26 dX3_store_9 (by decide) (fun c_1 => ?_) (fun c_1 => ?_)
    · skip
      refine gV_aload_n (pc := 26) (x := o 0) C dX3_store_26 1 rfl rfl ?_
      refine mg_sectorOf (pc := 27) C fl_X3_23 dX3_store_27 ?_
      refine gV_iload_n (pc := 30) C dX3_store_30 2 rfl rfl ?_
      refine ma_sectorOf (pc := 31) C (vp_in_nI (by omega) (by omega)) dX3_store_31 ?_
      rw [nI_clamp (by omega)]
      refine gV_iconst (pc := 32) (v := (-1)) C dX3_store_32 (by decide) ?_
      refine gV_icmp_ne (pc := 33) C 43 dX3_store_33 (by decide) (fun c_2 => ?_) (fun c_2 => ?_)
      · skip
        refine gV_iconst (pc := 43) (v := 0) C dX3_store_43 (by decide) ?_
        refine gV_istore_n (pc := 44) (lv' := [(3, .int 0), (2, .int 0), (0, .ref (o 0)), (1, .int (nI b))]) C dX3_store_44 rfl (by decide) rfl ?_
        refine gV_ws (congrArg (mw o ct) (show μ = pm_fA μ 7 (va_cpy (pm_A μ 6) (pm_A μ 7) (16 * f) (16 * t) 0) by rw [cpy_0, pm_fA_self])) ?_
        exact mlp_store2 hb ht hf h4 h3 (by rw [pm_st, pm_st1, if_neg hne, pm_stT, if_neg hne, h4, h3, nI_clamp (by omega), nI_clamp (by omega)]) C 16 0 rfl
      · exact absurd c_2 hne
    · exact absurd c_1 hne
abbrev rm_X3_take : Room := { frames := 2, cells := 0, slots := 0, locals := 45 }
set_option maxHeartbeats 4000000 in
set_option maxRecDepth 100000 in
theorem mlp_take2 {X : gx_T} {D : va_G} {o : Nat → Nat} {ct : Nat → ClassId} {μ : pm_S} {F S : Nat} {kept z : Int32} (hok : pm_tkOK F S kept μ) (hfr : pm_fr F (pm_tk0 μ) = -1) (C : gC X cX3_take 4 RX3 rm_X3_take (some .int) D (gt ct) (fun v w => v = some (.int (nI (pm_tkN F S kept μ))) ∧ w = mw o ct (pm_tkS F S kept μ))) : ∀ (n : Nat) (τ : pm_S), pm_hd F τ → pm_scG kept n τ = pm_scT F kept μ → gV X 0 0 (mw o ct τ) 44 [(2, .int z), (0, .ref (o 0)), (1, .int kept)] [] := by
  obtain ⟨⟨hF2, hF16, hS64⟩, -, -, hx⟩ := id hok
  obtain ⟨⟨hx1, hx2⟩, b, hb, eb, hst⟩ := hx hfr
  have hneF : ¬ nI F = 0 := nI_ne0 (by omega) (by omega)
  intro n
  induction n with
  | zero =>
    intro τ hd hr
    have e : τ = pm_scT F kept μ := hr
    have eb2 := eb
    rw [pm_tkE] at eb2
    obtain ⟨e1, h, hh, eh⟩ := id hd
    have hin : vp_in (pm_I τ 3) 16 := by rw [eh]; exact vp_in_nI (by omega) (by omega)
    have hx1' : ¬ pm_I τ 3 = kept := by rw [e]; exact hx1
    have hx2' : pm_A τ 8 (pm_I τ 3).toNatClampNeg = 0 := by rw [e]; exact hx2
    refine gV_aload_n (pc := 44) (x := o 0) C dX3_take_44 1 rfl rfl ?_
    refine mg_hand (pc := 45) C fl_X3_68 dX3_take_45 ?_
    refine gV_iload_n (pc := 48) C dX3_take_48 2 rfl rfl ?_
    refine gV_icmp_eq (pc := 49) C 64 dX3_take_49 (by decide) (fun c_1 => ?_) (fun c_1 => ?_)
    · exact absurd c_1 hx1'
    · skip
      refine gV_aload_n (pc := 52) (x := o 0) C dX3_take_52 1 rfl rfl ?_
      refine mg_used (pc := 53) C fl_X3_35 dX3_take_53 ?_
      refine gV_aload_n (pc := 56) (x := o 0) C dX3_take_56 1 rfl rfl ?_
      refine mg_hand (pc := 57) C fl_X3_68 dX3_take_57 ?_
      refine ma_used (pc := 60) C hin dX3_take_60 ?_
      refine gV_if_eq (pc := 61) C 100 dX3_take_61 (by decide) (fun c_2 => ?_) (fun c_2 => ?_)
      · skip
        refine gV_aload_n (pc := 100) (x := o 0) C dX3_take_100 1 rfl rfl ?_
        refine mg_hand (pc := 101) C fl_X3_68 dX3_take_101 ?_
        refine gV_istore_n (pc := 104) (lv' := [(2, .int (pm_I (τ) 3)), (0, .ref (o 0)), (1, .int kept)]) C dX3_take_104 rfl (by decide) rfl ?_
        refine gV_aload_n (pc := 105) (x := o 0) C dX3_take_105 1 rfl rfl ?_
        refine gV_aload_n (pc := 106) (x := o 0) C dX3_take_106 1 rfl rfl ?_
        refine mg_hand (pc := 107) C fl_X3_68 dX3_take_107 ?_
        refine gV_iconst (pc := 110) (v := 1) C dX3_take_110 (by decide) ?_
        refine gV_iadd (pc := 111) C dX3_take_111 ?_
        refine gV_aload_n (pc := 112) (x := o 0) C dX3_take_112 1 rfl rfl ?_
        refine mg_frames (pc := 113) C fl_X3_38 dX3_take_113 ?_
        refine gV_irem (pc := 116) C dX3_take_116 (by rw [show pm_I τ 1 = nI F from e1]; exact hneF) ?_
        refine mp_hand (pc := 117) C fl_X3_68 dX3_take_117 ?_
        refine gV_ws (congrArg (mw o ct) (show _ = pm_scS τ from rfl)) ?_
        refine gV_aload_n (pc := 120) (x := o 0) C dX3_take_120 1 rfl rfl ?_
        refine gV_iload_n (pc := 121) C dX3_take_121 0 rfl rfl ?_
        refine gV_callV (pc := 122) (As := [.int (pm_I (τ) 3)]) (rest := []) C ml_X3_52 gy_X3_bodyIn gv_X3_bodyIn (d_bodyIn _) ⟨0, 3, _, _, rfl, rfl, rfl⟩ rfl rfl ⟨by decide, by decide⟩ (Nat.le_of_ble_eq_true rfl) (by decide) (by decide) dX3_take_122 ?_
        rintro _ _ ⟨rfl, rfl⟩
        have eb' : pm_bi (pm_scS τ) (pm_I τ 3) = nI b := by rw [e]; exact eb
        rw [show pm_bi _ (pm_I τ 3) = nI b from eb']
        refine gV_istore_n (pc := 125) (lv' := [(3, .int (nI b)), (2, .int (pm_I (τ) 3)), (0, .ref (o 0)), (1, .int kept)]) C dX3_take_125 rfl (by decide) rfl ?_
        refine gV_aload_n (pc := 126) (x := o 0) C dX3_take_126 2 rfl rfl ?_
        refine mg_dirty (pc := 127) C fl_X3_26 dX3_take_127 ?_
        refine gV_iload_n (pc := 130) C dX3_take_130 0 rfl rfl ?_
        refine ma_dirty (pc := 131) C (vp_in_nI (by omega) (by omega)) dX3_take_131 ?_
        rw [nI_clamp (by omega)]
        refine gV_if_eq (pc := 132) C 140 dX3_take_132 (by decide) (fun c_3 => ?_) (fun c_3 => ?_)
        · skip
          refine gV_aload_n (pc := 140) (x := o 0) C dX3_take_140 2 rfl rfl ?_
          refine mg_frameOf (pc := 141) C fl_X3_20 dX3_take_141 ?_
          refine gV_iload_n (pc := 144) C dX3_take_144 0 rfl rfl ?_
          refine gV_iconst (pc := 145) (v := (-1)) C dX3_take_145 (by decide) ?_
          refine ms_frameOf (pc := 146) C (vp_in_nI (by omega) (by omega)) dX3_take_146 ?_
          rw [nI_clamp (by omega)]
          refine gV_iload_n (pc := 147) C dX3_take_147 1 rfl rfl ?_
          refine gV_iret (pc := 148) C dX3_take_148 (by decide) (by decide) ?_
          exact ⟨by rw [mtkN_eq hok, pm_tkF, if_pos hfr, e], by rw [pm_tkS, if_pos hfr, pm_tkV, pm_tkE, pm_tkB, pm_tkE, eb2, nI_clamp (by omega), ← e, if_pos c_3]; try rfl⟩
        · skip
          refine gV_aload_n (pc := 135) (x := o 0) C dX3_take_135 2 rfl rfl ?_
          refine gV_iload_n (pc := 136) C dX3_take_136 0 rfl rfl ?_
          refine gV_callV (pc := 137) (As := [.int (nI b)]) (rest := []) C ml_X3_71 gy_X3_store gv_X3_store (d_store (b := b) (S := S) (by omega) (by omega) (by have h9 := hst; rw [pm_tkE, ← e] at h9; exact h9 c_3)) ⟨0, 3, _, _, rfl, rfl, rfl⟩ rfl rfl ⟨by decide, by decide⟩ (Nat.le_of_ble_eq_true rfl) (by decide) (by decide) dX3_take_137 ?_
          rintro _ _ ⟨rfl, rfl⟩
          refine gV_aload_n (pc := 140) (x := o 0) C dX3_take_140 2 rfl rfl ?_
          refine mg_frameOf (pc := 141) C fl_X3_20 dX3_take_141 ?_
          refine gV_iload_n (pc := 144) C dX3_take_144 0 rfl rfl ?_
          refine gV_iconst (pc := 145) (v := (-1)) C dX3_take_145 (by decide) ?_
          refine ms_frameOf (pc := 146) C (vp_in_nI (by omega) (by omega)) dX3_take_146 ?_
          rw [nI_clamp (by omega)]
          refine gV_iload_n (pc := 147) C dX3_take_147 1 rfl rfl ?_
          refine gV_iret (pc := 148) C dX3_take_148 (by decide) (by decide) ?_
          exact ⟨by rw [mtkN_eq hok, pm_tkF, if_pos hfr, e], by rw [pm_tkS, if_pos hfr, pm_tkV, pm_tkE, pm_tkB, pm_tkE, eb2, nI_clamp (by omega), ← e, if_neg c_3]; try rfl⟩
      · exact absurd hx2' c_2
  | succ n ih =>
    intro τ hd hr
    have eb2 := eb
    rw [pm_tkE] at eb2
    obtain ⟨e1, h, hh, eh⟩ := id hd
    have hin : vp_in (pm_I τ 3) 16 := by rw [eh]; exact vp_in_nI (by omega) (by omega)
    refine gV_aload_n (pc := 44) (x := o 0) C dX3_take_44 1 rfl rfl ?_
    refine mg_hand (pc := 45) C fl_X3_68 dX3_take_45 ?_
    refine gV_iload_n (pc := 48) C dX3_take_48 2 rfl rfl ?_
    refine gV_icmp_eq (pc := 49) C 64 dX3_take_49 (by decide) (fun c_1 => ?_) (fun c_1 => ?_)
    · skip
      refine gV_aload_n (pc := 64) (x := o 0) C dX3_take_64 1 rfl rfl ?_
      refine mg_hand (pc := 65) C fl_X3_68 dX3_take_65 ?_
      refine gV_iload_n (pc := 68) C dX3_take_68 2 rfl rfl ?_
      refine gV_icmp_eq (pc := 69) C 82 dX3_take_69 (by decide) (fun c_2 => ?_) (fun c_2 => ?_)
      · skip
        refine gV_aload_n (pc := 82) (x := o 0) C dX3_take_82 1 rfl rfl ?_
        refine gV_aload_n (pc := 83) (x := o 0) C dX3_take_83 1 rfl rfl ?_
        refine mg_hand (pc := 84) C fl_X3_68 dX3_take_84 ?_
        refine gV_iconst (pc := 87) (v := 1) C dX3_take_87 (by decide) ?_
        refine gV_iadd (pc := 88) C dX3_take_88 ?_
        refine gV_aload_n (pc := 89) (x := o 0) C dX3_take_89 1 rfl rfl ?_
        refine mg_frames (pc := 90) C fl_X3_38 dX3_take_90 ?_
        refine gV_irem (pc := 93) C dX3_take_93 (by rw [show pm_I (τ) 1 = nI F from e1]; exact hneF) ?_
        refine mp_hand (pc := 94) C fl_X3_68 dX3_take_94 ?_
        refine gV_goto (pc := 97) C 44 dX3_take_97 (by decide) ?_
        exact ih _ (hd_scS hF2 hF16 hd) (by rw [← hr, pm_scG, if_pos c_1]; rfl)
      · exact absurd c_1 c_2
    · skip
      refine gV_aload_n (pc := 52) (x := o 0) C dX3_take_52 1 rfl rfl ?_
      refine mg_used (pc := 53) C fl_X3_35 dX3_take_53 ?_
      refine gV_aload_n (pc := 56) (x := o 0) C dX3_take_56 1 rfl rfl ?_
      refine mg_hand (pc := 57) C fl_X3_68 dX3_take_57 ?_
      refine ma_used (pc := 60) C hin dX3_take_60 ?_
      refine gV_if_eq (pc := 61) C 100 dX3_take_61 (by decide) (fun c_3 => ?_) (fun c_3 => ?_)
      · skip
        have e : τ = pm_scT F kept μ := by rw [← hr, pm_scG, if_neg c_1, if_pos c_3]
        refine gV_aload_n (pc := 100) (x := o 0) C dX3_take_100 1 rfl rfl ?_
        refine mg_hand (pc := 101) C fl_X3_68 dX3_take_101 ?_
        refine gV_istore_n (pc := 104) (lv' := [(2, .int (pm_I (τ) 3)), (0, .ref (o 0)), (1, .int kept)]) C dX3_take_104 rfl (by decide) rfl ?_
        refine gV_aload_n (pc := 105) (x := o 0) C dX3_take_105 1 rfl rfl ?_
        refine gV_aload_n (pc := 106) (x := o 0) C dX3_take_106 1 rfl rfl ?_
        refine mg_hand (pc := 107) C fl_X3_68 dX3_take_107 ?_
        refine gV_iconst (pc := 110) (v := 1) C dX3_take_110 (by decide) ?_
        refine gV_iadd (pc := 111) C dX3_take_111 ?_
        refine gV_aload_n (pc := 112) (x := o 0) C dX3_take_112 1 rfl rfl ?_
        refine mg_frames (pc := 113) C fl_X3_38 dX3_take_113 ?_
        refine gV_irem (pc := 116) C dX3_take_116 (by rw [show pm_I τ 1 = nI F from e1]; exact hneF) ?_
        refine mp_hand (pc := 117) C fl_X3_68 dX3_take_117 ?_
        refine gV_ws (congrArg (mw o ct) (show _ = pm_scS τ from rfl)) ?_
        refine gV_aload_n (pc := 120) (x := o 0) C dX3_take_120 1 rfl rfl ?_
        refine gV_iload_n (pc := 121) C dX3_take_121 0 rfl rfl ?_
        refine gV_callV (pc := 122) (As := [.int (pm_I (τ) 3)]) (rest := []) C ml_X3_52 gy_X3_bodyIn gv_X3_bodyIn (d_bodyIn _) ⟨0, 3, _, _, rfl, rfl, rfl⟩ rfl rfl ⟨by decide, by decide⟩ (Nat.le_of_ble_eq_true rfl) (by decide) (by decide) dX3_take_122 ?_
        rintro _ _ ⟨rfl, rfl⟩
        have eb' : pm_bi (pm_scS τ) (pm_I τ 3) = nI b := by rw [e]; exact eb
        rw [show pm_bi _ (pm_I τ 3) = nI b from eb']
        refine gV_istore_n (pc := 125) (lv' := [(3, .int (nI b)), (2, .int (pm_I (τ) 3)), (0, .ref (o 0)), (1, .int kept)]) C dX3_take_125 rfl (by decide) rfl ?_
        refine gV_aload_n (pc := 126) (x := o 0) C dX3_take_126 2 rfl rfl ?_
        refine mg_dirty (pc := 127) C fl_X3_26 dX3_take_127 ?_
        refine gV_iload_n (pc := 130) C dX3_take_130 0 rfl rfl ?_
        refine ma_dirty (pc := 131) C (vp_in_nI (by omega) (by omega)) dX3_take_131 ?_
        rw [nI_clamp (by omega)]
        refine gV_if_eq (pc := 132) C 140 dX3_take_132 (by decide) (fun c_4 => ?_) (fun c_4 => ?_)
        · skip
          refine gV_aload_n (pc := 140) (x := o 0) C dX3_take_140 2 rfl rfl ?_
          refine mg_frameOf (pc := 141) C fl_X3_20 dX3_take_141 ?_
          refine gV_iload_n (pc := 144) C dX3_take_144 0 rfl rfl ?_
          refine gV_iconst (pc := 145) (v := (-1)) C dX3_take_145 (by decide) ?_
          refine ms_frameOf (pc := 146) C (vp_in_nI (by omega) (by omega)) dX3_take_146 ?_
          rw [nI_clamp (by omega)]
          refine gV_iload_n (pc := 147) C dX3_take_147 1 rfl rfl ?_
          refine gV_iret (pc := 148) C dX3_take_148 (by decide) (by decide) ?_
          exact ⟨by rw [mtkN_eq hok, pm_tkF, if_pos hfr, e], by rw [pm_tkS, if_pos hfr, pm_tkV, pm_tkE, pm_tkB, pm_tkE, eb2, nI_clamp (by omega), ← e, if_pos c_4]; try rfl⟩
        · skip
          refine gV_aload_n (pc := 135) (x := o 0) C dX3_take_135 2 rfl rfl ?_
          refine gV_iload_n (pc := 136) C dX3_take_136 0 rfl rfl ?_
          refine gV_callV (pc := 137) (As := [.int (nI b)]) (rest := []) C ml_X3_71 gy_X3_store gv_X3_store (d_store (b := b) (S := S) (by omega) (by omega) (by have h9 := hst; rw [pm_tkE, ← e] at h9; exact h9 c_4)) ⟨0, 3, _, _, rfl, rfl, rfl⟩ rfl rfl ⟨by decide, by decide⟩ (Nat.le_of_ble_eq_true rfl) (by decide) (by decide) dX3_take_137 ?_
          rintro _ _ ⟨rfl, rfl⟩
          refine gV_aload_n (pc := 140) (x := o 0) C dX3_take_140 2 rfl rfl ?_
          refine mg_frameOf (pc := 141) C fl_X3_20 dX3_take_141 ?_
          refine gV_iload_n (pc := 144) C dX3_take_144 0 rfl rfl ?_
          refine gV_iconst (pc := 145) (v := (-1)) C dX3_take_145 (by decide) ?_
          refine ms_frameOf (pc := 146) C (vp_in_nI (by omega) (by omega)) dX3_take_146 ?_
          rw [nI_clamp (by omega)]
          refine gV_iload_n (pc := 147) C dX3_take_147 1 rfl rfl ?_
          refine gV_iret (pc := 148) C dX3_take_148 (by decide) (by decide) ?_
          exact ⟨by rw [mtkN_eq hok, pm_tkF, if_pos hfr, e], by rw [pm_tkS, if_pos hfr, pm_tkV, pm_tkE, pm_tkB, pm_tkE, eb2, nI_clamp (by omega), ← e, if_neg c_4]; try rfl⟩
      · skip
        refine gV_aload_n (pc := 64) (x := o 0) C dX3_take_64 1 rfl rfl ?_
        refine mg_hand (pc := 65) C fl_X3_68 dX3_take_65 ?_
        refine gV_iload_n (pc := 68) C dX3_take_68 2 rfl rfl ?_
        refine gV_icmp_eq (pc := 69) C 82 dX3_take_69 (by decide) (fun c_5 => ?_) (fun c_5 => ?_)
        · exact absurd c_5 c_1
        · skip
          refine gV_aload_n (pc := 72) (x := o 0) C dX3_take_72 1 rfl rfl ?_
          refine mg_used (pc := 73) C fl_X3_35 dX3_take_73 ?_
          refine gV_aload_n (pc := 76) (x := o 0) C dX3_take_76 1 rfl rfl ?_
          refine mg_hand (pc := 77) C fl_X3_68 dX3_take_77 ?_
          refine gV_iconst (pc := 80) (v := 0) C dX3_take_80 (by decide) ?_
          refine ms_used (pc := 81) C hin (by decide) dX3_take_81 ?_
          refine gV_aload_n (pc := 82) (x := o 0) C dX3_take_82 1 rfl rfl ?_
          refine gV_aload_n (pc := 83) (x := o 0) C dX3_take_83 1 rfl rfl ?_
          refine mg_hand (pc := 84) C fl_X3_68 dX3_take_84 ?_
          refine gV_iconst (pc := 87) (v := 1) C dX3_take_87 (by decide) ?_
          refine gV_iadd (pc := 88) C dX3_take_88 ?_
          refine gV_aload_n (pc := 89) (x := o 0) C dX3_take_89 1 rfl rfl ?_
          refine mg_frames (pc := 90) C fl_X3_38 dX3_take_90 ?_
          refine gV_irem (pc := 93) C dX3_take_93 (by rw [show pm_I (pm_sA (τ) 8 ((pm_I (τ) 3).toNatClampNeg) 0) 1 = nI F from e1]; exact hneF) ?_
          refine mp_hand (pc := 94) C fl_X3_68 dX3_take_94 ?_
          refine gV_goto (pc := 97) C 44 dX3_take_97 (by decide) ?_
          exact ih _ (hd_scS hF2 hF16 (hd_us hd _ _)) (by rw [← hr, pm_scG, if_neg c_1, if_neg c_3]; rfl)
set_option maxHeartbeats 4000000 in
set_option maxRecDepth 100000 in
theorem mlp_take1 {X : gx_T} {D : va_G} {o : Nat → Nat} {ct : Nat → ClassId} {μ : pm_S} {F S : Nat} {kept : Int32} (hok : pm_tkOK F S kept μ) (C : gC X cX3_take 4 RX3 rm_X3_take (some .int) D (gt ct) (fun v w => v = some (.int (nI (pm_tkN F S kept μ))) ∧ w = mw o ct (pm_tkS F S kept μ))) : ∀ d i : Nat, i + d = F → pm_frG (pm_tk0 μ) d i = pm_fr F (pm_tk0 μ) → gV X 0 0 (mw o ct (pm_tk0 μ)) 12 [(2, .int (nI i)), (0, .ref (o 0)), (1, .int kept)] [] := by
  obtain ⟨⟨hF2, hF16, hS64⟩, e1, hh, -⟩ := id hok
  intro d
  induction d with
  | zero =>
    intro i hi hr
    have hfr : pm_fr F (pm_tk0 μ) = -1 := hr.symm
    refine gV_iload_n (pc := 12) C dX3_take_12 0 rfl rfl ?_
    refine gV_aload_n (pc := 13) (x := o 0) C dX3_take_13 1 rfl rfl ?_
    refine mg_frames (pc := 14) C fl_X3_38 dX3_take_14 ?_
    rw [show pm_I (pm_tk0 μ) 1 = nI F from e1]
    refine gV_icmp_ge (pc := 17) C 44 dX3_take_17 (by decide) (fun c_1 => ?_) (fun c_1 => ?_)
    · skip
      exact mlp_take2 hok hfr C (2 * F) (pm_tk0 μ) ⟨e1, hh⟩ rfl
    · exact absurd (nI_le (by omega) (by omega)) c_1
  | succ d ih =>
    intro i hi hr
    refine gV_iload_n (pc := 12) C dX3_take_12 0 rfl rfl ?_
    refine gV_aload_n (pc := 13) (x := o 0) C dX3_take_13 1 rfl rfl ?_
    refine mg_frames (pc := 14) C fl_X3_38 dX3_take_14 ?_
    rw [show pm_I (pm_tk0 μ) 1 = nI F from e1]
    refine gV_icmp_ge (pc := 17) C 44 dX3_take_17 (by decide) (fun c_1 => ?_) (fun c_1 => ?_)
    · exact absurd c_1 (nI_ge (by omega) (by omega))
    · skip
      refine gV_aload_n (pc := 20) (x := o 0) C dX3_take_20 1 rfl rfl ?_
      refine gV_iload_n (pc := 21) C dX3_take_21 0 rfl rfl ?_
      refine gV_callV (pc := 22) (As := [.int (nI i)]) (rest := []) C ml_X3_52 gy_X3_bodyIn gv_X3_bodyIn (d_bodyIn _) ⟨0, 3, _, _, rfl, rfl, rfl⟩ rfl rfl ⟨by decide, by decide⟩ (Nat.le_of_ble_eq_true rfl) (by decide) (by decide) dX3_take_22 ?_
      rintro _ _ ⟨rfl, rfl⟩
      refine gV_iconst (pc := 25) (v := (-1)) C dX3_take_25 (by decide) ?_
      refine gV_icmp_ne (pc := 26) C 38 dX3_take_26 (by decide) (fun c_2 => ?_) (fun c_2 => ?_)
      · skip
        refine gV_iinc (pc := 38) (v := nI (i + 1)) (lv' := [(2, .int (nI (i + 1))), (0, .ref (o 0)), (1, .int kept)]) C dX3_take_38 0 rfl (nI_1 _) (by decide) rfl ?_
        refine gV_goto (pc := 41) C 12 dX3_take_41 (by decide) ?_
        exact ih (i + 1) (by omega) (by rw [← hr, pm_frG, if_neg c_2])
      · skip
        have e : nI i = pm_fr F (pm_tk0 μ) := by rw [← hr, pm_frG, if_pos c_2]
        have hne : ¬ pm_fr F (pm_tk0 μ) = -1 := by rw [← e]; exact nI_ne_m1 (by omega)
        refine gV_aload_n (pc := 29) (x := o 0) C dX3_take_29 1 rfl rfl ?_
        refine mg_used (pc := 30) C fl_X3_35 dX3_take_30 ?_
        refine gV_iload_n (pc := 33) C dX3_take_33 0 rfl rfl ?_
        refine gV_iconst (pc := 34) (v := 0) C dX3_take_34 (by decide) ?_
        refine ms_used (pc := 35) C (vp_in_nI (by omega) (by omega)) (by decide) dX3_take_35 ?_
        rw [nI_clamp (by omega)]
        refine gV_iload_n (pc := 36) C dX3_take_36 0 rfl rfl ?_
        refine gV_iret (pc := 37) C dX3_take_37 (by decide) (by decide) ?_
        exact ⟨by rw [mtkN_eq hok, pm_tkF, if_neg hne, e], by rw [pm_tkS, if_neg hne, ← e, nI_clamp (by omega)]⟩
set_option maxHeartbeats 4000000 in
set_option maxRecDepth 100000 in
/-- take -/
theorem d_take {D : va_G} {o : Nat → Nat} {ct : Nat → ClassId} {μ : pm_S} {F S : Nat} (kept : Int32) (hok : pm_tkOK F S kept μ) : gM yX3_take cX3_take 4 (some .int) rm_X3_take D (gt ct) (mw o ct μ) [.ref (o 0), .int kept] (fun v w => v = some (.int (nI (pm_tkN F S kept μ))) ∧ w = mw o ct (pm_tkS F S kept μ)) := by
  refine gM_in RX3 rfl (by decide) (Nat.le_of_ble_eq_true rfl) (fun X C => ?_)
  refine gV_aload_n (pc := 0) (x := o 0) C dX3_take_0 0 rfl rfl ?_
  refine gV_dup (pc := 1) C dX3_take_1 rfl ?_
  refine mg_taken (pc := 2) C fl_X3_65 dX3_take_2 ?_
  refine gV_iconst (pc := 5) (v := 1) C dX3_take_5 (by decide) ?_
  refine gV_iadd (pc := 6) C dX3_take_6 ?_
  refine mp_taken (pc := 7) C fl_X3_65 dX3_take_7 ?_
  refine gV_iconst (pc := 10) (v := 0) C dX3_take_10 (by decide) ?_
  refine gV_istore_n (pc := 11) (lv' := [(2, .int 0), (0, .ref (o 0)), (1, .int kept)]) C dX3_take_11 rfl (by decide) rfl ?_
  exact mlp_take1 hok C F 0 (Nat.zero_add _) rfl
abbrev rm_X3_bring : Room := { frames := 3, cells := 0, slots := 0, locals := 68 }
set_option maxHeartbeats 4000000 in
set_option maxRecDepth 100000 in
theorem mlp_bring {X : gx_T} {D : va_G} {o : Nat → Nat} {ct : Nat → ClassId} {μ : pm_S} {F S b t f : Nat} {τ : pm_S} (hb : b < 300) (ht : t < 64) (hf : f < 16) (h4 : pm_A τ 4 b = nI t) (hfin : pm_br1 τ b f t = pm_br F S μ b) (C : gC X cX3_bring 4 RX3 rm_X3_bring none D (gt ct) (fun v w => v = none ∧ w = mw o ct (pm_br F S μ b))) : ∀ d i : Nat, i + d = 16 → gV X 0 0 (mw o ct (pm_fA τ 6 (va_cpy (pm_A τ 7) (pm_A τ 6) (16 * t) (16 * f) i))) 8 [(3, .int (nI i)), (2, .int (nI f)), (0, .ref (o 0)), (1, .int (nI b))] [] := by
  intro d
  induction d with
  | zero =>
    intro i hi
    have e : i = 16 := by omega
    rw [e]
    refine gV_iload_n (pc := 8) C dX3_bring_8 0 rfl rfl ?_
    refine gV_bipush (pc := 9) (v := 16) C dX3_bring_9 (by decide) ?_
    refine gV_icmp_ge (pc := 11) C 47 dX3_bring_11 (by decide) (fun c_1 => ?_) (fun c_1 => ?_)
    · skip
      refine gV_aload_n (pc := 47) (x := o 0) C dX3_bring_47 2 rfl rfl ?_
      refine mg_frameOf (pc := 48) C fl_X3_20 dX3_bring_48 ?_
      refine gV_iload_n (pc := 51) C dX3_bring_51 3 rfl rfl ?_
      refine gV_iload_n (pc := 52) C dX3_bring_52 1 rfl rfl ?_
      refine ms_frameOf (pc := 53) C (vp_in_nI (by omega) (by omega)) dX3_bring_53 ?_
      rw [nI_clamp (by omega)]
      refine gV_aload_n (pc := 54) (x := o 0) C dX3_bring_54 2 rfl rfl ?_
      refine mg_dirty (pc := 55) C fl_X3_26 dX3_bring_55 ?_
      refine gV_iload_n (pc := 58) C dX3_bring_58 3 rfl rfl ?_
      refine gV_iconst (pc := 59) (v := 0) C dX3_bring_59 (by decide) ?_
      refine ms_dirty (pc := 60) C (vp_in_nI (by omega) (by omega)) (by decide) dX3_bring_60 ?_
      rw [nI_clamp (by omega)]
      refine gV_aload_n (pc := 61) (x := o 0) C dX3_bring_61 2 rfl rfl ?_
      refine gV_dup (pc := 62) C dX3_bring_62 rfl ?_
      refine mg_brought (pc := 63) C fl_X3_78 dX3_bring_63 ?_
      refine gV_iconst (pc := 66) (v := 1) C dX3_bring_66 (by decide) ?_
      refine gV_iadd (pc := 67) C dX3_bring_67 ?_
      refine mp_brought (pc := 68) C fl_X3_78 dX3_bring_68 ?_
      refine gV_vret (pc := 71) C dX3_bring_71 (by decide) (by decide) ?_
      exact ⟨rfl, by rw [← hfin]; rfl⟩
    · exact absurd (by decide) c_1
  | succ d ih =>
    intro i hi
    refine gV_iload_n (pc := 8) C dX3_bring_8 0 rfl rfl ?_
    refine gV_bipush (pc := 9) (v := 16) C dX3_bring_9 (by decide) ?_
    refine gV_icmp_ge (pc := 11) C 47 dX3_bring_11 (by decide) (fun c_1 => ?_) (fun c_1 => ?_)
    · exact absurd c_1 (nI_ge (a := i) (b := 16) (by omega) (by omega))
    · skip
      refine gV_aload_n (pc := 14) (x := o 0) C dX3_bring_14 2 rfl rfl ?_
      refine mg_inFrame (pc := 15) C fl_X3_29 dX3_bring_15 ?_
      refine gV_bipush (pc := 18) (v := 16) C dX3_bring_18 (by decide) ?_
      refine gV_iload_n (pc := 20) C dX3_bring_20 1 rfl rfl ?_
      refine gV_imul (pc := 21) C dX3_bring_21 ?_
      refine gV_iload_n (pc := 22) C dX3_bring_22 0 rfl rfl ?_
      refine gV_iadd (pc := 23) C dX3_bring_23 ?_
      rw [show (16 * (nI f)) + (nI i) = nI (16 * f + i) from ix16 _ _]
      refine gV_aload_n (pc := 24) (x := o 0) C dX3_bring_24 2 rfl rfl ?_
      refine mg_inSector (pc := 25) C fl_X3_32 dX3_bring_25 ?_
      refine gV_bipush (pc := 28) (v := 16) C dX3_bring_28 (by decide) ?_
      refine gV_aload_n (pc := 30) (x := o 0) C dX3_bring_30 2 rfl rfl ?_
      refine mg_sectorOf (pc := 31) C fl_X3_23 dX3_bring_31 ?_
      refine gV_iload_n (pc := 34) C dX3_bring_34 3 rfl rfl ?_
      refine ma_sectorOf (pc := 35) C (vp_in_nI (by omega) (by omega)) dX3_bring_35 ?_
      rw [nI_clamp (by omega)]
      rw [show pm_A (pm_fA τ 6 (va_cpy (pm_A τ 7) (pm_A τ 6) (16 * t) (16 * f) i)) 4 b = nI t from h4]
      refine gV_imul (pc := 36) C dX3_bring_36 ?_
      refine gV_iload_n (pc := 37) C dX3_bring_37 0 rfl rfl ?_
      refine gV_iadd (pc := 38) C dX3_bring_38 ?_
      rw [show (16 * (nI t)) + (nI i) = nI (16 * t + i) from ix16 _ _]
      refine ma_inSector (pc := 39) C (vp_in_nI (by omega) (by omega)) dX3_bring_39 ?_
      rw [nI_clamp (by omega)]
      rw [show pm_A (pm_fA τ 6 (va_cpy (pm_A τ 7) (pm_A τ 6) (16 * t) (16 * f) i)) 7 (16 * t + i) = pm_A τ 7 (16 * t + i) from rfl]
      refine ms_inFrame (pc := 40) C (vp_in_nI (by omega) (by omega)) dX3_bring_40 ?_
      rw [nI_clamp (by omega)]
      refine gV_iinc (pc := 41) (v := nI (i + 1)) (lv' := [(3, .int (nI (i + 1))), (2, .int (nI f)), (0, .ref (o 0)), (1, .int (nI b))]) C dX3_bring_41 0 rfl (nI_1 _) (by decide) rfl ?_
      refine gV_goto (pc := 44) C 8 dX3_bring_44 (by decide) ?_
      rw [pm_sA_fA, cpy_s]
      exact ih (i + 1) (by omega)
set_option maxHeartbeats 4000000 in
set_option maxRecDepth 100000 in
/-- bring -/
theorem d_bring {D : va_G} {o : Nat → Nat} {ct : Nat → ClassId} {μ : pm_S} {F S b : Nat} (hb : b < 300) (h : pm_brOK F S μ b) : gM yX3_bring cX3_bring 4 none rm_X3_bring D (gt ct) (mw o ct μ) [.ref (o 0), .int (nI b)] (fun v w => v = none ∧ w = mw o ct (pm_br F S μ b)) := by
  refine gM_in RX3 rfl (by decide) (Nat.le_of_ble_eq_true rfl) (fun X C => ?_)
  obtain ⟨hok, t, ht, h4⟩ := h
  refine gV_aload_n (pc := 0) (x := o 0) C dX3_bring_0 0 rfl rfl ?_
  refine gV_iconst (pc := 1) (v := (-1)) C dX3_bring_1 (by decide) ?_
  refine gV_callV (pc := 2) (As := [.int ((-1))]) (rest := []) C ml_X3_75 gy_X3_take gv_X3_take (d_take (F := F) (S := S) ((-1)) hok) ⟨0, 3, _, _, rfl, rfl, rfl⟩ rfl rfl ⟨by decide, by decide⟩ (Nat.le_of_ble_eq_true rfl) (by decide) (by decide) dX3_bring_2 ?_
  rintro _ _ ⟨rfl, rfl⟩
  refine gV_istore_n (pc := 5) (lv' := [(2, .int (nI (pm_tkN F S ((-1)) μ))), (0, .ref (o 0)), (1, .int (nI b))]) C dX3_bring_5 rfl (by decide) rfl ?_
  refine gV_iconst (pc := 6) (v := 0) C dX3_bring_6 (by decide) ?_
  refine gV_istore_n (pc := 7) (lv' := [(3, .int 0), (2, .int (nI (pm_tkN F S ((-1)) μ))), (0, .ref (o 0)), (1, .int (nI b))]) C dX3_bring_7 rfl (by decide) rfl ?_
  refine gV_ws (congrArg (mw o ct) (show pm_tkS F S (-1) μ = pm_fA (pm_tkS F S (-1) μ) 6 (va_cpy (pm_A (pm_tkS F S (-1) μ) 7) (pm_A (pm_tkS F S (-1) μ) 6) (16 * t) (16 * pm_tkN F S (-1) μ) 0) by rw [cpy_0, pm_fA_self])) ?_
  exact mlp_bring hb ht (by have := mtkN_lt hok; have := hok.1.2.1; omega) h4 (by rw [pm_br, h4, nI_clamp (by omega)]) C 16 0 rfl
