theorem mod16 {x : Nat} (h : x < 2 ^ 31) : nI x - nI x / 16 * 16 = nI (x % 16) := by
  rw [div16 h, show (16 : Int32) = nI 16 from rfl, pk_mul, pk_sub (by omega)]
  congr 1; omega
theorem fl_nat {F S : Nat} {μ : pm_S} {p a y : Int32} (hok : pm_ok F S μ) (h : pm_flR (pm_flT F S μ p a y) = 0) : ∃ P x m, P < 8 ∧ x < 16 * m ∧ m ≤ 32 ∧ p = nI P ∧ a = nI x ∧ pm_A μ 0 P = nI m := by
  unfold pm_flR at h
  split at h
  · rename_i h0
    unfold pm_flT at h0
    split at h0
    · exact absurd h0 (by decide)
    · rename_i h1
      split at h0
      · exact absurd h0 (by decide)
      · rename_i h2
        split at h0
        · rename_i h3
          obtain ⟨P, hP, rfl⟩ := vp_in_of (pm_ip_vin h1) (by decide)
          obtain ⟨x, hx, rfl⟩ := nI_of h2
          obtain ⟨m, hm, em⟩ := hok.2.2.2.2.1 P hP
          rw [nI_clamp (by omega), em, show (16 : Int32) = nI 16 from rfl, pk_mul] at h3
          exact ⟨P, x, m, hP, Nat.lt_of_not_le (fun z => (nI_nlt z hx) h3), hm, rfl, rfl, em⟩
        · exact absurd h0 (by decide)
  · exact absurd h (by decide)
def pm_k (p a : Int32) : Nat := (32 * p + a / 16).toNatClampNeg
def pm_as (μ : pm_S) : pm_S := pm_sI μ 4 (pm_I μ 4 + 1)
def pm_rw (F S : Nat) (μ : pm_S) (p a y : Int32) : pm_S := pm_as (pm_sI μ 0 (pm_flT F S μ p a y))
def pm_in (F S : Nat) (τ : pm_S) (b : Nat) : pm_S := if pm_A τ 3 b = -1 then pm_br F S τ b else τ
def pm_us (τ : pm_S) (b : Nat) : pm_S := pm_sA τ 8 (pm_A τ 3 b).toNatClampNeg 1
def pm_wd (τ : pm_S) (b : Nat) (a : Int32) : Nat := 16 * (pm_A τ 3 b).toNatClampNeg + (a - a / 16 * 16).toNatClampNeg
def pm_rdV (F S : Nat) (τ : pm_S) (p a : Int32) : Int32 := if pm_A τ 1 (pm_k p a) = -1 then 0 else pm_A (pm_in F S τ (pm_A τ 1 (pm_k p a)).toNatClampNeg) 6 (pm_wd (pm_in F S τ (pm_A τ 1 (pm_k p a)).toNatClampNeg) (pm_A τ 1 (pm_k p a)).toNatClampNeg a)
def pm_rdW (F S : Nat) (τ : pm_S) (p a : Int32) : pm_S := if pm_A τ 1 (pm_k p a) = -1 then τ else pm_us (pm_in F S τ (pm_A τ 1 (pm_k p a)).toNatClampNeg) (pm_A τ 1 (pm_k p a)).toNatClampNeg
def pm_inOK (F S : Nat) (τ : pm_S) (b : Nat) : Prop := (pm_A τ 3 b = -1 → pm_brOK F S τ b) ∧ ∃ f, f < 16 ∧ pm_A (pm_in F S τ b) 3 b = nI f
def pm_rdR (F S : Nat) (μ : pm_S) (p a : Int32) : Int32 := if pm_flR (pm_flT F S μ p a 0) = 0 then pm_rdV F S (pm_rw F S μ p a 0) p a else 0
def pm_rdX (F S : Nat) (μ : pm_S) (p a : Int32) : pm_S := if pm_flR (pm_flT F S μ p a 0) = 0 then pm_rdW F S (pm_rw F S μ p a 0) p a else pm_sI μ 0 (pm_flT F S μ p a 0)
def pm_zf (τ : pm_S) (f : Nat) (i : Nat) : pm_S := pm_fA τ 6 (ph_fill (pm_A τ 6) (16 * f) (16 * f + i) 0)
def pm_nw (F S : Nat) (kept : Int32) (τ : pm_S) : Nat := pm_nf (pm_tkS F S kept τ)
def pm_nx (F S : Nat) (kept : Int32) (τ : pm_S) : pm_S := pm_nb (pm_tkS F S kept τ) (nI (pm_tkN F S kept τ))
def pm_wn (F S : Nat) (τ : pm_S) (k : Nat) : pm_S := pm_sA (pm_zf (pm_nx F S (-1) τ) (pm_tkN F S (-1) τ) 16) 1 k (nI (pm_nw F S (-1) τ))
def pm_cf (τ : pm_S) (g f i : Nat) : pm_S := pm_fA τ 6 (va_cpy (pm_A τ 6) (pm_A τ 6) (16 * g) (16 * f) i)
def pm_wc1 (τ : pm_S) (k b : Nat) : pm_S := pm_sI (pm_sA τ 1 k (nI b)) 8 (pm_I (pm_sA τ 1 k (nI b)) 8 + 1)
def pm_wc (F S : Nat) (τ : pm_S) (k g : Nat) : pm_S := pm_wc1 (pm_cf (pm_nx F S (nI g) τ) g (pm_tkN F S (nI g) τ) 16) k (pm_nw F S (nI g) τ)
def pm_wt (τ : pm_S) (b : Nat) (a v : Int32) : pm_S := pm_sA (pm_sA (pm_us τ b) 6 (pm_wd τ b a) v) 5 b 1
def pm_wrS (F S : Nat) (τ : pm_S) (p a : Int32) : pm_S := if pm_A τ 1 (pm_k p a) = -1 then pm_wn F S τ (pm_k p a) else if nI (pm_ho (pm_in F S τ (pm_A τ 1 (pm_k p a)).toNatClampNeg) (pm_A τ 1 (pm_k p a))) ≤ 1 then pm_in F S τ (pm_A τ 1 (pm_k p a)).toNatClampNeg else pm_wc F S (pm_in F S τ (pm_A τ 1 (pm_k p a)).toNatClampNeg) (pm_k p a) (pm_A (pm_in F S τ (pm_A τ 1 (pm_k p a)).toNatClampNeg) 3 (pm_A τ 1 (pm_k p a)).toNatClampNeg).toNatClampNeg
def pm_wrB (F S : Nat) (τ : pm_S) (p a : Int32) : Nat := if pm_A τ 1 (pm_k p a) = -1 then pm_nw F S (-1) τ else if nI (pm_ho (pm_in F S τ (pm_A τ 1 (pm_k p a)).toNatClampNeg) (pm_A τ 1 (pm_k p a))) ≤ 1 then (pm_A τ 1 (pm_k p a)).toNatClampNeg else pm_nw F S (pm_A (pm_in F S τ (pm_A τ 1 (pm_k p a)).toNatClampNeg) 3 (pm_A τ 1 (pm_k p a)).toNatClampNeg) (pm_in F S τ (pm_A τ 1 (pm_k p a)).toNatClampNeg)
def pm_wrR (F S : Nat) (μ : pm_S) (p a : Int32) : Int32 := if pm_flR (pm_flT F S μ p a 1) = 0 then pm_I (pm_wrS F S (pm_rw F S μ p a 1) p a) 5 - pm_I (pm_rw F S μ p a 1) 5 else 0
def pm_wrX (F S : Nat) (μ : pm_S) (p a v : Int32) : pm_S := if pm_flR (pm_flT F S μ p a 1) = 0 then pm_wt (pm_wrS F S (pm_rw F S μ p a 1) p a) (pm_wrB F S (pm_rw F S μ p a 1) p a) a v else pm_sI μ 0 (pm_flT F S μ p a 1)
def pm_nwOK (F S : Nat) (kept : Int32) (τ : pm_S) : Prop := pm_tkOK F S kept τ ∧ pm_nw F S kept τ < 300
def pm_cpOK (F S : Nat) (τ : pm_S) (b : Nat) : Prop := ¬ nI (pm_ho τ (nI b)) ≤ 1 → pm_nwOK F S (pm_A τ 3 b) τ ∧ ¬ nI (pm_tkN F S (pm_A τ 3 b) τ) = pm_A τ 3 b
theorem fill_0 (f : Nat → Int32) (a : Nat) (v : Int32) : ph_fill f a (a + 0) v = f := by
  funext k
  unfold ph_fill
  rw [if_neg (by omega)]
theorem fill_s (f : Nat → Int32) (a i : Nat) (v : Int32) : va_up (ph_fill f a (a + i) v) (a + i) v = ph_fill f a (a + (i + 1)) v := by
  funext k
  simp only [va_up, ph_fill]
  by_cases h : k = a + i
  · subst h
    rw [if_pos rfl, if_pos (by omega)]
  · rw [if_neg h]
    by_cases h2 : a ≤ k ∧ k < a + i
    · rw [if_pos h2, if_pos (by omega)]
    · rw [if_neg h2, if_neg (by omega)]
theorem nb_3 (τ : pm_S) (f : Int32) : pm_A (pm_nb τ f) 3 (pm_nf τ) = f := by
  simp only [pm_nb, pA_sA]
  simp
abbrev rm_X3_read : Room := { frames := 4, cells := 0, slots := 0, locals := 91 }
set_option maxHeartbeats 4000000 in
set_option maxRecDepth 100000 in
theorem mlp_read2 {X : gx_T} {D : va_G} {o : Nat → Nat} {ct : Nat → ClassId} {ρ : pm_S} {W : pm_S} {P x b f : Nat} {r : Int32} (hx : x < 2 ^ 31) (hb : b < 300) (hf : f < 16) (h3 : pm_A ρ 3 b = nI f) (hr : r = pm_A ρ 6 (16 * f + x % 16)) (hw : pm_sA ρ 8 f 1 = W) (C : gC X cX3_read 4 RX3 rm_X3_read (some .int) D (gt ct) (fun v w => v = some (.int r) ∧ w = mw o ct W)) : gV X 0 0 (mw o ct ρ) 59 [(3, .int (nI b)), (0, .ref (o 0)), (1, .int (nI P)), (2, .int (nI x))] [] := by
  refine gV_aload_n (pc := 59) (x := o 0) C dX3_read_59 1 rfl rfl ?_
  refine mg_used (pc := 60) C fl_X3_35 dX3_read_60 ?_
  refine gV_aload_n (pc := 63) (x := o 0) C dX3_read_63 1 rfl rfl ?_
  refine mg_frameOf (pc := 64) C fl_X3_20 dX3_read_64 ?_
  refine gV_iload_n (pc := 67) C dX3_read_67 0 rfl rfl ?_
  refine ma_frameOf (pc := 68) C (vp_in_nI (by omega) (by omega)) dX3_read_68 ?_
  rw [nI_clamp (by omega)]
  rw [show pm_A (ρ) 3 b = nI f from h3]
  refine gV_iconst (pc := 69) (v := 1) C dX3_read_69 (by decide) ?_
  refine ms_used (pc := 70) C (vp_in_nI (by omega) (by omega)) (by decide) dX3_read_70 ?_
  rw [nI_clamp (by omega)]
  refine gV_aload_n (pc := 71) (x := o 0) C dX3_read_71 1 rfl rfl ?_
  refine mg_inFrame (pc := 72) C fl_X3_29 dX3_read_72 ?_
  refine gV_bipush (pc := 75) (v := 16) C dX3_read_75 (by decide) ?_
  refine gV_aload_n (pc := 77) (x := o 0) C dX3_read_77 1 rfl rfl ?_
  refine mg_frameOf (pc := 78) C fl_X3_20 dX3_read_78 ?_
  refine gV_iload_n (pc := 81) C dX3_read_81 0 rfl rfl ?_
  refine ma_frameOf (pc := 82) C (vp_in_nI (by omega) (by omega)) dX3_read_82 ?_
  rw [nI_clamp (by omega)]
  rw [show pm_A (pm_sA (ρ) 8 f 1) 3 b = nI f from h3]
  refine gV_imul (pc := 83) C dX3_read_83 ?_
  refine gV_iload_n (pc := 84) C dX3_read_84 3 rfl rfl ?_
  refine gV_bipush (pc := 85) (v := 16) C dX3_read_85 (by decide) ?_
  refine gV_irem (pc := 87) C dX3_read_87 (by decide) ?_
  refine gV_iadd (pc := 88) C dX3_read_88 ?_
  rw [show (16 * (nI f)) + ((nI x) - (nI x) / 16 * 16) = nI (16 * f + x % 16) from by rw [mod16 (by omega), ix16]]
  refine ma_inFrame (pc := 89) C (vp_in_nI (by omega) (by omega)) dX3_read_89 ?_
  rw [nI_clamp (by omega)]
  refine gV_iret (pc := 90) C dX3_read_90 (by decide) (by decide) ?_
  exact ⟨by rw [hr]; rfl, by rw [hw]⟩
set_option maxHeartbeats 4000000 in
set_option maxRecDepth 100000 in
/-- read -/
theorem d_read {D : va_G} {o : Nat → Nat} {ct : Nat → ClassId} {μ : pm_S} {F S : Nat} (p a : Int32) (hok : pm_ok F S μ) (hev : pm_flR (pm_flT F S μ p a 0) = 0 → ¬ pm_A μ 1 (pm_k p a) = -1 → pm_inOK F S (pm_rw F S μ p a 0) (pm_A μ 1 (pm_k p a)).toNatClampNeg) : gM yX3_read cX3_read 4 (some .int) rm_X3_read D (gt ct) (mw o ct μ) [.ref (o 0), .int p, .int a] (fun v w => v = some (.int (pm_rdR F S μ p a)) ∧ w = mw o ct (pm_rdX F S μ p a)) := by
  refine gM_in RX3 rfl (by decide) (Nat.le_of_ble_eq_true rfl) (fun X C => ?_)
  obtain ⟨⟨hF2, hF16, hS64⟩, e1, e2, hhd, hpn, hbo⟩ := id hok
  refine gV_aload_n (pc := 0) (x := o 0) C dX3_read_0 0 rfl rfl ?_
  refine gV_iload_n (pc := 1) C dX3_read_1 1 rfl rfl ?_
  refine gV_iload_n (pc := 2) C dX3_read_2 2 rfl rfl ?_
  refine gV_iconst (pc := 3) (v := 0) C dX3_read_3 (by decide) ?_
  refine gV_callV (pc := 4) (As := [.int p, .int a, .int 0]) (rest := []) C ml_X3_98 gy_X3_fails gv_X3_fails (d_fails (F := F) (S := S) p a 0 hok) ⟨0, 3, _, _, rfl, rfl, rfl⟩ rfl rfl ⟨by decide, by decide⟩ (Nat.le_of_ble_eq_true rfl) (by decide) (by decide) dX3_read_4 ?_
  rintro _ _ ⟨rfl, rfl⟩
  refine gV_if_eq (pc := 7) C 12 dX3_read_7 (by decide) (fun c_1 => ?_) (fun c_1 => ?_)
  · skip
    obtain ⟨P, x, m, hP, hxm, hm, rfl, rfl, em⟩ := fl_nat hok c_1
    have es : (32 : Int32) * nI P + nI x / 16 = nI (32 * P + x / 16) := by rw [div16 (by omega), ix32]
    have ek : pm_k (nI P) (nI x) = 32 * P + x / 16 := by rw [pm_k, es, nI_clamp (by omega)]
    rw [ek] at hev
    refine gV_aload_n (pc := 12) (x := o 0) C dX3_read_12 0 rfl rfl ?_
    refine gV_dup (pc := 13) C dX3_read_13 rfl ?_
    refine mg_asked (pc := 14) C fl_X3_102 dX3_read_14 ?_
    refine gV_iconst (pc := 17) (v := 1) C dX3_read_17 (by decide) ?_
    refine gV_iadd (pc := 18) C dX3_read_18 ?_
    refine mp_asked (pc := 19) C fl_X3_102 dX3_read_19 ?_
    refine gV_aload_n (pc := 22) (x := o 0) C dX3_read_22 0 rfl rfl ?_
    refine mg_bodyOf (pc := 23) C fl_X3_13 dX3_read_23 ?_
    refine gV_bipush (pc := 26) (v := 32) C dX3_read_26 (by decide) ?_
    refine gV_iload_n (pc := 28) C dX3_read_28 1 rfl rfl ?_
    refine gV_imul (pc := 29) C dX3_read_29 ?_
    refine gV_iload_n (pc := 30) C dX3_read_30 2 rfl rfl ?_
    refine gV_bipush (pc := 31) (v := 16) C dX3_read_31 (by decide) ?_
    refine gV_idiv (pc := 33) C dX3_read_33 (by decide) ?_
    refine gV_iadd (pc := 34) C dX3_read_34 ?_
    rw [show (32 * (nI P)) + ((nI x) / 16) = nI (32 * P + x / 16) from es]
    refine ma_bodyOf (pc := 35) C (vp_in_nI (by omega) (by omega)) dX3_read_35 ?_
    rw [nI_clamp (by omega)]
    rw [show pm_A (pm_sI (pm_sI μ 0 (pm_flT F S μ (nI P) (nI x) 0)) 4 ((pm_I (pm_sI μ 0 (pm_flT F S μ (nI P) (nI x) 0)) 4) + 1)) 1 (32 * P + x / 16) = pm_A μ 1 (32 * P + x / 16) from rfl]
    refine gV_istore_n (pc := 36) (lv' := [(3, .int (pm_A μ 1 (32 * P + x / 16))), (0, .ref (o 0)), (1, .int (nI P)), (2, .int (nI x))]) C dX3_read_36 rfl (by decide) rfl ?_
    refine gV_iload_n (pc := 37) C dX3_read_37 0 rfl rfl ?_
    refine gV_iconst (pc := 38) (v := (-1)) C dX3_read_38 (by decide) ?_
    refine gV_icmp_ne (pc := 39) C 44 dX3_read_39 (by decide) (fun c_2 => ?_) (fun c_2 => ?_)
    · skip
      obtain ⟨b, hb, eb⟩ : ∃ b, b < 300 ∧ pm_A μ 1 (32 * P + x / 16) = nI b := by rcases hbo (32 * P + x / 16) (by omega) with h | h; exact absurd h c_2; exact h
      obtain ⟨hbr, f, hf, h3⟩ := hev c_1 c_2
      rw [eb, nI_clamp (by omega)] at hbr h3
      have eV : pm_rdR F S μ (nI P) (nI x) = pm_A (pm_in F S (pm_rw F S μ (nI P) (nI x) 0) b) 6 (16 * f + x % 16) := by
        rw [pm_rdR, if_pos c_1, pm_rdV, ek, show pm_A (pm_rw F S μ (nI P) (nI x) 0) 1 (32 * P + x / 16) = nI b from eb, if_neg (nI_ne_m1 (by omega)), nI_clamp (by omega), pm_wd, h3, nI_clamp (by omega), mod16 (by omega), nI_clamp (by omega)]
      have eW : pm_sA (pm_in F S (pm_rw F S μ (nI P) (nI x) 0) b) 8 f 1 = pm_rdX F S μ (nI P) (nI x) := by
        rw [pm_rdX, if_pos c_1, pm_rdW, ek, show pm_A (pm_rw F S μ (nI P) (nI x) 0) 1 (32 * P + x / 16) = nI b from eb, if_neg (nI_ne_m1 (by omega)), nI_clamp (by omega), pm_us, h3, nI_clamp (by omega)]
      refine gV_ws (congrArg (mw o ct) (show _ = pm_rw F S μ (nI P) (nI x) 0 from rfl)) ?_
      refine gV_lv (lv' := [(3, .int (nI b)), (0, .ref (o 0)), (1, .int (nI P)), (2, .int (nI x))]) [0, 1, 2, 3] (by rw [← eb]; rfl) ?_
      refine gV_aload_n (pc := 44) (x := o 0) C dX3_read_44 1 rfl rfl ?_
      refine mg_frameOf (pc := 45) C fl_X3_20 dX3_read_45 ?_
      refine gV_iload_n (pc := 48) C dX3_read_48 0 rfl rfl ?_
      refine ma_frameOf (pc := 49) C (vp_in_nI (by omega) (by omega)) dX3_read_49 ?_
      rw [nI_clamp (by omega)]
      refine gV_iconst (pc := 50) (v := (-1)) C dX3_read_50 (by decide) ?_
      refine gV_icmp_ne (pc := 51) C 59 dX3_read_51 (by decide) (fun c_23 => ?_) (fun c_23 => ?_)
      · skip
        exact mlp_read2 (by omega) hb hf (by rw [pm_in, if_neg c_23] at h3; exact h3) (by rw [eV, pm_in, if_neg c_23]) (by rw [← eW, pm_in, if_neg c_23]) C
      · skip
        refine gV_aload_n (pc := 54) (x := o 0) C dX3_read_54 1 rfl rfl ?_
        refine gV_iload_n (pc := 55) C dX3_read_55 0 rfl rfl ?_
        refine gV_callV (pc := 56) (As := [.int (nI b)]) (rest := []) C ml_X3_105 gy_X3_bring gv_X3_bring (d_bring (F := F) (S := S) (b := b) (by omega) (hbr c_23)) ⟨0, 3, _, _, rfl, rfl, rfl⟩ rfl rfl ⟨by decide, by decide⟩ (Nat.le_of_ble_eq_true rfl) (by decide) (by decide) dX3_read_56 ?_
        rintro _ _ ⟨rfl, rfl⟩
        exact mlp_read2 (by omega) hb hf (by rw [pm_in, if_pos c_23] at h3; exact h3) (by rw [eV, pm_in, if_pos c_23]) (by rw [← eW, pm_in, if_pos c_23]) C
    · skip
      refine gV_iconst (pc := 42) (v := 0) C dX3_read_42 (by decide) ?_
      refine gV_iret (pc := 43) C dX3_read_43 (by decide) (by decide) ?_
      exact ⟨by rw [pm_rdR, if_pos c_1, pm_rdV, ek, if_pos (show pm_A (pm_rw F S μ (nI P) (nI x) 0) 1 (32 * P + x / 16) = -1 from c_2)], by rw [pm_rdX, if_pos c_1, pm_rdW, ek, if_pos (show pm_A (pm_rw F S μ (nI P) (nI x) 0) 1 (32 * P + x / 16) = -1 from c_2)]; rfl⟩
  · skip
    refine gV_iconst (pc := 10) (v := 0) C dX3_read_10 (by decide) ?_
    refine gV_iret (pc := 11) C dX3_read_11 (by decide) (by decide) ?_
    exact ⟨by rw [pm_rdR, if_neg c_1], by rw [pm_rdX, if_neg c_1]⟩
abbrev rm_X3_write : Room := { frames := 4, cells := 0, slots := 0, locals := 91 }
set_option maxHeartbeats 4000000 in
set_option maxRecDepth 100000 in
theorem mlp_write2 {X : gx_T} {D : va_G} {o : Nat → Nat} {ct : Nat → ClassId} {ρ : pm_S} {W : pm_S} {P x b f : Nat} {r z v : Int32} (hx : x < 2 ^ 31) (hb : b < 300) (hf : f < 16) (h3 : pm_A ρ 3 b = nI f) (hr : r = pm_I ρ 5 - z) (hw : pm_wt ρ b (nI x) v = W) (C : gC X cX3_write 10 RX3 rm_X3_write (some .int) D (gt ct) (fun v w => v = some (.int r) ∧ w = mw o ct W)) : gV X 0 0 (mw o ct ρ) 224 [(6, .int (nI b)), (4, .int z), (0, .ref (o 0)), (1, .int (nI P)), (2, .int (nI x)), (3, .int v)] [] := by
  rw [pm_wt, pm_us, pm_wd, h3, nI_clamp (by omega), mod16 hx, nI_clamp (by omega)] at hw
  refine gV_aload_n (pc := 224) (x := o 0) C dX3_write_224 2 rfl rfl ?_
  refine mg_used (pc := 225) C fl_X3_35 dX3_write_225 ?_
  refine gV_aload_n (pc := 228) (x := o 0) C dX3_write_228 2 rfl rfl ?_
  refine mg_frameOf (pc := 229) C fl_X3_20 dX3_write_229 ?_
  refine gV_iload (pc := 232) C dX3_write_232 0 rfl ?_
  refine ma_frameOf (pc := 234) C (vp_in_nI (by omega) (by omega)) dX3_write_234 ?_
  rw [nI_clamp (by omega)]
  rw [show pm_A (ρ) 3 b = nI f from h3]
  refine gV_iconst (pc := 235) (v := 1) C dX3_write_235 (by decide) ?_
  refine ms_used (pc := 236) C (vp_in_nI (by omega) (by omega)) (by decide) dX3_write_236 ?_
  rw [nI_clamp (by omega)]
  refine gV_aload_n (pc := 237) (x := o 0) C dX3_write_237 2 rfl rfl ?_
  refine mg_inFrame (pc := 238) C fl_X3_29 dX3_write_238 ?_
  refine gV_bipush (pc := 241) (v := 16) C dX3_write_241 (by decide) ?_
  refine gV_aload_n (pc := 243) (x := o 0) C dX3_write_243 2 rfl rfl ?_
  refine mg_frameOf (pc := 244) C fl_X3_20 dX3_write_244 ?_
  refine gV_iload (pc := 247) C dX3_write_247 0 rfl ?_
  refine ma_frameOf (pc := 249) C (vp_in_nI (by omega) (by omega)) dX3_write_249 ?_
  rw [nI_clamp (by omega)]
  rw [show pm_A (pm_sA (ρ) 8 f 1) 3 b = nI f from h3]
  refine gV_imul (pc := 250) C dX3_write_250 ?_
  refine gV_iload_n (pc := 251) C dX3_write_251 4 rfl rfl ?_
  refine gV_bipush (pc := 252) (v := 16) C dX3_write_252 (by decide) ?_
  refine gV_irem (pc := 254) C dX3_write_254 (by decide) ?_
  refine gV_iadd (pc := 255) C dX3_write_255 ?_
  rw [show (16 * (nI f)) + ((nI x) - (nI x) / 16 * 16) = nI (16 * f + x % 16) from by rw [mod16 (by omega), ix16]]
  refine gV_iload_n (pc := 256) C dX3_write_256 5 rfl rfl ?_
  refine ms_inFrame (pc := 257) C (vp_in_nI (by omega) (by omega)) dX3_write_257 ?_
  rw [nI_clamp (by omega)]
  refine gV_aload_n (pc := 258) (x := o 0) C dX3_write_258 2 rfl rfl ?_
  refine mg_dirty (pc := 259) C fl_X3_26 dX3_write_259 ?_
  refine gV_iload (pc := 262) C dX3_write_262 0 rfl ?_
  refine gV_iconst (pc := 264) (v := 1) C dX3_write_264 (by decide) ?_
  refine ms_dirty (pc := 265) C (vp_in_nI (by omega) (by omega)) (by decide) dX3_write_265 ?_
  rw [nI_clamp (by omega)]
  refine gV_aload_n (pc := 266) (x := o 0) C dX3_write_266 2 rfl rfl ?_
  refine mg_taken (pc := 267) C fl_X3_65 dX3_write_267 ?_
  refine gV_iload (pc := 270) C dX3_write_270 1 rfl ?_
  refine gV_isub (pc := 272) C dX3_write_272 ?_
  refine gV_iret (pc := 273) C dX3_write_273 (by decide) (by decide) ?_
  exact ⟨by rw [hr]; rfl, by rw [hw]⟩
set_option maxHeartbeats 4000000 in
set_option maxRecDepth 100000 in
theorem mlp_write3 {X : gx_T} {D : va_G} {o : Nat → Nat} {ct : Nat → ClassId} {ρ : pm_S} {W : pm_S} {P x b f k : Nat} {r z v : Int32} (hx : x < 2 ^ 31) (hb : b < 300) (hf : f < 16) (hk : k < 256) (h3 : pm_A ρ 3 b = nI f) (hr : r = pm_I ρ 5 - z) (hw : pm_wt (pm_sA (pm_zf ρ f 16) 1 k (nI b)) b (nI x) v = W) (C : gC X cX3_write 10 RX3 rm_X3_write (some .int) D (gt ct) (fun v w => v = some (.int r) ∧ w = mw o ct W)) : ∀ d i : Nat, i + d = 16 → gV X 0 0 (mw o ct (pm_zf ρ f i)) 72 [(8, .int (nI i)), (6, .int (nI b)), (7, .int (nI f)), (5, .int (nI k)), (4, .int z), (0, .ref (o 0)), (1, .int (nI P)), (2, .int (nI x)), (3, .int v)] [] := by
  intro d
  induction d with
  | zero =>
    intro i hi
    have e : i = 16 := by omega
    rw [e]
    refine gV_iload (pc := 72) C dX3_write_72 0 rfl ?_
    refine gV_bipush (pc := 74) (v := 16) C dX3_write_74 (by decide) ?_
    refine gV_icmp_ge (pc := 76) C 99 dX3_write_76 (by decide) (fun c_1 => ?_) (fun c_1 => ?_)
    · skip
      refine gV_aload_n (pc := 99) (x := o 0) C dX3_write_99 5 rfl rfl ?_
      refine mg_bodyOf (pc := 100) C fl_X3_13 dX3_write_100 ?_
      refine gV_iload (pc := 103) C dX3_write_103 3 rfl ?_
      refine gV_iload (pc := 105) C dX3_write_105 1 rfl ?_
      refine ms_bodyOf (pc := 107) C (vp_in_nI (by omega) (by omega)) dX3_write_107 ?_
      rw [nI_clamp (by omega)]
      refine gV_goto (pc := 108) C 224 dX3_write_108 (by decide) ?_
      refine gV_lv [1, 4, 5, 6, 7, 8] rfl ?_
      exact mlp_write2 hx hb hf h3 hr hw C
    · exact absurd (by decide) c_1
  | succ d ih =>
    intro i hi
    refine gV_iload (pc := 72) C dX3_write_72 0 rfl ?_
    refine gV_bipush (pc := 74) (v := 16) C dX3_write_74 (by decide) ?_
    refine gV_icmp_ge (pc := 76) C 99 dX3_write_76 (by decide) (fun c_1 => ?_) (fun c_1 => ?_)
    · exact absurd c_1 (nI_ge (a := i) (b := 16) (by omega) (by omega))
    · skip
      refine gV_aload_n (pc := 79) (x := o 0) C dX3_write_79 5 rfl rfl ?_
      refine mg_inFrame (pc := 80) C fl_X3_29 dX3_write_80 ?_
      refine gV_bipush (pc := 83) (v := 16) C dX3_write_83 (by decide) ?_
      refine gV_iload (pc := 85) C dX3_write_85 2 rfl ?_
      refine gV_imul (pc := 87) C dX3_write_87 ?_
      refine gV_iload (pc := 88) C dX3_write_88 0 rfl ?_
      refine gV_iadd (pc := 90) C dX3_write_90 ?_
      rw [show (16 * (nI f)) + (nI i) = nI (16 * f + i) from ix16 _ _]
      refine gV_iconst (pc := 91) (v := 0) C dX3_write_91 (by decide) ?_
      refine ms_inFrame (pc := 92) C (vp_in_nI (by omega) (by omega)) dX3_write_92 ?_
      rw [nI_clamp (by omega)]
      refine gV_iinc (pc := 93) (v := nI (i + 1)) (lv' := [(8, .int (nI (i + 1))), (6, .int (nI b)), (7, .int (nI f)), (5, .int (nI k)), (4, .int z), (0, .ref (o 0)), (1, .int (nI P)), (2, .int (nI x)), (3, .int v)]) C dX3_write_93 0 rfl (nI_1 _) (by decide) rfl ?_
      refine gV_goto (pc := 96) C 72 dX3_write_96 (by decide) ?_
      rw [show pm_sA (pm_zf ρ f i) 6 (16 * f + i) 0 = pm_zf ρ f (i + 1) by rw [pm_zf, pm_sA_fA, fill_s, ← pm_zf]]
      exact ih (i + 1) (by omega)
set_option maxHeartbeats 4000000 in
set_option maxRecDepth 100000 in
theorem mlp_write4 {X : gx_T} {D : va_G} {o : Nat → Nat} {ct : Nat → ClassId} {ρ : pm_S} {W : pm_S} {P x b f g k : Nat} {r z v : Int32} (hx : x < 2 ^ 31) (hb : b < 300) (hf : f < 16) (hg : g < 16) (hfg : ¬ f = g) (hk : k < 256) (h3 : pm_A ρ 3 b = nI f) (hr : r = pm_I ρ 5 - z) (hw : pm_wt (pm_wc1 (pm_cf ρ g f 16) k b) b (nI x) v = W) (C : gC X cX3_write 10 RX3 rm_X3_write (some .int) D (gt ct) (fun v w => v = some (.int r) ∧ w = mw o ct W)) : ∀ d i : Nat, i + d = 16 → gV X 0 0 (mw o ct (pm_cf ρ g f i)) 166 [(9, .int (nI i)), (6, .int (nI b)), (8, .int (nI f)), (7, .int (nI g)), (5, .int (nI k)), (4, .int z), (0, .ref (o 0)), (1, .int (nI P)), (2, .int (nI x)), (3, .int v)] [] := by
  intro d
  induction d with
  | zero =>
    intro i hi
    have e : i = 16 := by omega
    rw [e]
    refine gV_iload (pc := 166) C dX3_write_166 0 rfl ?_
    refine gV_bipush (pc := 168) (v := 16) C dX3_write_168 (by decide) ?_
    refine gV_icmp_ge (pc := 170) C 205 dX3_write_170 (by decide) (fun c_1 => ?_) (fun c_1 => ?_)
    · skip
      refine gV_aload_n (pc := 205) (x := o 0) C dX3_write_205 6 rfl rfl ?_
      refine mg_bodyOf (pc := 206) C fl_X3_13 dX3_write_206 ?_
      refine gV_iload (pc := 209) C dX3_write_209 4 rfl ?_
      refine gV_iload (pc := 211) C dX3_write_211 1 rfl ?_
      refine ms_bodyOf (pc := 213) C (vp_in_nI (by omega) (by omega)) dX3_write_213 ?_
      rw [nI_clamp (by omega)]
      refine gV_aload_n (pc := 214) (x := o 0) C dX3_write_214 6 rfl rfl ?_
      refine gV_dup (pc := 215) C dX3_write_215 rfl ?_
      refine mg_copies (pc := 216) C fl_X3_111 dX3_write_216 ?_
      refine gV_iconst (pc := 219) (v := 1) C dX3_write_219 (by decide) ?_
      refine gV_iadd (pc := 220) C dX3_write_220 ?_
      refine mp_copies (pc := 221) C fl_X3_111 dX3_write_221 ?_
      refine gV_lv [1, 5, 6, 7, 8, 9] rfl ?_
      exact mlp_write2 (ρ := pm_wc1 (pm_cf ρ g f 16) k b) hx hb hf h3 hr hw C
    · exact absurd (by decide) c_1
  | succ d ih =>
    intro i hi
    refine gV_iload (pc := 166) C dX3_write_166 0 rfl ?_
    refine gV_bipush (pc := 168) (v := 16) C dX3_write_168 (by decide) ?_
    refine gV_icmp_ge (pc := 170) C 205 dX3_write_170 (by decide) (fun c_1 => ?_) (fun c_1 => ?_)
    · exact absurd c_1 (nI_ge (a := i) (b := 16) (by omega) (by omega))
    · skip
      refine gV_aload_n (pc := 173) (x := o 0) C dX3_write_173 6 rfl rfl ?_
      refine mg_inFrame (pc := 174) C fl_X3_29 dX3_write_174 ?_
      refine gV_bipush (pc := 177) (v := 16) C dX3_write_177 (by decide) ?_
      refine gV_iload (pc := 179) C dX3_write_179 2 rfl ?_
      refine gV_imul (pc := 181) C dX3_write_181 ?_
      refine gV_iload (pc := 182) C dX3_write_182 0 rfl ?_
      refine gV_iadd (pc := 184) C dX3_write_184 ?_
      rw [show (16 * (nI f)) + (nI i) = nI (16 * f + i) from ix16 _ _]
      refine gV_aload_n (pc := 185) (x := o 0) C dX3_write_185 6 rfl rfl ?_
      refine mg_inFrame (pc := 186) C fl_X3_29 dX3_write_186 ?_
      refine gV_bipush (pc := 189) (v := 16) C dX3_write_189 (by decide) ?_
      refine gV_iload (pc := 191) C dX3_write_191 3 rfl ?_
      refine gV_imul (pc := 193) C dX3_write_193 ?_
      refine gV_iload (pc := 194) C dX3_write_194 0 rfl ?_
      refine gV_iadd (pc := 196) C dX3_write_196 ?_
      rw [show (16 * (nI g)) + (nI i) = nI (16 * g + i) from ix16 _ _]
      refine ma_inFrame (pc := 197) C (vp_in_nI (by omega) (by omega)) dX3_write_197 ?_
      rw [nI_clamp (by omega)]
      rw [show pm_A (pm_cf ρ g f i) 6 (16 * g + i) = pm_A ρ 6 (16 * g + i) from by rw [pm_cf, pA_fA, if_pos rfl, va_cpy, if_neg (by omega)]]
      refine ms_inFrame (pc := 198) C (vp_in_nI (by omega) (by omega)) dX3_write_198 ?_
      rw [nI_clamp (by omega)]
      refine gV_iinc (pc := 199) (v := nI (i + 1)) (lv' := [(9, .int (nI (i + 1))), (6, .int (nI b)), (8, .int (nI f)), (7, .int (nI g)), (5, .int (nI k)), (4, .int z), (0, .ref (o 0)), (1, .int (nI P)), (2, .int (nI x)), (3, .int v)]) C dX3_write_199 0 rfl (nI_1 _) (by decide) rfl ?_
      refine gV_goto (pc := 202) C 166 dX3_write_202 (by decide) ?_
      rw [show pm_sA (pm_cf ρ g f i) 6 (16 * f + i) (pm_A ρ 6 (16 * g + i)) = pm_cf ρ g f (i + 1) by rw [pm_cf, pm_sA_fA, cpy_s, ← pm_cf]]
      exact ih (i + 1) (by omega)
set_option maxHeartbeats 4000000 in
set_option maxRecDepth 100000 in
/-- write -/
theorem d_write {D : va_G} {o : Nat → Nat} {ct : Nat → ClassId} {μ : pm_S} {F S : Nat} (p a v : Int32) (hok : pm_ok F S μ) (hn : pm_flR (pm_flT F S μ p a 1) = 0 → pm_A μ 1 (pm_k p a) = -1 → pm_nwOK F S (-1) (pm_rw F S μ p a 1)) (hev : pm_flR (pm_flT F S μ p a 1) = 0 → ¬ pm_A μ 1 (pm_k p a) = -1 → pm_inOK F S (pm_rw F S μ p a 1) (pm_A μ 1 (pm_k p a)).toNatClampNeg ∧ pm_cpOK F S (pm_in F S (pm_rw F S μ p a 1) (pm_A μ 1 (pm_k p a)).toNatClampNeg) (pm_A μ 1 (pm_k p a)).toNatClampNeg) : gM yX3_write cX3_write 10 (some .int) rm_X3_write D (gt ct) (mw o ct μ) [.ref (o 0), .int p, .int a, .int v] (fun r w => r = some (.int (pm_wrR F S μ p a)) ∧ w = mw o ct (pm_wrX F S μ p a v)) := by
  refine gM_in RX3 rfl (by decide) (Nat.le_of_ble_eq_true rfl) (fun X C => ?_)
  obtain ⟨⟨hF2, hF16, hS64⟩, e1, e2, hhd, hpn, hbo⟩ := id hok
  refine gV_aload_n (pc := 0) (x := o 0) C dX3_write_0 0 rfl rfl ?_
  refine gV_iload_n (pc := 1) C dX3_write_1 1 rfl rfl ?_
  refine gV_iload_n (pc := 2) C dX3_write_2 2 rfl rfl ?_
  refine gV_iconst (pc := 3) (v := 1) C dX3_write_3 (by decide) ?_
  refine gV_callV (pc := 4) (As := [.int p, .int a, .int 1]) (rest := []) C ml_X3_98 gy_X3_fails gv_X3_fails (d_fails (F := F) (S := S) p a 1 hok) ⟨0, 3, _, _, rfl, rfl, rfl⟩ rfl rfl ⟨by decide, by decide⟩ (Nat.le_of_ble_eq_true rfl) (by decide) (by decide) dX3_write_4 ?_
  rintro _ _ ⟨rfl, rfl⟩
  refine gV_if_eq (pc := 7) C 12 dX3_write_7 (by decide) (fun c_1 => ?_) (fun c_1 => ?_)
  · skip
    obtain ⟨P, x, m, hP, hxm, hm, rfl, rfl, em⟩ := fl_nat hok c_1
    have es : (32 : Int32) * nI P + nI x / 16 = nI (32 * P + x / 16) := by rw [div16 (by omega), ix32]
    have ek : pm_k (nI P) (nI x) = 32 * P + x / 16 := by rw [pm_k, es, nI_clamp (by omega)]
    rw [ek] at hev
    rw [ek] at hn
    refine gV_aload_n (pc := 12) (x := o 0) C dX3_write_12 0 rfl rfl ?_
    refine gV_dup (pc := 13) C dX3_write_13 rfl ?_
    refine mg_asked (pc := 14) C fl_X3_102 dX3_write_14 ?_
    refine gV_iconst (pc := 17) (v := 1) C dX3_write_17 (by decide) ?_
    refine gV_iadd (pc := 18) C dX3_write_18 ?_
    refine mp_asked (pc := 19) C fl_X3_102 dX3_write_19 ?_
    refine gV_aload_n (pc := 22) (x := o 0) C dX3_write_22 0 rfl rfl ?_
    refine mg_taken (pc := 23) C fl_X3_65 dX3_write_23 ?_
    refine gV_istore (pc := 26) (lv' := [(4, .int (pm_I (pm_sI (pm_sI μ 0 (pm_flT F S μ (nI P) (nI x) 1)) 4 ((pm_I (pm_sI μ 0 (pm_flT F S μ (nI P) (nI x) 1)) 4) + 1)) 5)), (0, .ref (o 0)), (1, .int (nI P)), (2, .int (nI x)), (3, .int v)]) C dX3_write_26 (by decide) rfl ?_
    refine gV_bipush (pc := 28) (v := 32) C dX3_write_28 (by decide) ?_
    refine gV_iload_n (pc := 30) C dX3_write_30 2 rfl rfl ?_
    refine gV_imul (pc := 31) C dX3_write_31 ?_
    refine gV_iload_n (pc := 32) C dX3_write_32 3 rfl rfl ?_
    refine gV_bipush (pc := 33) (v := 16) C dX3_write_33 (by decide) ?_
    refine gV_idiv (pc := 35) C dX3_write_35 (by decide) ?_
    refine gV_iadd (pc := 36) C dX3_write_36 ?_
    rw [show (32 * (nI P)) + ((nI x) / 16) = nI (32 * P + x / 16) from es]
    refine gV_istore (pc := 37) (lv' := [(5, .int (nI (32 * P + x / 16))), (4, .int (pm_I (pm_sI (pm_sI μ 0 (pm_flT F S μ (nI P) (nI x) 1)) 4 ((pm_I (pm_sI μ 0 (pm_flT F S μ (nI P) (nI x) 1)) 4) + 1)) 5)), (0, .ref (o 0)), (1, .int (nI P)), (2, .int (nI x)), (3, .int v)]) C dX3_write_37 (by decide) rfl ?_
    refine gV_aload_n (pc := 39) (x := o 0) C dX3_write_39 2 rfl rfl ?_
    refine mg_bodyOf (pc := 40) C fl_X3_13 dX3_write_40 ?_
    refine gV_iload (pc := 43) C dX3_write_43 0 rfl ?_
    refine ma_bodyOf (pc := 45) C (vp_in_nI (by omega) (by omega)) dX3_write_45 ?_
    rw [nI_clamp (by omega)]
    rw [show pm_A (pm_sI (pm_sI μ 0 (pm_flT F S μ (nI P) (nI x) 1)) 4 ((pm_I (pm_sI μ 0 (pm_flT F S μ (nI P) (nI x) 1)) 4) + 1)) 1 (32 * P + x / 16) = pm_A μ 1 (32 * P + x / 16) from rfl]
    refine gV_istore (pc := 46) (lv' := [(6, .int (pm_A μ 1 (32 * P + x / 16))), (5, .int (nI (32 * P + x / 16))), (4, .int (pm_I (pm_sI (pm_sI μ 0 (pm_flT F S μ (nI P) (nI x) 1)) 4 ((pm_I (pm_sI μ 0 (pm_flT F S μ (nI P) (nI x) 1)) 4) + 1)) 5)), (0, .ref (o 0)), (1, .int (nI P)), (2, .int (nI x)), (3, .int v)]) C dX3_write_46 (by decide) rfl ?_
    refine gV_iload (pc := 48) C dX3_write_48 0 rfl ?_
    refine gV_iconst (pc := 50) (v := (-1)) C dX3_write_50 (by decide) ?_
    refine gV_icmp_ne (pc := 51) C 111 dX3_write_51 (by decide) (fun c_2 => ?_) (fun c_2 => ?_)
    · skip
      obtain ⟨b, hb, eb⟩ : ∃ b, b < 300 ∧ pm_A μ 1 (32 * P + x / 16) = nI b := by rcases hbo (32 * P + x / 16) (by omega) with h | h; exact absurd h c_2; exact h
      obtain ⟨⟨hbr, g, hg, h3⟩, hcp⟩ := hev c_1 c_2
      rw [eb, nI_clamp (by omega)] at hbr h3 hcp
      have e9 : pm_A (pm_rw F S μ (nI P) (nI x) 1) 1 (32 * P + x / 16) = nI b := eb
      have n9 : ¬ nI b = -1 := nI_ne_m1 (by omega)
      have eS : pm_wrS F S (pm_rw F S μ (nI P) (nI x) 1) (nI P) (nI x) = if nI (pm_ho (pm_in F S (pm_rw F S μ (nI P) (nI x) 1) b) (nI b)) ≤ 1 then pm_in F S (pm_rw F S μ (nI P) (nI x) 1) b else pm_wc F S (pm_in F S (pm_rw F S μ (nI P) (nI x) 1) b) (32 * P + x / 16) g := by
        rw [pm_wrS, ek, e9, nI_clamp (by omega), if_neg n9, h3, nI_clamp (by omega)]
      have eB : pm_wrB F S (pm_rw F S μ (nI P) (nI x) 1) (nI P) (nI x) = if nI (pm_ho (pm_in F S (pm_rw F S μ (nI P) (nI x) 1) b) (nI b)) ≤ 1 then b else pm_nw F S (nI g) (pm_in F S (pm_rw F S μ (nI P) (nI x) 1) b) := by
        rw [pm_wrB, ek, e9, nI_clamp (by omega), if_neg n9, h3]
      have eV : pm_wrR F S μ (nI P) (nI x) = pm_I (pm_wrS F S (pm_rw F S μ (nI P) (nI x) 1) (nI P) (nI x)) 5 - pm_I (pm_rw F S μ (nI P) (nI x) 1) 5 := by rw [pm_wrR, if_pos c_1]
      have eX : pm_wrX F S μ (nI P) (nI x) v = pm_wt (pm_wrS F S (pm_rw F S μ (nI P) (nI x) 1) (nI P) (nI x)) (pm_wrB F S (pm_rw F S μ (nI P) (nI x) 1) (nI P) (nI x)) (nI x) v := by rw [pm_wrX, if_pos c_1]
      rw [eS] at eV
      rw [eS, eB] at eX
      refine gV_ws (congrArg (mw o ct) (show _ = pm_rw F S μ (nI P) (nI x) 1 from rfl)) ?_
      refine gV_lv (lv' := [(6, .int (nI b)), (5, .int (nI (32 * P + x / 16))), (4, .int (pm_I (pm_rw F S μ (nI P) (nI x) 1) 5)), (0, .ref (o 0)), (1, .int (nI P)), (2, .int (nI x)), (3, .int v)]) [0, 1, 2, 3, 4, 5, 6] (by rw [← eb]; rfl) ?_
      have k128 : gV X 0 0 (mw o ct (pm_in F S (pm_rw F S μ (nI P) (nI x) 1) b)) 128 [(6, .int (nI b)), (5, .int (nI (32 * P + x / 16))), (4, .int (pm_I (pm_rw F S μ (nI P) (nI x) 1) 5)), (0, .ref (o 0)), (1, .int (nI P)), (2, .int (nI x)), (3, .int v)] [] := by
        generalize hτ : pm_in F S (pm_rw F S μ (nI P) (nI x) 1) b = τ at hcp h3 eV eX ⊢
        refine gV_aload_n (pc := 128) (x := o 0) C dX3_write_128 3 rfl rfl ?_
        refine gV_iload (pc := 129) C dX3_write_129 0 rfl ?_
        refine gV_callV (pc := 131) (As := [.int (nI b)]) (rest := []) C ml_X3_59 gy_X3_holders gv_X3_holders (d_holders _) ⟨0, 3, _, _, rfl, rfl, rfl⟩ rfl rfl ⟨by decide, by decide⟩ (Nat.le_of_ble_eq_true rfl) (by decide) (by decide) dX3_write_131 ?_
        rintro _ _ ⟨rfl, rfl⟩
        refine gV_iconst (pc := 134) (v := 1) C dX3_write_134 (by decide) ?_
        refine gV_icmp_le (pc := 135) C 224 dX3_write_135 (by decide) (fun c_43 => ?_) (fun c_43 => ?_)
        · skip
          refine gV_lv [0, 2, 3, 4, 5, 6] rfl ?_
          exact mlp_write2 (by omega) hb hg h3 (by rw [eV, if_pos c_43]) (by rw [eX, if_pos c_43, if_pos c_43]) C
        · skip
          obtain ⟨⟨htk, hnf⟩, hne⟩ := hcp c_43
          rw [h3] at htk hnf hne
          have hf : pm_tkN F S (nI g) τ < 16 := by have := mtkN_lt htk; omega
          have hfg : ¬ pm_tkN F S (nI g) τ = g := fun e => hne (by rw [e])
          refine gV_aload_n (pc := 138) (x := o 0) C dX3_write_138 3 rfl rfl ?_
          refine mg_frameOf (pc := 139) C fl_X3_20 dX3_write_139 ?_
          refine gV_iload (pc := 142) C dX3_write_142 0 rfl ?_
          refine ma_frameOf (pc := 144) C (vp_in_nI (by omega) (by omega)) dX3_write_144 ?_
          rw [nI_clamp (by omega)]
          rw [show pm_A (τ) 3 b = nI g from h3]
          refine gV_istore (pc := 145) (lv' := [(7, .int (nI g)), (6, .int (nI b)), (5, .int (nI (32 * P + x / 16))), (4, .int (pm_I (pm_rw F S μ (nI P) (nI x) 1) 5)), (0, .ref (o 0)), (1, .int (nI P)), (2, .int (nI x)), (3, .int v)]) C dX3_write_145 (by decide) rfl ?_
          refine gV_aload_n (pc := 147) (x := o 0) C dX3_write_147 4 rfl rfl ?_
          refine gV_iload (pc := 148) C dX3_write_148 0 rfl ?_
          refine gV_callV (pc := 150) (As := [.int (nI g)]) (rest := []) C ml_X3_75 gy_X3_take gv_X3_take (d_take (F := F) (S := S) (nI g) htk) ⟨0, 3, _, _, rfl, rfl, rfl⟩ rfl rfl ⟨by decide, by decide⟩ (Nat.le_of_ble_eq_true rfl) (by decide) (by decide) dX3_write_150 ?_
          rintro _ _ ⟨rfl, rfl⟩
          refine gV_istore (pc := 153) (lv' := [(8, .int (nI (pm_tkN F S (nI g) (τ)))), (7, .int (nI g)), (6, .int (nI b)), (5, .int (nI (32 * P + x / 16))), (4, .int (pm_I (pm_rw F S μ (nI P) (nI x) 1) 5)), (0, .ref (o 0)), (1, .int (nI P)), (2, .int (nI x)), (3, .int v)]) C dX3_write_153 (by decide) rfl ?_
          refine gV_aload_n (pc := 155) (x := o 0) C dX3_write_155 5 rfl rfl ?_
          refine gV_iload (pc := 156) C dX3_write_156 0 rfl ?_
          refine gV_callV (pc := 158) (As := [.int (nI (pm_tkN F S (nI g) (τ)))]) (rest := []) C ml_X3_108 gy_X3_newBody gv_X3_newBody (d_newBody (f := (nI (pm_tkN F S (nI g) (τ)))) hnf) ⟨0, 3, _, _, rfl, rfl, rfl⟩ rfl rfl ⟨by decide, by decide⟩ (Nat.le_of_ble_eq_true rfl) (by decide) (by decide) dX3_write_158 ?_
          rintro _ _ ⟨rfl, rfl⟩
          refine gV_istore (pc := 161) (lv' := [(6, .int (nI (pm_nf (pm_tkS F S (nI g) (τ))))), (8, .int (nI (pm_tkN F S (nI g) (τ)))), (7, .int (nI g)), (5, .int (nI (32 * P + x / 16))), (4, .int (pm_I (pm_rw F S μ (nI P) (nI x) 1) 5)), (0, .ref (o 0)), (1, .int (nI P)), (2, .int (nI x)), (3, .int v)]) C dX3_write_161 (by decide) rfl ?_
          refine gV_iconst (pc := 163) (v := 0) C dX3_write_163 (by decide) ?_
          refine gV_istore (pc := 164) (lv' := [(9, .int 0), (6, .int (nI (pm_nf (pm_tkS F S (nI g) (τ))))), (8, .int (nI (pm_tkN F S (nI g) (τ)))), (7, .int (nI g)), (5, .int (nI (32 * P + x / 16))), (4, .int (pm_I (pm_rw F S μ (nI P) (nI x) 1) 5)), (0, .ref (o 0)), (1, .int (nI P)), (2, .int (nI x)), (3, .int v)]) C dX3_write_164 (by decide) rfl ?_
          refine gV_lv [0, 1, 2, 3, 4, 5, 6, 7, 8, 9] rfl ?_
          refine gV_ws (congrArg (mw o ct) (show _ = pm_cf (pm_nx F S (nI g) τ) g (pm_tkN F S (nI g) τ) 0 by rw [pm_cf, cpy_0, pm_fA_self]; rfl)) ?_
          exact mlp_write4 (ρ := pm_nx F S (nI g) τ) (by omega) hnf hf hg hfg (by omega) (nb_3 _ _) (by rw [eV, if_neg c_43]; rfl) (by rw [eX, if_neg c_43, if_neg c_43]; rfl) C 16 0 rfl
      refine gV_aload_n (pc := 111) (x := o 0) C dX3_write_111 3 rfl rfl ?_
      refine mg_frameOf (pc := 112) C fl_X3_20 dX3_write_112 ?_
      refine gV_iload (pc := 115) C dX3_write_115 0 rfl ?_
      refine ma_frameOf (pc := 117) C (vp_in_nI (by omega) (by omega)) dX3_write_117 ?_
      rw [nI_clamp (by omega)]
      refine gV_iconst (pc := 118) (v := (-1)) C dX3_write_118 (by decide) ?_
      refine gV_icmp_ne (pc := 119) C 128 dX3_write_119 (by decide) (fun c_64 => ?_) (fun c_64 => ?_)
      · skip
        refine gV_ws (congrArg (mw o ct) (show _ = pm_in F S (pm_rw F S μ (nI P) (nI x) 1) b by rw [pm_in, if_neg c_64])) ?_
        clear c_64
        exact k128
      · skip
        refine gV_aload_n (pc := 122) (x := o 0) C dX3_write_122 3 rfl rfl ?_
        refine gV_iload (pc := 123) C dX3_write_123 0 rfl ?_
        refine gV_callV (pc := 125) (As := [.int (nI b)]) (rest := []) C ml_X3_105 gy_X3_bring gv_X3_bring (d_bring (F := F) (S := S) (b := b) (by omega) (hbr c_64)) ⟨0, 3, _, _, rfl, rfl, rfl⟩ rfl rfl ⟨by decide, by decide⟩ (Nat.le_of_ble_eq_true rfl) (by decide) (by decide) dX3_write_125 ?_
        rintro _ _ ⟨rfl, rfl⟩
        refine gV_ws (congrArg (mw o ct) (show _ = pm_in F S (pm_rw F S μ (nI P) (nI x) 1) b by rw [pm_in, if_pos c_64])) ?_
        clear c_64
        exact k128
    · skip
      obtain ⟨htk, hnf⟩ := hn c_1 c_2
      have hf : pm_tkN F S (-1) (pm_rw F S μ (nI P) (nI x) 1) < 16 := by have := mtkN_lt htk; omega
      refine gV_ws (congrArg (mw o ct) (show _ = pm_rw F S μ (nI P) (nI x) 1 from rfl)) ?_
      refine gV_aload_n (pc := 54) (x := o 0) C dX3_write_54 3 rfl rfl ?_
      refine gV_iconst (pc := 55) (v := (-1)) C dX3_write_55 (by decide) ?_
      refine gV_callV (pc := 56) (As := [.int ((-1))]) (rest := []) C ml_X3_75 gy_X3_take gv_X3_take (d_take (F := F) (S := S) ((-1)) htk) ⟨0, 3, _, _, rfl, rfl, rfl⟩ rfl rfl ⟨by decide, by decide⟩ (Nat.le_of_ble_eq_true rfl) (by decide) (by decide) dX3_write_56 ?_
      rintro _ _ ⟨rfl, rfl⟩
      refine gV_istore (pc := 59) (lv' := [(7, .int (nI (pm_tkN F S ((-1)) (pm_rw F S μ (nI P) (nI x) 1)))), (6, .int (pm_A μ 1 (32 * P + x / 16))), (5, .int (nI (32 * P + x / 16))), (4, .int (pm_I (pm_sI (pm_sI μ 0 (pm_flT F S μ (nI P) (nI x) 1)) 4 ((pm_I (pm_sI μ 0 (pm_flT F S μ (nI P) (nI x) 1)) 4) + 1)) 5)), (0, .ref (o 0)), (1, .int (nI P)), (2, .int (nI x)), (3, .int v)]) C dX3_write_59 (by decide) rfl ?_
      refine gV_aload_n (pc := 61) (x := o 0) C dX3_write_61 4 rfl rfl ?_
      refine gV_iload (pc := 62) C dX3_write_62 0 rfl ?_
      refine gV_callV (pc := 64) (As := [.int (nI (pm_tkN F S ((-1)) (pm_rw F S μ (nI P) (nI x) 1)))]) (rest := []) C ml_X3_108 gy_X3_newBody gv_X3_newBody (d_newBody (f := (nI (pm_tkN F S ((-1)) (pm_rw F S μ (nI P) (nI x) 1)))) hnf) ⟨0, 3, _, _, rfl, rfl, rfl⟩ rfl rfl ⟨by decide, by decide⟩ (Nat.le_of_ble_eq_true rfl) (by decide) (by decide) dX3_write_64 ?_
      rintro _ _ ⟨rfl, rfl⟩
      refine gV_istore (pc := 67) (lv' := [(6, .int (nI (pm_nf (pm_tkS F S ((-1)) (pm_rw F S μ (nI P) (nI x) 1))))), (7, .int (nI (pm_tkN F S ((-1)) (pm_rw F S μ (nI P) (nI x) 1)))), (5, .int (nI (32 * P + x / 16))), (4, .int (pm_I (pm_sI (pm_sI μ 0 (pm_flT F S μ (nI P) (nI x) 1)) 4 ((pm_I (pm_sI μ 0 (pm_flT F S μ (nI P) (nI x) 1)) 4) + 1)) 5)), (0, .ref (o 0)), (1, .int (nI P)), (2, .int (nI x)), (3, .int v)]) C dX3_write_67 (by decide) rfl ?_
      refine gV_iconst (pc := 69) (v := 0) C dX3_write_69 (by decide) ?_
      refine gV_istore (pc := 70) (lv' := [(8, .int 0), (6, .int (nI (pm_nf (pm_tkS F S ((-1)) (pm_rw F S μ (nI P) (nI x) 1))))), (7, .int (nI (pm_tkN F S ((-1)) (pm_rw F S μ (nI P) (nI x) 1)))), (5, .int (nI (32 * P + x / 16))), (4, .int (pm_I (pm_sI (pm_sI μ 0 (pm_flT F S μ (nI P) (nI x) 1)) 4 ((pm_I (pm_sI μ 0 (pm_flT F S μ (nI P) (nI x) 1)) 4) + 1)) 5)), (0, .ref (o 0)), (1, .int (nI P)), (2, .int (nI x)), (3, .int v)]) C dX3_write_70 (by decide) rfl ?_
      refine gV_lv [0, 1, 2, 3, 4, 5, 6, 7, 8] rfl ?_
      refine gV_ws (congrArg (mw o ct) (show _ = pm_zf (pm_nx F S (-1) (pm_rw F S μ (nI P) (nI x) 1)) (pm_tkN F S (-1) (pm_rw F S μ (nI P) (nI x) 1)) 0 by rw [pm_zf, fill_0, pm_fA_self]; rfl)) ?_
      exact mlp_write3 (ρ := pm_nx F S (-1) (pm_rw F S μ (nI P) (nI x) 1)) (by omega) hnf hf (by omega) (nb_3 _ _) (by rw [pm_wrR, if_pos c_1, pm_wrS, if_pos (show pm_A (pm_rw F S μ (nI P) (nI x) 1) 1 (pm_k (nI P) (nI x)) = -1 by rw [ek]; exact c_2)]; rfl) (by rw [pm_wrX, if_pos c_1, pm_wrS, pm_wrB, if_pos (show pm_A (pm_rw F S μ (nI P) (nI x) 1) 1 (pm_k (nI P) (nI x)) = -1 by rw [ek]; exact c_2), if_pos (show pm_A (pm_rw F S μ (nI P) (nI x) 1) 1 (pm_k (nI P) (nI x)) = -1 by rw [ek]; exact c_2), ek]; rfl) C 16 0 rfl
  · skip
    refine gV_iconst (pc := 10) (v := 0) C dX3_write_10 (by decide) ?_
    refine gV_iret (pc := 11) C dX3_write_11 (by decide) (by decide) ?_
    exact ⟨by rw [pm_wrR, if_neg c_1], by rw [pm_wrX, if_neg c_1]⟩
