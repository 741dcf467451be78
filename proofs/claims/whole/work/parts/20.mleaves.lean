theorem pA_sA (μ : pm_S) (k j : Nat) (v : Int32) (k' j' : Nat) : pm_A (pm_sA μ k j v) k' j' = if k' = k ∧ j' = j then v else pm_A μ k' j' := by
  simp only [pm_A, pm_sA, va_up]
  by_cases h : k' = k
  · subst h
    by_cases h2 : j' = j <;> simp [h2, va_up]
  · simp [h]
theorem pA_sI (μ : pm_S) (k : Nat) (v : Int32) (k' j' : Nat) : pm_A (pm_sI μ k v) k' j' = pm_A μ k' j' := rfl
theorem pI_sA (μ : pm_S) (k j : Nat) (v : Int32) (k' : Nat) : pm_I (pm_sA μ k j v) k' = pm_I μ k' := rfl
theorem pI_sI (μ : pm_S) (k : Nat) (v : Int32) (k' : Nat) : pm_I (pm_sI μ k v) k' = if k' = k then v else pm_I μ k' := rfl
theorem nI_p0 (c : Nat) : nI c + 0 = nI c := by
  rw [show (0 : Int32) = nI 0 from rfl, nI_add, Nat.add_zero]
def pm_ip (μ : pm_S) (p : Int32) : Int32 := if p < 0 then 0 else if 8 ≤ p then 0 else if pm_A μ 0 p.toNatClampNeg ≤ 0 then 0 else 1
def pm_ig (μ : pm_S) (p g : Int32) : Int32 := if pm_ip μ p = 0 then 0 else if g < 0 then 0 else if pm_A μ 0 p.toNatClampNeg ≤ g then 0 else 1
theorem pm_ip_in {μ : pm_S} {p : Int32} (h : ¬ pm_ip μ p = 0) : ¬ p < 0 ∧ ¬ 8 ≤ p ∧ ¬ pm_A μ 0 p.toNatClampNeg ≤ 0 := by
  unfold pm_ip at h
  split at h
  · exact absurd rfl h
  · split at h
    · exact absurd rfl h
    · split at h
      · exact absurd rfl h
      · exact ⟨by assumption, by assumption, by assumption⟩
theorem pm_ip_vin {μ : pm_S} {p : Int32} (h : ¬ pm_ip μ p = 0) : vp_in p 8 := ix_cmp (N := 8) (by decide) (pm_ip_in h).1 (pm_ip_in h).2.1
def pm_lpG (μ : pm_S) : Nat → Nat → Int32
  | 0, _ => -1
  | d + 1, i => if pm_A μ 0 i = 0 then nI i else pm_lpG μ d (i + 1)
def pm_lp (μ : pm_S) : Int32 := pm_lpG μ 8 0
def pm_biG (μ : pm_S) (f : Int32) : Nat → Nat → Int32
  | 0, _ => -1
  | d + 1, i => if pm_A μ 2 i = 0 then pm_biG μ f d (i + 1) else if pm_A μ 3 i = f then nI i else pm_biG μ f d (i + 1)
def pm_bi (μ : pm_S) (f : Int32) : Int32 := pm_biG μ f 300 0
def pm_sfG (μ : pm_S) (s : Int32) : Nat → Nat → Int32
  | 0, _ => 1
  | d + 1, i => if pm_A μ 2 i = 0 then pm_sfG μ s d (i + 1) else if pm_A μ 4 i = s then 0 else pm_sfG μ s d (i + 1)
def pm_sf (μ : pm_S) (s : Int32) : Int32 := pm_sfG μ s 300 0
def pm_ff (F : Nat) (μ : pm_S) : Nat := ph_cN (fun f => decide (pm_bi μ (nI f) = -1)) F
def pm_fs (S : Nat) (μ : pm_S) : Nat := ph_cN (fun s => decide (¬ pm_sf μ (nI s) = 0)) S
def pm_ho (μ : pm_S) (b : Int32) : Nat := ph_cN (fun k => decide (pm_A μ 1 k = b)) 256
abbrev rm_X3_thrown : Room := { frames := 0, cells := 0, slots := 0, locals := 0 }
set_option maxHeartbeats 4000000 in
set_option maxRecDepth 100000 in
/-- thrown, of the reference -/
theorem d_thrown {D : va_G} {o : Nat → Nat} {ct : Nat → ClassId} {μ : pm_S}  : gM yX3_thrown cX3_thrown 1 (some .int) rm_X3_thrown D (gt ct) (mw o ct μ) [.ref (o 0)] (fun v w => v = some (.int (pm_I μ 0)) ∧ w = mw o ct μ) := by
  refine gM_in RX3 rfl (by decide) (Nat.le_of_ble_eq_true rfl) (fun X C => ?_)
  refine gV_aload_n (pc := 0) (x := o 0) C dX3_thrown_0 0 rfl rfl ?_
  refine mg_thrown (pc := 1) C fl_X3_45 dX3_thrown_1 ?_
  refine gV_iret (pc := 4) C dX3_thrown_4 (by decide) (by decide) ?_
  exact ⟨rfl, rfl⟩
abbrev rm_X3_isProcess : Room := { frames := 0, cells := 0, slots := 0, locals := 0 }
set_option maxHeartbeats 4000000 in
set_option maxRecDepth 100000 in
/-- isProcess, of the reference -/
theorem d_isProcess {D : va_G} {o : Nat → Nat} {ct : Nat → ClassId} {μ : pm_S} (p : Int32) : gM yX3_isProcess cX3_isProcess 2 (some .boolean) rm_X3_isProcess D (gt ct) (mw o ct μ) [.ref (o 0), .int p] (fun v w => v = some (.int (pm_ip μ p)) ∧ w = mw o ct μ) := by
  refine gM_in RX3 rfl (by decide) (Nat.le_of_ble_eq_true rfl) (fun X C => ?_)
  refine gV_iload_n (pc := 0) C dX3_isProcess_0 1 rfl rfl ?_
  refine gV_if_lt (pc := 1) C 23 dX3_isProcess_1 (by decide) (fun c_1 => ?_) (fun c_1 => ?_)
  · skip
    refine gV_iconst (pc := 23) (v := 0) C dX3_isProcess_23 (by decide) ?_
    refine gV_zret (pc := 24) C dX3_isProcess_24 (by decide) (by decide) (by decide) ?_
    exact ⟨by rw [pm_ip, if_pos c_1], rfl⟩
  · skip
    refine gV_iload_n (pc := 4) C dX3_isProcess_4 1 rfl rfl ?_
    refine gV_bipush (pc := 5) (v := 8) C dX3_isProcess_5 (by decide) ?_
    refine gV_icmp_ge (pc := 7) C 23 dX3_isProcess_7 (by decide) (fun c_2 => ?_) (fun c_2 => ?_)
    · skip
      refine gV_iconst (pc := 23) (v := 0) C dX3_isProcess_23 (by decide) ?_
      refine gV_zret (pc := 24) C dX3_isProcess_24 (by decide) (by decide) (by decide) ?_
      exact ⟨by rw [pm_ip, if_neg c_1, if_pos c_2], rfl⟩
    · skip
      refine gV_aload_n (pc := 10) (x := o 0) C dX3_isProcess_10 0 rfl rfl ?_
      refine mg_pages (pc := 11) C fl_X3_7 dX3_isProcess_11 ?_
      refine gV_iload_n (pc := 14) C dX3_isProcess_14 1 rfl rfl ?_
      refine ma_pages (pc := 15) C (ix_cmp (N := 8) (by decide) c_1 c_2) dX3_isProcess_15 ?_
      refine gV_if_le (pc := 16) C 23 dX3_isProcess_16 (by decide) (fun c_3 => ?_) (fun c_3 => ?_)
      · skip
        refine gV_iconst (pc := 23) (v := 0) C dX3_isProcess_23 (by decide) ?_
        refine gV_zret (pc := 24) C dX3_isProcess_24 (by decide) (by decide) (by decide) ?_
        exact ⟨by rw [pm_ip, if_neg c_1, if_neg c_2, if_pos c_3], rfl⟩
      · skip
        refine gV_iconst (pc := 19) (v := 1) C dX3_isProcess_19 (by decide) ?_
        refine gV_goto (pc := 20) C 24 dX3_isProcess_20 (by decide) ?_
        refine gV_zret (pc := 24) C dX3_isProcess_24 (by decide) (by decide) (by decide) ?_
        exact ⟨by rw [pm_ip, if_neg c_1, if_neg c_2, if_neg c_3], rfl⟩
abbrev rm_X3_isPage : Room := { frames := 1, cells := 0, slots := 0, locals := 21 }
set_option maxHeartbeats 4000000 in
set_option maxRecDepth 100000 in
/-- isPage, of the reference -/
theorem d_isPage {D : va_G} {o : Nat → Nat} {ct : Nat → ClassId} {μ : pm_S} (p g : Int32) : gM yX3_isPage cX3_isPage 3 (some .boolean) rm_X3_isPage D (gt ct) (mw o ct μ) [.ref (o 0), .int p, .int g] (fun v w => v = some (.int (pm_ig μ p g)) ∧ w = mw o ct μ) := by
  refine gM_in RX3 rfl (by decide) (Nat.le_of_ble_eq_true rfl) (fun X C => ?_)
  refine gV_aload_n (pc := 0) (x := o 0) C dX3_isPage_0 0 rfl rfl ?_
  refine gV_iload_n (pc := 1) C dX3_isPage_1 1 rfl rfl ?_
  refine gV_callV (pc := 2) (As := [.int p]) (rest := []) C ml_X3_48 gy_X3_isProcess gv_X3_isProcess (d_isProcess _) ⟨0, 3, _, _, rfl, rfl, rfl⟩ rfl rfl ⟨by decide, by decide⟩ (Nat.le_of_ble_eq_true rfl) (by decide) (by decide) dX3_isPage_2 ?_
  rintro _ _ ⟨rfl, rfl⟩
  refine gV_if_eq (pc := 5) C 26 dX3_isPage_5 (by decide) (fun c_1 => ?_) (fun c_1 => ?_)
  · skip
    refine gV_iconst (pc := 26) (v := 0) C dX3_isPage_26 (by decide) ?_
    refine gV_zret (pc := 27) C dX3_isPage_27 (by decide) (by decide) (by decide) ?_
    exact ⟨by rw [pm_ig, if_pos c_1], rfl⟩
  · skip
    refine gV_iload_n (pc := 8) C dX3_isPage_8 2 rfl rfl ?_
    refine gV_if_lt (pc := 9) C 26 dX3_isPage_9 (by decide) (fun c_2 => ?_) (fun c_2 => ?_)
    · skip
      refine gV_iconst (pc := 26) (v := 0) C dX3_isPage_26 (by decide) ?_
      refine gV_zret (pc := 27) C dX3_isPage_27 (by decide) (by decide) (by decide) ?_
      exact ⟨by rw [pm_ig, if_neg c_1, if_pos c_2], rfl⟩
    · skip
      refine gV_iload_n (pc := 12) C dX3_isPage_12 2 rfl rfl ?_
      refine gV_aload_n (pc := 13) (x := o 0) C dX3_isPage_13 0 rfl rfl ?_
      refine mg_pages (pc := 14) C fl_X3_7 dX3_isPage_14 ?_
      refine gV_iload_n (pc := 17) C dX3_isPage_17 1 rfl rfl ?_
      refine ma_pages (pc := 18) C (pm_ip_vin c_1) dX3_isPage_18 ?_
      refine gV_icmp_ge (pc := 19) C 26 dX3_isPage_19 (by decide) (fun c_3 => ?_) (fun c_3 => ?_)
      · skip
        refine gV_iconst (pc := 26) (v := 0) C dX3_isPage_26 (by decide) ?_
        refine gV_zret (pc := 27) C dX3_isPage_27 (by decide) (by decide) (by decide) ?_
        exact ⟨by rw [pm_ig, if_neg c_1, if_neg c_2, if_pos c_3], rfl⟩
      · skip
        refine gV_iconst (pc := 22) (v := 1) C dX3_isPage_22 (by decide) ?_
        refine gV_goto (pc := 23) C 27 dX3_isPage_23 (by decide) ?_
        refine gV_zret (pc := 27) C dX3_isPage_27 (by decide) (by decide) (by decide) ?_
        exact ⟨by rw [pm_ig, if_neg c_1, if_neg c_2, if_neg c_3], rfl⟩
abbrev rm_X3_leastProcess : Room := { frames := 0, cells := 0, slots := 0, locals := 0 }
set_option maxHeartbeats 4000000 in
set_option maxRecDepth 100000 in
theorem mlp_leastProcess {X : gx_T} {D : va_G} {o : Nat → Nat} {ct : Nat → ClassId} {μ : pm_S}  (C : gC X cX3_leastProcess 2 RX3 rm_X3_leastProcess (some .int) D (gt ct) (fun v w => v = some (.int (pm_lp μ)) ∧ w = mw o ct μ)) : ∀ d i : Nat, i + d = 8 → pm_lpG μ d i = pm_lp μ → gV X 0 0 (mw o ct μ) 2 [(1, .int (nI i)), (0, .ref (o 0))] [] := by
  intro d
  induction d with
  | zero =>
    intro i hi hr
    refine gV_iload_n (pc := 2) C dX3_leastProcess_2 0 rfl rfl ?_
    refine gV_bipush (pc := 3) (v := 8) C dX3_leastProcess_3 (by decide) ?_
    refine gV_icmp_ge (pc := 5) C 25 dX3_leastProcess_5 (by decide) (fun c_1 => ?_) (fun c_1 => ?_)
    · skip
      refine gV_iconst (pc := 25) (v := (-1)) C dX3_leastProcess_25 (by decide) ?_
      refine gV_iret (pc := 26) C dX3_leastProcess_26 (by decide) (by decide) ?_
      exact ⟨by rw [← hr]; rfl, rfl⟩
    · exact absurd (nI_le (a := 8) (b := i) (by omega) (by omega)) c_1
  | succ d ih =>
    intro i hi hr
    refine gV_iload_n (pc := 2) C dX3_leastProcess_2 0 rfl rfl ?_
    refine gV_bipush (pc := 3) (v := 8) C dX3_leastProcess_3 (by decide) ?_
    refine gV_icmp_ge (pc := 5) C 25 dX3_leastProcess_5 (by decide) (fun c_1 => ?_) (fun c_1 => ?_)
    · exact absurd c_1 (nI_ge (a := i) (b := 8) (by omega) (by omega))
    · skip
      refine gV_aload_n (pc := 8) (x := o 0) C dX3_leastProcess_8 1 rfl rfl ?_
      refine mg_pages (pc := 9) C fl_X3_7 dX3_leastProcess_9 ?_
      refine gV_iload_n (pc := 12) C dX3_leastProcess_12 0 rfl rfl ?_
      refine ma_pages (pc := 13) C (vp_in_nI (by omega) (by omega)) dX3_leastProcess_13 ?_
      rw [nI_clamp (by omega)]
      refine gV_if_ne (pc := 14) C 19 dX3_leastProcess_14 (by decide) (fun c_2 => ?_) (fun c_2 => ?_)
      · skip
        refine gV_iinc (pc := 19) (v := nI (i + 1)) (lv' := [(1, .int (nI (i + 1))), (0, .ref (o 0))]) C dX3_leastProcess_19 0 rfl (nI_1 _) (by decide) rfl ?_
        refine gV_goto (pc := 22) C 2 dX3_leastProcess_22 (by decide) ?_
        refine gV_lv [0, 1] rfl ?_
        exact ih (i + 1) (by omega) (by rw [← hr, pm_lpG, if_neg c_2])
      · skip
        refine gV_iload_n (pc := 17) C dX3_leastProcess_17 0 rfl rfl ?_
        refine gV_iret (pc := 18) C dX3_leastProcess_18 (by decide) (by decide) ?_
        exact ⟨by rw [← hr, pm_lpG, if_pos c_2], rfl⟩
set_option maxHeartbeats 4000000 in
set_option maxRecDepth 100000 in
/-- leastProcess -/
theorem d_leastProcess {D : va_G} {o : Nat → Nat} {ct : Nat → ClassId} {μ : pm_S}  : gM yX3_leastProcess cX3_leastProcess 2 (some .int) rm_X3_leastProcess D (gt ct) (mw o ct μ) [.ref (o 0)] (fun v w => v = some (.int (pm_lp μ)) ∧ w = mw o ct μ) := by
  refine gM_in RX3 rfl (by decide) (Nat.le_of_ble_eq_true rfl) (fun X C => ?_)
  refine gV_iconst (pc := 0) (v := 0) C dX3_leastProcess_0 (by decide) ?_
  refine gV_istore_n (pc := 1) (lv' := [(1, .int 0), (0, .ref (o 0))]) C dX3_leastProcess_1 rfl (by decide) rfl ?_
  exact mlp_leastProcess C 8 0 rfl rfl
abbrev rm_X3_bodyIn : Room := { frames := 0, cells := 0, slots := 0, locals := 0 }
set_option maxHeartbeats 4000000 in
set_option maxRecDepth 100000 in
theorem mlp_bodyIn {X : gx_T} {D : va_G} {o : Nat → Nat} {ct : Nat → ClassId} {μ : pm_S} {f : Int32} (C : gC X cX3_bodyIn 3 RX3 rm_X3_bodyIn (some .int) D (gt ct) (fun v w => v = some (.int (pm_bi μ f)) ∧ w = mw o ct μ)) : ∀ d i : Nat, i + d = 300 → pm_biG μ f d i = pm_bi μ f → gV X 0 0 (mw o ct μ) 2 [(2, .int (nI i)), (0, .ref (o 0)), (1, .int f)] [] := by
  intro d
  induction d with
  | zero =>
    intro i hi hr
    refine gV_iload_n (pc := 2) C dX3_bodyIn_2 0 rfl rfl ?_
    refine gV_sipush (pc := 3) (v := 300) C dX3_bodyIn_3 (by decide) ?_
    refine gV_icmp_ge (pc := 6) C 36 dX3_bodyIn_6 (by decide) (fun c_1 => ?_) (fun c_1 => ?_)
    · skip
      refine gV_iconst (pc := 36) (v := (-1)) C dX3_bodyIn_36 (by decide) ?_
      refine gV_iret (pc := 37) C dX3_bodyIn_37 (by decide) (by decide) ?_
      exact ⟨by rw [← hr]; rfl, rfl⟩
    · exact absurd (nI_le (a := 300) (b := i) (by omega) (by omega)) c_1
  | succ d ih =>
    intro i hi hr
    refine gV_iload_n (pc := 2) C dX3_bodyIn_2 0 rfl rfl ?_
    refine gV_sipush (pc := 3) (v := 300) C dX3_bodyIn_3 (by decide) ?_
    refine gV_icmp_ge (pc := 6) C 36 dX3_bodyIn_6 (by decide) (fun c_1 => ?_) (fun c_1 => ?_)
    · exact absurd c_1 (nI_ge (a := i) (b := 300) (by omega) (by omega))
    · skip
      refine gV_aload_n (pc := 9) (x := o 0) C dX3_bodyIn_9 1 rfl rfl ?_
      refine mg_is (pc := 10) C fl_X3_16 dX3_bodyIn_10 ?_
      refine gV_iload_n (pc := 13) C dX3_bodyIn_13 0 rfl rfl ?_
      refine ma_is (pc := 14) C (vp_in_nI (by omega) (by omega)) dX3_bodyIn_14 ?_
      rw [nI_clamp (by omega)]
      refine gV_if_eq (pc := 15) C 30 dX3_bodyIn_15 (by decide) (fun c_2 => ?_) (fun c_2 => ?_)
      · skip
        refine gV_iinc (pc := 30) (v := nI (i + 1)) (lv' := [(2, .int (nI (i + 1))), (0, .ref (o 0)), (1, .int f)]) C dX3_bodyIn_30 0 rfl (nI_1 _) (by decide) rfl ?_
        refine gV_goto (pc := 33) C 2 dX3_bodyIn_33 (by decide) ?_
        refine gV_lv [0, 1, 2] rfl ?_
        exact ih (i + 1) (by omega) (by rw [← hr, pm_biG, if_pos c_2])
      · skip
        refine gV_aload_n (pc := 18) (x := o 0) C dX3_bodyIn_18 1 rfl rfl ?_
        refine mg_frameOf (pc := 19) C fl_X3_20 dX3_bodyIn_19 ?_
        refine gV_iload_n (pc := 22) C dX3_bodyIn_22 0 rfl rfl ?_
        refine ma_frameOf (pc := 23) C (vp_in_nI (by omega) (by omega)) dX3_bodyIn_23 ?_
        rw [nI_clamp (by omega)]
        refine gV_iload_n (pc := 24) C dX3_bodyIn_24 2 rfl rfl ?_
        refine gV_icmp_ne (pc := 25) C 30 dX3_bodyIn_25 (by decide) (fun c_3 => ?_) (fun c_3 => ?_)
        · skip
          refine gV_iinc (pc := 30) (v := nI (i + 1)) (lv' := [(2, .int (nI (i + 1))), (0, .ref (o 0)), (1, .int f)]) C dX3_bodyIn_30 0 rfl (nI_1 _) (by decide) rfl ?_
          refine gV_goto (pc := 33) C 2 dX3_bodyIn_33 (by decide) ?_
          refine gV_lv [0, 1, 2] rfl ?_
          exact ih (i + 1) (by omega) (by rw [← hr, pm_biG, if_neg c_2, if_neg c_3])
        · skip
          refine gV_iload_n (pc := 28) C dX3_bodyIn_28 0 rfl rfl ?_
          refine gV_iret (pc := 29) C dX3_bodyIn_29 (by decide) (by decide) ?_
          exact ⟨by rw [← hr, pm_biG, if_neg c_2, if_pos c_3], rfl⟩
set_option maxHeartbeats 4000000 in
set_option maxRecDepth 100000 in
/-- bodyIn -/
theorem d_bodyIn {D : va_G} {o : Nat → Nat} {ct : Nat → ClassId} {μ : pm_S} (f : Int32) : gM yX3_bodyIn cX3_bodyIn 3 (some .int) rm_X3_bodyIn D (gt ct) (mw o ct μ) [.ref (o 0), .int f] (fun v w => v = some (.int (pm_bi μ f)) ∧ w = mw o ct μ) := by
  refine gM_in RX3 rfl (by decide) (Nat.le_of_ble_eq_true rfl) (fun X C => ?_)
  refine gV_iconst (pc := 0) (v := 0) C dX3_bodyIn_0 (by decide) ?_
  refine gV_istore_n (pc := 1) (lv' := [(2, .int 0), (0, .ref (o 0)), (1, .int f)]) C dX3_bodyIn_1 rfl (by decide) rfl ?_
  exact mlp_bodyIn C 300 0 rfl rfl
abbrev rm_X3_isSectorFree : Room := { frames := 0, cells := 0, slots := 0, locals := 0 }
set_option maxHeartbeats 4000000 in
set_option maxRecDepth 100000 in
theorem mlp_isSectorFree {X : gx_T} {D : va_G} {o : Nat → Nat} {ct : Nat → ClassId} {μ : pm_S} {s : Int32} (C : gC X cX3_isSectorFree 3 RX3 rm_X3_isSectorFree (some .boolean) D (gt ct) (fun v w => v = some (.int (pm_sf μ s)) ∧ w = mw o ct μ)) : ∀ d i : Nat, i + d = 300 → pm_sfG μ s d i = pm_sf μ s → gV X 0 0 (mw o ct μ) 2 [(2, .int (nI i)), (0, .ref (o 0)), (1, .int s)] [] := by
  intro d
  induction d with
  | zero =>
    intro i hi hr
    refine gV_iload_n (pc := 2) C dX3_isSectorFree_2 0 rfl rfl ?_
    refine gV_sipush (pc := 3) (v := 300) C dX3_isSectorFree_3 (by decide) ?_
    refine gV_icmp_ge (pc := 6) C 36 dX3_isSectorFree_6 (by decide) (fun c_1 => ?_) (fun c_1 => ?_)
    · skip
      refine gV_iconst (pc := 36) (v := 1) C dX3_isSectorFree_36 (by decide) ?_
      refine gV_zret (pc := 37) C dX3_isSectorFree_37 (by decide) (by decide) (by decide) ?_
      exact ⟨by rw [← hr]; rfl, rfl⟩
    · exact absurd (nI_le (a := 300) (b := i) (by omega) (by omega)) c_1
  | succ d ih =>
    intro i hi hr
    refine gV_iload_n (pc := 2) C dX3_isSectorFree_2 0 rfl rfl ?_
    refine gV_sipush (pc := 3) (v := 300) C dX3_isSectorFree_3 (by decide) ?_
    refine gV_icmp_ge (pc := 6) C 36 dX3_isSectorFree_6 (by decide) (fun c_1 => ?_) (fun c_1 => ?_)
    · exact absurd c_1 (nI_ge (a := i) (b := 300) (by omega) (by omega))
    · skip
      refine gV_aload_n (pc := 9) (x := o 0) C dX3_isSectorFree_9 1 rfl rfl ?_
      refine mg_is (pc := 10) C fl_X3_16 dX3_isSectorFree_10 ?_
      refine gV_iload_n (pc := 13) C dX3_isSectorFree_13 0 rfl rfl ?_
      refine ma_is (pc := 14) C (vp_in_nI (by omega) (by omega)) dX3_isSectorFree_14 ?_
      rw [nI_clamp (by omega)]
      refine gV_if_eq (pc := 15) C 30 dX3_isSectorFree_15 (by decide) (fun c_2 => ?_) (fun c_2 => ?_)
      · skip
        refine gV_iinc (pc := 30) (v := nI (i + 1)) (lv' := [(2, .int (nI (i + 1))), (0, .ref (o 0)), (1, .int s)]) C dX3_isSectorFree_30 0 rfl (nI_1 _) (by decide) rfl ?_
        refine gV_goto (pc := 33) C 2 dX3_isSectorFree_33 (by decide) ?_
        refine gV_lv [0, 1, 2] rfl ?_
        exact ih (i + 1) (by omega) (by rw [← hr, pm_sfG, if_pos c_2])
      · skip
        refine gV_aload_n (pc := 18) (x := o 0) C dX3_isSectorFree_18 1 rfl rfl ?_
        refine mg_sectorOf (pc := 19) C fl_X3_23 dX3_isSectorFree_19 ?_
        refine gV_iload_n (pc := 22) C dX3_isSectorFree_22 0 rfl rfl ?_
        refine ma_sectorOf (pc := 23) C (vp_in_nI (by omega) (by omega)) dX3_isSectorFree_23 ?_
        rw [nI_clamp (by omega)]
        refine gV_iload_n (pc := 24) C dX3_isSectorFree_24 2 rfl rfl ?_
        refine gV_icmp_ne (pc := 25) C 30 dX3_isSectorFree_25 (by decide) (fun c_3 => ?_) (fun c_3 => ?_)
        · skip
          refine gV_iinc (pc := 30) (v := nI (i + 1)) (lv' := [(2, .int (nI (i + 1))), (0, .ref (o 0)), (1, .int s)]) C dX3_isSectorFree_30 0 rfl (nI_1 _) (by decide) rfl ?_
          refine gV_goto (pc := 33) C 2 dX3_isSectorFree_33 (by decide) ?_
          refine gV_lv [0, 1, 2] rfl ?_
          exact ih (i + 1) (by omega) (by rw [← hr, pm_sfG, if_neg c_2, if_neg c_3])
        · skip
          refine gV_iconst (pc := 28) (v := 0) C dX3_isSectorFree_28 (by decide) ?_
          refine gV_zret (pc := 29) C dX3_isSectorFree_29 (by decide) (by decide) (by decide) ?_
          exact ⟨by rw [← hr, pm_sfG, if_neg c_2, if_pos c_3], rfl⟩
set_option maxHeartbeats 4000000 in
set_option maxRecDepth 100000 in
/-- isSectorFree -/
theorem d_isSectorFree {D : va_G} {o : Nat → Nat} {ct : Nat → ClassId} {μ : pm_S} (s : Int32) : gM yX3_isSectorFree cX3_isSectorFree 3 (some .boolean) rm_X3_isSectorFree D (gt ct) (mw o ct μ) [.ref (o 0), .int s] (fun v w => v = some (.int (pm_sf μ s)) ∧ w = mw o ct μ) := by
  refine gM_in RX3 rfl (by decide) (Nat.le_of_ble_eq_true rfl) (fun X C => ?_)
  refine gV_iconst (pc := 0) (v := 0) C dX3_isSectorFree_0 (by decide) ?_
  refine gV_istore_n (pc := 1) (lv' := [(2, .int 0), (0, .ref (o 0)), (1, .int s)]) C dX3_isSectorFree_1 rfl (by decide) rfl ?_
  exact mlp_isSectorFree C 300 0 rfl rfl
abbrev rm_X3_freeFrames : Room := { frames := 1, cells := 0, slots := 0, locals := 22 }
set_option maxHeartbeats 4000000 in
set_option maxRecDepth 100000 in
theorem mlp_freeFrames {X : gx_T} {D : va_G} {o : Nat → Nat} {ct : Nat → ClassId} {μ : pm_S} {F : Nat} (e1 : pm_I μ 1 = nI F) (hF : F ≤ 64) (C : gC X cX3_freeFrames 3 RX3 rm_X3_freeFrames (some .int) D (gt ct) (fun v w => v = some (.int (nI (pm_ff F μ))) ∧ w = mw o ct μ)) : ∀ d i : Nat, i + d = F → gV X 0 0 (mw o ct μ) 4 [(2, .int (nI i)), (1, .int (nI (ph_cN (fun f => decide (pm_bi μ (nI f) = -1)) i))), (0, .ref (o 0))] [] := by
  intro d
  induction d with
  | zero =>
    intro i hi
    have e : i = F := by omega
    rw [e]
    refine gV_iload_n (pc := 4) C dX3_freeFrames_4 0 rfl rfl ?_
    refine gV_aload_n (pc := 5) (x := o 0) C dX3_freeFrames_5 2 rfl rfl ?_
    refine mg_frames (pc := 6) C fl_X3_38 dX3_freeFrames_6 ?_
    rw [show pm_I μ 1 = nI F from e1]
    refine gV_icmp_ge (pc := 9) C 35 dX3_freeFrames_9 (by decide) (fun c_1 => ?_) (fun c_1 => ?_)
    · skip
      refine gV_iload_n (pc := 35) C dX3_freeFrames_35 1 rfl rfl ?_
      refine gV_iret (pc := 36) C dX3_freeFrames_36 (by decide) (by decide) ?_
      exact ⟨rfl, rfl⟩
    · exact absurd (nI_le (a := F) (b := F) (by omega) (by omega)) c_1
  | succ d ih =>
    intro i hi
    refine gV_iload_n (pc := 4) C dX3_freeFrames_4 0 rfl rfl ?_
    refine gV_aload_n (pc := 5) (x := o 0) C dX3_freeFrames_5 2 rfl rfl ?_
    refine mg_frames (pc := 6) C fl_X3_38 dX3_freeFrames_6 ?_
    rw [show pm_I μ 1 = nI F from e1]
    refine gV_icmp_ge (pc := 9) C 35 dX3_freeFrames_9 (by decide) (fun c_1 => ?_) (fun c_1 => ?_)
    · exact absurd c_1 (nI_ge (a := i) (b := F) (by omega) (by omega))
    · skip
      refine gV_iload_n (pc := 12) C dX3_freeFrames_12 1 rfl rfl ?_
      refine gV_aload_n (pc := 13) (x := o 0) C dX3_freeFrames_13 2 rfl rfl ?_
      refine gV_iload_n (pc := 14) C dX3_freeFrames_14 0 rfl rfl ?_
      refine gV_callV (pc := 15) (As := [.int (nI i)]) (rest := [.int (nI (ph_cN (fun f => decide (pm_bi μ (nI f) = -1)) i))]) C ml_X3_52 gy_X3_bodyIn gv_X3_bodyIn (d_bodyIn _) ⟨0, 3, _, _, rfl, rfl, rfl⟩ rfl rfl ⟨by decide, by decide⟩ (Nat.le_of_ble_eq_true rfl) (by decide) (by decide) dX3_freeFrames_15 ?_
      rintro _ _ ⟨rfl, rfl⟩
      refine gV_iconst (pc := 18) (v := (-1)) C dX3_freeFrames_18 (by decide) ?_
      refine gV_icmp_ne (pc := 19) C 26 dX3_freeFrames_19 (by decide) (fun c_2 => ?_) (fun c_2 => ?_)
      · skip
        refine gV_iconst (pc := 26) (v := 0) C dX3_freeFrames_26 (by decide) ?_
        refine gV_iadd (pc := 27) C dX3_freeFrames_27 ?_
        refine gV_istore_n (pc := 28) (lv' := [(1, .int ((nI (ph_cN (fun f => decide (pm_bi μ (nI f) = -1)) i)) + 0)), (2, .int (nI i)), (0, .ref (o 0))]) C dX3_freeFrames_28 rfl (by decide) rfl ?_
        refine gV_iinc (pc := 29) (v := nI (i + 1)) (lv' := [(2, .int (nI (i + 1))), (1, .int ((nI (ph_cN (fun f => decide (pm_bi μ (nI f) = -1)) i)) + 0)), (0, .ref (o 0))]) C dX3_freeFrames_29 1 rfl (nI_1 _) (by decide) rfl ?_
        refine gV_goto (pc := 32) C 4 dX3_freeFrames_32 (by decide) ?_
        refine gV_lv [0, 1, 2] rfl ?_
        rw [nI_p0]
        have hh := ih (i + 1) (by omega)
        rw [ph_cN_f (f := fun f => decide (pm_bi μ (nI f) = -1)) (n := i) (by simp [c_2])] at hh
        exact hh
      · skip
        refine gV_iconst (pc := 22) (v := 1) C dX3_freeFrames_22 (by decide) ?_
        refine gV_goto (pc := 23) C 27 dX3_freeFrames_23 (by decide) ?_
        refine gV_iadd (pc := 27) C dX3_freeFrames_27 ?_
        refine gV_istore_n (pc := 28) (lv' := [(1, .int ((nI (ph_cN (fun f => decide (pm_bi μ (nI f) = -1)) i)) + 1)), (2, .int (nI i)), (0, .ref (o 0))]) C dX3_freeFrames_28 rfl (by decide) rfl ?_
        refine gV_iinc (pc := 29) (v := nI (i + 1)) (lv' := [(2, .int (nI (i + 1))), (1, .int ((nI (ph_cN (fun f => decide (pm_bi μ (nI f) = -1)) i)) + 1)), (0, .ref (o 0))]) C dX3_freeFrames_29 1 rfl (nI_1 _) (by decide) rfl ?_
        refine gV_goto (pc := 32) C 4 dX3_freeFrames_32 (by decide) ?_
        refine gV_lv [0, 1, 2] rfl ?_
        rw [nI_1]
        have hh := ih (i + 1) (by omega)
        rw [ph_cN_t (f := fun f => decide (pm_bi μ (nI f) = -1)) (n := i) (by simp [c_2])] at hh
        exact hh
set_option maxHeartbeats 4000000 in
set_option maxRecDepth 100000 in
/-- freeFrames -/
theorem d_freeFrames {D : va_G} {o : Nat → Nat} {ct : Nat → ClassId} {μ : pm_S} {F : Nat} (e1 : pm_I μ 1 = nI F) (hF : F ≤ 64) : gM yX3_freeFrames cX3_freeFrames 3 (some .int) rm_X3_freeFrames D (gt ct) (mw o ct μ) [.ref (o 0)] (fun v w => v = some (.int (nI (pm_ff F μ))) ∧ w = mw o ct μ) := by
  refine gM_in RX3 rfl (by decide) (Nat.le_of_ble_eq_true rfl) (fun X C => ?_)
  refine gV_iconst (pc := 0) (v := 0) C dX3_freeFrames_0 (by decide) ?_
  refine gV_istore_n (pc := 1) (lv' := [(1, .int 0), (0, .ref (o 0))]) C dX3_freeFrames_1 rfl (by decide) rfl ?_
  refine gV_iconst (pc := 2) (v := 0) C dX3_freeFrames_2 (by decide) ?_
  refine gV_istore_n (pc := 3) (lv' := [(2, .int 0), (1, .int 0), (0, .ref (o 0))]) C dX3_freeFrames_3 rfl (by decide) rfl ?_
  exact mlp_freeFrames e1 hF C F 0 (Nat.zero_add _)
abbrev rm_X3_freeSectors : Room := { frames := 1, cells := 0, slots := 0, locals := 22 }
set_option maxHeartbeats 4000000 in
set_option maxRecDepth 100000 in
theorem mlp_freeSectors {X : gx_T} {D : va_G} {o : Nat → Nat} {ct : Nat → ClassId} {μ : pm_S} {S : Nat} (e2 : pm_I μ 2 = nI S) (hS : S ≤ 64) (C : gC X cX3_freeSectors 3 RX3 rm_X3_freeSectors (some .int) D (gt ct) (fun v w => v = some (.int (nI (pm_fs S μ))) ∧ w = mw o ct μ)) : ∀ d i : Nat, i + d = S → gV X 0 0 (mw o ct μ) 4 [(2, .int (nI i)), (1, .int (nI (ph_cN (fun s => decide (¬ pm_sf μ (nI s) = 0)) i))), (0, .ref (o 0))] [] := by
  intro d
  induction d with
  | zero =>
    intro i hi
    have e : i = S := by omega
    rw [e]
    refine gV_iload_n (pc := 4) C dX3_freeSectors_4 0 rfl rfl ?_
    refine gV_aload_n (pc := 5) (x := o 0) C dX3_freeSectors_5 2 rfl rfl ?_
    refine mg_sectors (pc := 6) C fl_X3_42 dX3_freeSectors_6 ?_
    rw [show pm_I μ 2 = nI S from e2]
    refine gV_icmp_ge (pc := 9) C 34 dX3_freeSectors_9 (by decide) (fun c_1 => ?_) (fun c_1 => ?_)
    · skip
      refine gV_iload_n (pc := 34) C dX3_freeSectors_34 1 rfl rfl ?_
      refine gV_iret (pc := 35) C dX3_freeSectors_35 (by decide) (by decide) ?_
      exact ⟨rfl, rfl⟩
    · exact absurd (nI_le (a := S) (b := S) (by omega) (by omega)) c_1
  | succ d ih =>
    intro i hi
    refine gV_iload_n (pc := 4) C dX3_freeSectors_4 0 rfl rfl ?_
    refine gV_aload_n (pc := 5) (x := o 0) C dX3_freeSectors_5 2 rfl rfl ?_
    refine mg_sectors (pc := 6) C fl_X3_42 dX3_freeSectors_6 ?_
    rw [show pm_I μ 2 = nI S from e2]
    refine gV_icmp_ge (pc := 9) C 34 dX3_freeSectors_9 (by decide) (fun c_1 => ?_) (fun c_1 => ?_)
    · exact absurd c_1 (nI_ge (a := i) (b := S) (by omega) (by omega))
    · skip
      refine gV_iload_n (pc := 12) C dX3_freeSectors_12 1 rfl rfl ?_
      refine gV_aload_n (pc := 13) (x := o 0) C dX3_freeSectors_13 2 rfl rfl ?_
      refine gV_iload_n (pc := 14) C dX3_freeSectors_14 0 rfl rfl ?_
      refine gV_callV (pc := 15) (As := [.int (nI i)]) (rest := [.int (nI (ph_cN (fun s => decide (¬ pm_sf μ (nI s) = 0)) i))]) C ml_X3_56 gy_X3_isSectorFree gv_X3_isSectorFree (d_isSectorFree _) ⟨0, 3, _, _, rfl, rfl, rfl⟩ rfl rfl ⟨by decide, by decide⟩ (Nat.le_of_ble_eq_true rfl) (by decide) (by decide) dX3_freeSectors_15 ?_
      rintro _ _ ⟨rfl, rfl⟩
      refine gV_if_eq (pc := 18) C 25 dX3_freeSectors_18 (by decide) (fun c_2 => ?_) (fun c_2 => ?_)
      · skip
        refine gV_iconst (pc := 25) (v := 0) C dX3_freeSectors_25 (by decide) ?_
        refine gV_iadd (pc := 26) C dX3_freeSectors_26 ?_
        refine gV_istore_n (pc := 27) (lv' := [(1, .int ((nI (ph_cN (fun s => decide (¬ pm_sf μ (nI s) = 0)) i)) + 0)), (2, .int (nI i)), (0, .ref (o 0))]) C dX3_freeSectors_27 rfl (by decide) rfl ?_
        refine gV_iinc (pc := 28) (v := nI (i + 1)) (lv' := [(2, .int (nI (i + 1))), (1, .int ((nI (ph_cN (fun s => decide (¬ pm_sf μ (nI s) = 0)) i)) + 0)), (0, .ref (o 0))]) C dX3_freeSectors_28 1 rfl (nI_1 _) (by decide) rfl ?_
        refine gV_goto (pc := 31) C 4 dX3_freeSectors_31 (by decide) ?_
        refine gV_lv [0, 1, 2] rfl ?_
        rw [nI_p0]
        have hh := ih (i + 1) (by omega)
        rw [ph_cN_f (f := fun s => decide (¬ pm_sf μ (nI s) = 0)) (n := i) (by simp [c_2])] at hh
        exact hh
      · skip
        refine gV_iconst (pc := 21) (v := 1) C dX3_freeSectors_21 (by decide) ?_
        refine gV_goto (pc := 22) C 26 dX3_freeSectors_22 (by decide) ?_
        refine gV_iadd (pc := 26) C dX3_freeSectors_26 ?_
        refine gV_istore_n (pc := 27) (lv' := [(1, .int ((nI (ph_cN (fun s => decide (¬ pm_sf μ (nI s) = 0)) i)) + 1)), (2, .int (nI i)), (0, .ref (o 0))]) C dX3_freeSectors_27 rfl (by decide) rfl ?_
        refine gV_iinc (pc := 28) (v := nI (i + 1)) (lv' := [(2, .int (nI (i + 1))), (1, .int ((nI (ph_cN (fun s => decide (¬ pm_sf μ (nI s) = 0)) i)) + 1)), (0, .ref (o 0))]) C dX3_freeSectors_28 1 rfl (nI_1 _) (by decide) rfl ?_
        refine gV_goto (pc := 31) C 4 dX3_freeSectors_31 (by decide) ?_
        refine gV_lv [0, 1, 2] rfl ?_
        rw [nI_1]
        have hh := ih (i + 1) (by omega)
        rw [ph_cN_t (f := fun s => decide (¬ pm_sf μ (nI s) = 0)) (n := i) (by simp [c_2])] at hh
        exact hh
set_option maxHeartbeats 4000000 in
set_option maxRecDepth 100000 in
/-- freeSectors -/
theorem d_freeSectors {D : va_G} {o : Nat → Nat} {ct : Nat → ClassId} {μ : pm_S} {S : Nat} (e2 : pm_I μ 2 = nI S) (hS : S ≤ 64) : gM yX3_freeSectors cX3_freeSectors 3 (some .int) rm_X3_freeSectors D (gt ct) (mw o ct μ) [.ref (o 0)] (fun v w => v = some (.int (nI (pm_fs S μ))) ∧ w = mw o ct μ) := by
  refine gM_in RX3 rfl (by decide) (Nat.le_of_ble_eq_true rfl) (fun X C => ?_)
  refine gV_iconst (pc := 0) (v := 0) C dX3_freeSectors_0 (by decide) ?_
  refine gV_istore_n (pc := 1) (lv' := [(1, .int 0), (0, .ref (o 0))]) C dX3_freeSectors_1 rfl (by decide) rfl ?_
  refine gV_iconst (pc := 2) (v := 0) C dX3_freeSectors_2 (by decide) ?_
  refine gV_istore_n (pc := 3) (lv' := [(2, .int 0), (1, .int 0), (0, .ref (o 0))]) C dX3_freeSectors_3 rfl (by decide) rfl ?_
  exact mlp_freeSectors e2 hS C S 0 (Nat.zero_add _)
abbrev rm_X3_holders : Room := { frames := 0, cells := 0, slots := 0, locals := 0 }
set_option maxHeartbeats 4000000 in
set_option maxRecDepth 100000 in
theorem mlp_holders {X : gx_T} {D : va_G} {o : Nat → Nat} {ct : Nat → ClassId} {μ : pm_S} {b : Int32}  (C : gC X cX3_holders 4 RX3 rm_X3_holders (some .int) D (gt ct) (fun v w => v = some (.int (nI (pm_ho μ b))) ∧ w = mw o ct μ)) : ∀ d i : Nat, i + d = 256 → gV X 0 0 (mw o ct μ) 4 [(3, .int (nI i)), (2, .int (nI (ph_cN (fun k => decide (pm_A μ 1 k = b)) i))), (0, .ref (o 0)), (1, .int b)] [] := by
  intro d
  induction d with
  | zero =>
    intro i hi
    have e : i = 256 := by omega
    rw [e]
    refine gV_iload_n (pc := 4) C dX3_holders_4 0 rfl rfl ?_
    refine gV_sipush (pc := 5) (v := 256) C dX3_holders_5 (by decide) ?_
    refine gV_icmp_ge (pc := 8) C 35 dX3_holders_8 (by decide) (fun c_1 => ?_) (fun c_1 => ?_)
    · skip
      refine gV_iload_n (pc := 35) C dX3_holders_35 1 rfl rfl ?_
      refine gV_iret (pc := 36) C dX3_holders_36 (by decide) (by decide) ?_
      exact ⟨rfl, rfl⟩
    · exact absurd (nI_le (a := 256) (b := 256) (by omega) (by omega)) c_1
  | succ d ih =>
    intro i hi
    refine gV_iload_n (pc := 4) C dX3_holders_4 0 rfl rfl ?_
    refine gV_sipush (pc := 5) (v := 256) C dX3_holders_5 (by decide) ?_
    refine gV_icmp_ge (pc := 8) C 35 dX3_holders_8 (by decide) (fun c_1 => ?_) (fun c_1 => ?_)
    · exact absurd c_1 (nI_ge (a := i) (b := 256) (by omega) (by omega))
    · skip
      refine gV_iload_n (pc := 11) C dX3_holders_11 1 rfl rfl ?_
      refine gV_aload_n (pc := 12) (x := o 0) C dX3_holders_12 2 rfl rfl ?_
      refine mg_bodyOf (pc := 13) C fl_X3_13 dX3_holders_13 ?_
      refine gV_iload_n (pc := 16) C dX3_holders_16 0 rfl rfl ?_
      refine ma_bodyOf (pc := 17) C (vp_in_nI (by omega) (by omega)) dX3_holders_17 ?_
      rw [nI_clamp (by omega)]
      refine gV_iload_n (pc := 18) C dX3_holders_18 3 rfl rfl ?_
      refine gV_icmp_ne (pc := 19) C 26 dX3_holders_19 (by decide) (fun c_2 => ?_) (fun c_2 => ?_)
      · skip
        refine gV_iconst (pc := 26) (v := 0) C dX3_holders_26 (by decide) ?_
        refine gV_iadd (pc := 27) C dX3_holders_27 ?_
        refine gV_istore_n (pc := 28) (lv' := [(2, .int ((nI (ph_cN (fun k => decide (pm_A μ 1 k = b)) i)) + 0)), (3, .int (nI i)), (0, .ref (o 0)), (1, .int b)]) C dX3_holders_28 rfl (by decide) rfl ?_
        refine gV_iinc (pc := 29) (v := nI (i + 1)) (lv' := [(3, .int (nI (i + 1))), (2, .int ((nI (ph_cN (fun k => decide (pm_A μ 1 k = b)) i)) + 0)), (0, .ref (o 0)), (1, .int b)]) C dX3_holders_29 1 rfl (nI_1 _) (by decide) rfl ?_
        refine gV_goto (pc := 32) C 4 dX3_holders_32 (by decide) ?_
        refine gV_lv [0, 1, 2, 3] rfl ?_
        rw [nI_p0]
        have hh := ih (i + 1) (by omega)
        rw [ph_cN_f (f := fun k => decide (pm_A μ 1 k = b)) (n := i) (by simp [c_2])] at hh
        exact hh
      · skip
        refine gV_iconst (pc := 22) (v := 1) C dX3_holders_22 (by decide) ?_
        refine gV_goto (pc := 23) C 27 dX3_holders_23 (by decide) ?_
        refine gV_iadd (pc := 27) C dX3_holders_27 ?_
        refine gV_istore_n (pc := 28) (lv' := [(2, .int ((nI (ph_cN (fun k => decide (pm_A μ 1 k = b)) i)) + 1)), (3, .int (nI i)), (0, .ref (o 0)), (1, .int b)]) C dX3_holders_28 rfl (by decide) rfl ?_
        refine gV_iinc (pc := 29) (v := nI (i + 1)) (lv' := [(3, .int (nI (i + 1))), (2, .int ((nI (ph_cN (fun k => decide (pm_A μ 1 k = b)) i)) + 1)), (0, .ref (o 0)), (1, .int b)]) C dX3_holders_29 1 rfl (nI_1 _) (by decide) rfl ?_
        refine gV_goto (pc := 32) C 4 dX3_holders_32 (by decide) ?_
        refine gV_lv [0, 1, 2, 3] rfl ?_
        rw [nI_1]
        have hh := ih (i + 1) (by omega)
        rw [ph_cN_t (f := fun k => decide (pm_A μ 1 k = b)) (n := i) (by simp [c_2])] at hh
        exact hh
set_option maxHeartbeats 4000000 in
set_option maxRecDepth 100000 in
/-- holders -/
theorem d_holders {D : va_G} {o : Nat → Nat} {ct : Nat → ClassId} {μ : pm_S} (b : Int32)  : gM yX3_holders cX3_holders 4 (some .int) rm_X3_holders D (gt ct) (mw o ct μ) [.ref (o 0), .int b] (fun v w => v = some (.int (nI (pm_ho μ b))) ∧ w = mw o ct μ) := by
  refine gM_in RX3 rfl (by decide) (Nat.le_of_ble_eq_true rfl) (fun X C => ?_)
  refine gV_iconst (pc := 0) (v := 0) C dX3_holders_0 (by decide) ?_
  refine gV_istore_n (pc := 1) (lv' := [(2, .int 0), (0, .ref (o 0)), (1, .int b)]) C dX3_holders_1 rfl (by decide) rfl ?_
  refine gV_iconst (pc := 2) (v := 0) C dX3_holders_2 (by decide) ?_
  refine gV_istore_n (pc := 3) (lv' := [(3, .int 0), (2, .int 0), (0, .ref (o 0)), (1, .int b)]) C dX3_holders_3 rfl (by decide) rfl ?_
  exact mlp_holders  C 256 0 (Nat.zero_add _)
