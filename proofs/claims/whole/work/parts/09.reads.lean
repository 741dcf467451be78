def ph_cp (σ : ph_S) : Int32 := nI (ph_cN (fun p => decide (¬ ph_hp σ (nI p) = 0)) 8)
def ph_cbB (σ : ph_S) (s : Nat) : Bool := match ph_R σ 1 s with
  | none => false
  | some a => decide (ph_B σ 1 a = -1)
def ph_cb (F S : Nat) (σ : ph_S) : Int32 := nI (F - ph_cf (ph_R σ 0) F + ph_cN (ph_cbB σ) S)
def ph_cdB (σ : ph_S) (f : Nat) : Bool := match ph_R σ 0 f with
  | none => false
  | some a => decide (¬ ph_B σ 4 a = 0)
def ph_cd (F : Nat) (σ : ph_S) : Int32 := nI (ph_cN (ph_cdB σ) F)
def ph_csB (σ : ph_S) (f : Nat) : Bool := match ph_R σ 0 f with
  | none => false
  | some a => decide (ph_B σ 2 a = -1)
def ph_cs (F : Nat) (σ : ph_S) : Int32 := nI (ph_cN (ph_csB σ) F)
def ph_lhG (σ : ph_S) (a : Nat) : Nat → Nat → Int32
  | 0, _ => -1
  | d + 1, i => if ph_R σ 2 ((nI i * 32 + ph_B σ 0 a).toNatClampNeg) = some a then nI i else ph_lhG σ a d (i + 1)
def ph_lh (σ : ph_S) (a : Nat) : Int32 := ph_lhG σ a 8 0
theorem slot_eq (p g : Nat) : nI p * 32 + nI g = nI (p * 32 + g) := by
  rw [show (32 : Int32) = nI 32 from rfl, pk_mul, nI_add]
theorem slot_in {p g : Nat} (hp : p < 8) (hg : g < 32) : vp_in (nI p * 32 + nI g) 256 := by
  rw [slot_eq]
  exact vp_in_nI (by omega) (by decide)
abbrev rm_X2_leastFreeProcess : Room := { frames := 0, cells := 0, slots := 0, locals := 0 }
set_option maxHeartbeats 4000000 in
set_option maxRecDepth 100000 in
theorem lp_leastFreeProcess {X : gx_T} {D : va_G} {ad : Nat → Nat} {ct : Nat → ClassId} {F S : Nat} {σ : ph_S} (C : gC X cX2_leastFreeProcess 2 RX2 rm_X2_leastFreeProcess (some .int) D (gt ct) (fun v w => v = some (.int (ph_lp σ)) ∧ w = cw ad ct F S σ)) : ∀ d i : Nat, i + d = 8 → ph_lpG σ d i = ph_lp σ → gV X 0 0 (cw ad ct F S σ) 2 [(1, .int (nI i)), (0, .ref (ad 0))] [] := by
  intro d
  induction d with
  | zero =>
    intro i hi hr
    refine gV_iload_n (pc := 2) C dX2_leastFreeProcess_2 0 rfl rfl ?_
    refine gV_bipush (pc := 3) (v := 8) C dX2_leastFreeProcess_3 (by decide) ?_
    refine gV_icmp_ge (pc := 5) C 25 dX2_leastFreeProcess_5 (by decide) (fun c_1 => ?_) (fun c_1 => ?_)
    · skip
      refine gV_iconst (pc := 25) (v := (-1)) C dX2_leastFreeProcess_25 (by decide) ?_
      refine gV_iret (pc := 26) C dX2_leastFreeProcess_26 (by decide) (by decide) ?_
      exact ⟨by rw [← hr]; rfl, rfl⟩
    · exact absurd (nI_le (a := 8) (b := i) (by omega) (by omega)) c_1
  | succ d ih =>
    intro i hi hr
    refine gV_iload_n (pc := 2) C dX2_leastFreeProcess_2 0 rfl rfl ?_
    refine gV_bipush (pc := 3) (v := 8) C dX2_leastFreeProcess_3 (by decide) ?_
    refine gV_icmp_ge (pc := 5) C 25 dX2_leastFreeProcess_5 (by decide) (fun c_1 => ?_) (fun c_1 => ?_)
    · exact absurd c_1 (nI_ge (a := i) (b := 8) (by omega) (by omega))
    · skip
      refine gV_aload_n (pc := 8) (x := ad 0) C dX2_leastFreeProcess_8 1 rfl rfl ?_
      refine cg_pageCounts (pc := 9) C fl_X2_34 dX2_leastFreeProcess_9 ?_
      refine gV_iload_n (pc := 12) C dX2_leastFreeProcess_12 0 rfl rfl ?_
      refine ca_pn (pc := 13) C (vp_in_nI (by omega) (by omega)) dX2_leastFreeProcess_13 ?_
      rw [nI_clamp (by omega)]
      refine gV_if_ne (pc := 14) C 19 dX2_leastFreeProcess_14 (by decide) (fun c_2 => ?_) (fun c_2 => ?_)
      · skip
        refine gV_iinc (pc := 19) (v := nI (i + 1)) (lv' := [(1, .int (nI (i + 1))), (0, .ref (ad 0))]) C dX2_leastFreeProcess_19 0 rfl (nI_1 _) (by decide) rfl ?_
        refine gV_goto (pc := 22) C 2 dX2_leastFreeProcess_22 (by decide) ?_
        exact ih (i + 1) (by omega) (by rw [← hr, ph_lpG, if_neg c_2])
      · skip
        refine gV_iload_n (pc := 17) C dX2_leastFreeProcess_17 0 rfl rfl ?_
        refine gV_iret (pc := 18) C dX2_leastFreeProcess_18 (by decide) (by decide) ?_
        exact ⟨by rw [← hr, ph_lpG, if_pos c_2], rfl⟩
set_option maxHeartbeats 4000000 in
set_option maxRecDepth 100000 in
/-- leastFreeProcess -/
theorem c_leastFreeProcess {D : va_G} {ad : Nat → Nat} {ct : Nat → ClassId} {F S : Nat} {σ : ph_S}  : gM yX2_leastFreeProcess cX2_leastFreeProcess 2 (some .int) rm_X2_leastFreeProcess D (gt ct) (cw ad ct F S σ) [.ref (ad 0)] (fun v w => v = some (.int (ph_lp σ)) ∧ w = cw ad ct F S σ) := by
  refine gM_in RX2 rfl (by decide) (Nat.le_of_ble_eq_true rfl) (fun X C => ?_)
  refine gV_iconst (pc := 0) (v := 0) C dX2_leastFreeProcess_0 (by decide) ?_
  refine gV_istore_n (pc := 1) (lv' := [(1, .int 0), (0, .ref (ad 0))]) C dX2_leastFreeProcess_1 rfl (by decide) rfl ?_
  exact lp_leastFreeProcess C 8 0 rfl rfl
abbrev rm_X2_hasProcess : Room := { frames := 0, cells := 0, slots := 0, locals := 0 }
set_option maxHeartbeats 4000000 in
set_option maxRecDepth 100000 in
/-- hasProcess -/
theorem c_hasProcess {D : va_G} {ad : Nat → Nat} {ct : Nat → ClassId} {F S : Nat} {σ : ph_S} (p : Int32) : gM yX2_hasProcess cX2_hasProcess 2 (some .boolean) rm_X2_hasProcess D (gt ct) (cw ad ct F S σ) [.ref (ad 0), .int p] (fun v w => v = some (.int (ph_hp σ p)) ∧ w = cw ad ct F S σ) := by
  refine gM_in RX2 rfl (by decide) (Nat.le_of_ble_eq_true rfl) (fun X C => ?_)
  refine gV_iload_n (pc := 0) C dX2_hasProcess_0 1 rfl rfl ?_
  refine gV_if_lt (pc := 1) C 23 dX2_hasProcess_1 (by decide) (fun c_1 => ?_) (fun c_1 => ?_)
  · skip
    refine gV_iconst (pc := 23) (v := 0) C dX2_hasProcess_23 (by decide) ?_
    refine gV_zret (pc := 24) C dX2_hasProcess_24 (by decide) (by decide) (by decide) ?_
    exact ⟨by rw [ph_hp, if_pos c_1], rfl⟩
  · skip
    refine gV_iload_n (pc := 4) C dX2_hasProcess_4 1 rfl rfl ?_
    refine gV_bipush (pc := 5) (v := 8) C dX2_hasProcess_5 (by decide) ?_
    refine gV_icmp_ge (pc := 7) C 23 dX2_hasProcess_7 (by decide) (fun c_2 => ?_) (fun c_2 => ?_)
    · skip
      refine gV_iconst (pc := 23) (v := 0) C dX2_hasProcess_23 (by decide) ?_
      refine gV_zret (pc := 24) C dX2_hasProcess_24 (by decide) (by decide) (by decide) ?_
      exact ⟨by rw [ph_hp, if_neg c_1, if_pos c_2], rfl⟩
    · skip
      refine gV_aload_n (pc := 10) (x := ad 0) C dX2_hasProcess_10 0 rfl rfl ?_
      refine cg_pageCounts (pc := 11) C fl_X2_34 dX2_hasProcess_11 ?_
      refine gV_iload_n (pc := 14) C dX2_hasProcess_14 1 rfl rfl ?_
      refine ca_pn (pc := 15) C (ix_cmp (N := 8) (by decide) c_1 c_2) dX2_hasProcess_15 ?_
      refine gV_if_le (pc := 16) C 23 dX2_hasProcess_16 (by decide) (fun c_3 => ?_) (fun c_3 => ?_)
      · skip
        refine gV_iconst (pc := 23) (v := 0) C dX2_hasProcess_23 (by decide) ?_
        refine gV_zret (pc := 24) C dX2_hasProcess_24 (by decide) (by decide) (by decide) ?_
        exact ⟨by rw [ph_hp, if_neg c_1, if_neg c_2, if_pos c_3], rfl⟩
      · skip
        refine gV_iconst (pc := 19) (v := 1) C dX2_hasProcess_19 (by decide) ?_
        refine gV_goto (pc := 20) C 24 dX2_hasProcess_20 (by decide) ?_
        refine gV_zret (pc := 24) C dX2_hasProcess_24 (by decide) (by decide) (by decide) ?_
        exact ⟨by rw [ph_hp, if_neg c_1, if_neg c_2, if_neg c_3], rfl⟩
abbrev rm_X2_hasPage : Room := { frames := 1, cells := 0, slots := 0, locals := 21 }
set_option maxHeartbeats 4000000 in
set_option maxRecDepth 100000 in
/-- hasPage -/
theorem c_hasPage {D : va_G} {ad : Nat → Nat} {ct : Nat → ClassId} {F S : Nat} {σ : ph_S} (p g : Int32) : gM yX2_hasPage cX2_hasPage 3 (some .boolean) rm_X2_hasPage D (gt ct) (cw ad ct F S σ) [.ref (ad 0), .int p, .int g] (fun v w => v = some (.int (ph_hg σ p g)) ∧ w = cw ad ct F S σ) := by
  refine gM_in RX2 rfl (by decide) (Nat.le_of_ble_eq_true rfl) (fun X C => ?_)
  refine gV_aload_n (pc := 0) (x := ad 0) C dX2_hasPage_0 0 rfl rfl ?_
  refine gV_iload_n (pc := 1) C dX2_hasPage_1 1 rfl rfl ?_
  refine gV_callV (pc := 2) (As := [.int p]) (rest := []) C ml_X2_48 gy_X2_hasProcess gv_X2_hasProcess (c_hasProcess _) ⟨0, 2, _, _, rfl, rfl, rfl⟩ rfl rfl ⟨by decide, by decide⟩ (Nat.le_of_ble_eq_true rfl) (by decide) (by decide) dX2_hasPage_2 ?_
  rintro _ _ ⟨rfl, rfl⟩
  refine gV_if_eq (pc := 5) C 26 dX2_hasPage_5 (by decide) (fun c_1 => ?_) (fun c_1 => ?_)
  · skip
    refine gV_iconst (pc := 26) (v := 0) C dX2_hasPage_26 (by decide) ?_
    refine gV_zret (pc := 27) C dX2_hasPage_27 (by decide) (by decide) (by decide) ?_
    exact ⟨by rw [ph_hg, if_pos c_1], rfl⟩
  · skip
    refine gV_iload_n (pc := 8) C dX2_hasPage_8 2 rfl rfl ?_
    refine gV_if_lt (pc := 9) C 26 dX2_hasPage_9 (by decide) (fun c_2 => ?_) (fun c_2 => ?_)
    · skip
      refine gV_iconst (pc := 26) (v := 0) C dX2_hasPage_26 (by decide) ?_
      refine gV_zret (pc := 27) C dX2_hasPage_27 (by decide) (by decide) (by decide) ?_
      exact ⟨by rw [ph_hg, if_neg c_1, if_pos c_2], rfl⟩
    · skip
      refine gV_iload_n (pc := 12) C dX2_hasPage_12 2 rfl rfl ?_
      refine gV_aload_n (pc := 13) (x := ad 0) C dX2_hasPage_13 0 rfl rfl ?_
      refine cg_pageCounts (pc := 14) C fl_X2_34 dX2_hasPage_14 ?_
      refine gV_iload_n (pc := 17) C dX2_hasPage_17 1 rfl rfl ?_
      refine ca_pn (pc := 18) C (ph_hp_vin c_1) dX2_hasPage_18 ?_
      refine gV_icmp_ge (pc := 19) C 26 dX2_hasPage_19 (by decide) (fun c_3 => ?_) (fun c_3 => ?_)
      · skip
        refine gV_iconst (pc := 26) (v := 0) C dX2_hasPage_26 (by decide) ?_
        refine gV_zret (pc := 27) C dX2_hasPage_27 (by decide) (by decide) (by decide) ?_
        exact ⟨by rw [ph_hg, if_neg c_1, if_neg c_2, if_pos c_3], rfl⟩
      · skip
        refine gV_iconst (pc := 22) (v := 1) C dX2_hasPage_22 (by decide) ?_
        refine gV_goto (pc := 23) C 27 dX2_hasPage_23 (by decide) ?_
        refine gV_zret (pc := 27) C dX2_hasPage_27 (by decide) (by decide) (by decide) ?_
        exact ⟨by rw [ph_hg, if_neg c_1, if_neg c_2, if_neg c_3], rfl⟩
abbrev rm_X2_slot : Room := { frames := 0, cells := 0, slots := 0, locals := 0 }
set_option maxHeartbeats 4000000 in
set_option maxRecDepth 100000 in
/-- slot -/
theorem c_slot {D : va_G} {ad : Nat → Nat} {ct : Nat → ClassId} {F S : Nat} {σ : ph_S} (p g : Int32) : gM yX2_slot cX2_slot 2 (some .int) rm_X2_slot D (gt ct) (cw ad ct F S σ) [.int p, .int g] (fun v w => v = some (.int (p * 32 + g)) ∧ w = cw ad ct F S σ) := by
  refine gM_in RX2 rfl (by decide) (Nat.le_of_ble_eq_true rfl) (fun X C => ?_)
  refine gV_iload_n (pc := 0) C dX2_slot_0 0 rfl rfl ?_
  refine gV_bipush (pc := 1) (v := 32) C dX2_slot_1 (by decide) ?_
  refine gV_imul (pc := 3) C dX2_slot_3 ?_
  refine gV_iload_n (pc := 4) C dX2_slot_4 1 rfl rfl ?_
  refine gV_iadd (pc := 5) C dX2_slot_5 ?_
  refine gV_iret (pc := 6) C dX2_slot_6 (by decide) (by decide) ?_
  exact ⟨rfl, rfl⟩
abbrev rm_X2_takesToRead : Room := { frames := 0, cells := 0, slots := 0, locals := 0 }
set_option maxHeartbeats 4000000 in
set_option maxRecDepth 100000 in
theorem c_takesToRead {D : va_G} {ad : Nat → Nat} {ct : Nat → ClassId} {F S : Nat} {σ : ph_S} (r : Option Nat) (hok : ph_ok F S σ) (hr : ∀ a, r = some a → a ∈ ph_L σ) : gM yX2_takesToRead cX2_takesToRead 1 (some .int) rm_X2_takesToRead D (gt ct) (cw ad ct F S σ) [va_rf r] (fun v w => v = some (.int (ph_tr σ r)) ∧ w = cw ad ct F S σ) := by
  cases r with
  | none =>
    refine gM_in RX2 rfl (by decide) (Nat.le_of_ble_eq_true rfl) (fun X C => ?_)
    refine gV_aloadq_n (pc := 0) (r := none) C dX2_takesToRead_0 0 rfl rfl ?_
    refine gV_ifnull (pc := 1) (r := none) C 16 dX2_takesToRead_1 (by decide) (fun _ => ?_) (fun _ h => nomatch h)
    refine gV_iconst (pc := 16) (v := 0) C dX2_takesToRead_16 (by decide) ?_
    refine gV_iret (pc := 17) C dX2_takesToRead_17 (by decide) (by decide) ?_
    exact ⟨rfl, rfl⟩
  | some a =>
    have m_a := hr a rfl
    refine gM_in RX2 rfl (by decide) (Nat.le_of_ble_eq_true rfl) (fun X C => ?_)
    refine gV_aload_n (pc := 0) (x := a) C dX2_takesToRead_0 0 rfl rfl ?_
    refine gV_ifnull (pc := 1) (r := some a) C 16 dX2_takesToRead_1 (by decide) (fun h => nomatch h) (fun _ _ => ?_)
    refine gV_aload_n (pc := 4) (x := a) C dX2_takesToRead_4 0 rfl rfl ?_
    refine cg_b_frame (pc := 5) (σ := σ) C m_a fl_X2_76 dX2_takesToRead_5 ?_
    refine gV_iconst (pc := 8) (v := (-1)) C dX2_takesToRead_8 (by decide) ?_
    refine gV_icmp_ne (pc := 9) C 16 dX2_takesToRead_9 (by decide) (fun c_1 => ?_) (fun c_1 => ?_)
    · skip
      refine gV_iconst (pc := 16) (v := 0) C dX2_takesToRead_16 (by decide) ?_
      refine gV_iret (pc := 17) C dX2_takesToRead_17 (by decide) (by decide) ?_
      exact ⟨by simp only [ph_tr]; rw [if_neg c_1], rfl⟩
    · skip
      refine gV_iconst (pc := 12) (v := 1) C dX2_takesToRead_12 (by decide) ?_
      refine gV_goto (pc := 13) C 17 dX2_takesToRead_13 (by decide) ?_
      refine gV_iret (pc := 17) C dX2_takesToRead_17 (by decide) (by decide) ?_
      exact ⟨by simp only [ph_tr]; rw [if_pos c_1], rfl⟩
abbrev rm_X2_takesToWrite : Room := { frames := 1, cells := 0, slots := 0, locals := 20 }
set_option maxHeartbeats 4000000 in
set_option maxRecDepth 100000 in
theorem c_takesToWrite {D : va_G} {ad : Nat → Nat} {ct : Nat → ClassId} {F S : Nat} {σ : ph_S} (r : Option Nat) (hok : ph_ok F S σ) (hr : ∀ a, r = some a → a ∈ ph_L σ) : gM yX2_takesToWrite cX2_takesToWrite 1 (some .int) rm_X2_takesToWrite D (gt ct) (cw ad ct F S σ) [va_rf r] (fun v w => v = some (.int (ph_tw σ r)) ∧ w = cw ad ct F S σ) := by
  cases r with
  | none =>
    refine gM_in RX2 rfl (by decide) (Nat.le_of_ble_eq_true rfl) (fun X C => ?_)
    refine gV_aloadq_n (pc := 0) (r := none) C dX2_takesToWrite_0 0 rfl rfl ?_
    refine gV_ifnonnull (pc := 1) (r := none) C 6 dX2_takesToWrite_1 (by decide) (fun _ h => nomatch h) (fun _ => ?_)
    refine gV_iconst (pc := 4) (v := 1) C dX2_takesToWrite_4 (by decide) ?_
    refine gV_iret (pc := 5) C dX2_takesToWrite_5 (by decide) (by decide) ?_
    exact ⟨rfl, rfl⟩
  | some a =>
    have m_a := hr a rfl
    refine gM_in RX2 rfl (by decide) (Nat.le_of_ble_eq_true rfl) (fun X C => ?_)
    refine gV_aload_n (pc := 0) (x := a) C dX2_takesToWrite_0 0 rfl rfl ?_
    refine gV_ifnonnull (pc := 1) (r := some a) C 6 dX2_takesToWrite_1 (by decide) (fun _ _ => ?_) (fun h => nomatch h)
    refine gV_aload_n (pc := 6) (x := a) C dX2_takesToWrite_6 0 rfl rfl ?_
    refine gV_callS (pc := 7) (As := [.ref a]) (rest := []) C ml_X2_66 gy_X2_takesToRead gs_X2_takesToRead (c_takesToRead (some a) hok hr)  rfl rfl ⟨by decide, by decide⟩ (Nat.le_of_ble_eq_true rfl) (by decide) (by decide) dX2_takesToWrite_7 ?_
    rintro _ _ ⟨rfl, rfl⟩
    refine gV_aload_n (pc := 10) (x := a) C dX2_takesToWrite_10 0 rfl rfl ?_
    refine cg_b_holders (pc := 11) (σ := σ) C m_a fl_X2_55 dX2_takesToWrite_11 ?_
    refine gV_iconst (pc := 14) (v := 1) C dX2_takesToWrite_14 (by decide) ?_
    refine gV_icmp_le (pc := 15) C 22 dX2_takesToWrite_15 (by decide) (fun c_1 => ?_) (fun c_1 => ?_)
    · skip
      refine gV_iconst (pc := 22) (v := 0) C dX2_takesToWrite_22 (by decide) ?_
      refine gV_iadd (pc := 23) C dX2_takesToWrite_23 ?_
      refine gV_iret (pc := 24) C dX2_takesToWrite_24 (by decide) (by decide) ?_
      exact ⟨by simp only [ph_tw]; rw [if_pos c_1], rfl⟩
    · skip
      refine gV_iconst (pc := 18) (v := 1) C dX2_takesToWrite_18 (by decide) ?_
      refine gV_goto (pc := 19) C 23 dX2_takesToWrite_19 (by decide) ?_
      refine gV_iadd (pc := 23) C dX2_takesToWrite_23 ?_
      refine gV_iret (pc := 24) C dX2_takesToWrite_24 (by decide) (by decide) ?_
      exact ⟨by simp only [ph_tw]; rw [if_neg c_1], rfl⟩
abbrev rm_X2_behind : Room := { frames := 0, cells := 0, slots := 0, locals := 0 }
set_option maxHeartbeats 4000000 in
set_option maxRecDepth 100000 in
/-- behind -/
theorem c_behind {D : va_G} {ad : Nat → Nat} {ct : Nat → ClassId} {F S : Nat} {σ : ph_S} (f : Int32) : gM yX2_behind cX2_behind 2 (some .int) rm_X2_behind D (gt ct) (cw ad ct F S σ) [.ref (ad 0), .int f] (fun v w => v = some (.int (ph_bh F f)) ∧ w = cw ad ct F S σ) := by
  refine gM_in RX2 rfl (by decide) (Nat.le_of_ble_eq_true rfl) (fun X C => ?_)
  refine gV_iload_n (pc := 0) C dX2_behind_0 1 rfl rfl ?_
  refine gV_iconst (pc := 1) (v := 1) C dX2_behind_1 (by decide) ?_
  refine gV_iadd (pc := 2) C dX2_behind_2 ?_
  refine gV_aload_n (pc := 3) (x := ad 0) C dX2_behind_3 0 rfl rfl ?_
  refine cg_used (pc := 4) C fl_X2_30 dX2_behind_4 ?_
  refine cl_us (pc := 7) C dX2_behind_7 ?_
  refine gV_icmp_ge (pc := 8) C 17 dX2_behind_8 (by decide) (fun c_1 => ?_) (fun c_1 => ?_)
  · skip
    refine gV_iconst (pc := 17) (v := 0) C dX2_behind_17 (by decide) ?_
    refine gV_iret (pc := 18) C dX2_behind_18 (by decide) (by decide) ?_
    exact ⟨by rw [ph_bh, if_pos c_1], rfl⟩
  · skip
    refine gV_iload_n (pc := 11) C dX2_behind_11 1 rfl rfl ?_
    refine gV_iconst (pc := 12) (v := 1) C dX2_behind_12 (by decide) ?_
    refine gV_iadd (pc := 13) C dX2_behind_13 ?_
    refine gV_goto (pc := 14) C 18 dX2_behind_14 (by decide) ?_
    refine gV_iret (pc := 18) C dX2_behind_18 (by decide) (by decide) ?_
    exact ⟨by rw [ph_bh, if_neg c_1], rfl⟩
