theorem lpG_in (σ : ph_S) : ∀ d i, ph_lpG σ d i = -1 ∨ ∃ j, j < i + d ∧ ph_lpG σ d i = nI j
  | 0, _ => Or.inl rfl
  | d + 1, i => by
    unfold ph_lpG; split
    · exact Or.inr ⟨i, by omega, rfl⟩
    · rcases lpG_in σ d (i + 1) with h | ⟨j, hj, h⟩
      · exact Or.inl h
      · exact Or.inr ⟨j, by omega, h⟩
theorem lp_in {σ : ph_S} (h : ¬ ph_lp σ = -1) : ∃ j, j < 8 ∧ ph_lp σ = nI j := by
  rcases lpG_in σ 8 0 with h1 | h1
  · exact absurd h1 h
  · exact h1
theorem lp_vin {σ : ph_S} (h : ¬ ph_lp σ = -1) : vp_in (ph_lp σ) 8 := by
  obtain ⟨j, hj, e⟩ := lp_in h
  rw [e]; exact vp_in_nI hj (by decide)
def ph_bgV (σ : ph_S) (m : Int32) : Int32 := if ph_lp σ = -1 then -1 else if m < 1 then -1 else if m ≤ 32 then ph_lp σ else -1
def ph_bgW (σ : ph_S) (m : Int32) : ph_S := if ph_lp σ = -1 then σ else if m < 1 then σ else if m ≤ 32 then ph_sA σ 3 (ph_lp σ).toNatClampNeg m else σ
def ph_fkS (P Q : Nat) (σ : ph_S) (i : Nat) : ph_S := match ph_R σ 2 (P * 32 + i) with
  | none => ph_sR σ 2 (Q * 32 + i) none
  | some a => ph_sB (ph_sR σ 2 (Q * 32 + i) (some a)) 3 a (ph_B (ph_sR σ 2 (Q * 32 + i) (some a)) 3 a + 1)
def ph_fkG (P Q : Nat) : Nat → Nat → ph_S → ph_S
  | 0, _, σ => σ
  | d + 1, i, σ => ph_fkG P Q d (i + 1) (ph_fkS P Q σ i)
def ph_fkV (σ : ph_S) (p : Int32) : Int32 := if ph_lp σ = -1 then -1 else if ph_hp σ p = 0 then -1 else ph_lp σ
def ph_fkW (σ : ph_S) (p : Int32) : ph_S := if ph_lp σ = -1 then σ else if ph_hp σ p = 0 then σ else ph_fkG p.toNatClampNeg (ph_lp σ).toNatClampNeg (ph_A σ 3 p.toNatClampNeg).toNatClampNeg 0 (ph_sA σ 3 (ph_lp σ).toNatClampNeg (ph_A σ 3 p.toNatClampNeg))
def ph_enG (F S P : Nat) : Nat → Nat → ph_S → ph_S
  | 0, _, σ => σ
  | d + 1, i, σ => ph_enG F S P d (i + 1) (ph_em F S σ (P * 32 + i))
def ph_enV (σ : ph_S) (p : Int32) : Int32 := if ph_hp σ p = 0 then 0 else 1
def ph_enW (F S : Nat) (σ : ph_S) (p : Int32) : ph_S := if ph_hp σ p = 0 then σ else ph_sA (ph_enG F S p.toNatClampNeg (ph_A σ 3 p.toNatClampNeg).toNatClampNeg 0 σ) 3 p.toNatClampNeg 0
theorem A_sR (σ : ph_S) (k j : Nat) (v : Option Nat) (k' j' : Nat) : ph_A (ph_sR σ k j v) k' j' = ph_A σ k' j' := rfl
theorem A_sB (σ : ph_S) (k j : Nat) (v : Int32) (k' j' : Nat) : ph_A (ph_sB σ k j v) k' j' = ph_A σ k' j' := rfl
theorem A_sI (σ : ph_S) (k : Nat) (v : Int32) (k' j' : Nat) : ph_A (ph_sI σ k v) k' j' = ph_A σ k' j' := rfl
theorem rel2_A (S : Nat) (σ : ph_S) (a k j : Nat) : ph_A (ph_rel2 S σ a) k j = ph_A σ k j := by
  unfold ph_rel2; split
  · rfl
  · rw [A_sR]
theorem rel_A3 (F S : Nat) (σ : ph_S) (a j : Nat) : ph_A (ph_rel F S σ a) 3 j = ph_A σ 3 j := by
  unfold ph_rel; split
  · rw [rel2_A]
  · rw [rel2_A]; unfold ph_rel1; rw [A_sA, if_neg (by omega), A_sR]
theorem em1_A (σ : ph_S) (s a k j : Nat) : ph_A (ph_em1 σ s a) k j = ph_A σ k j := by
  unfold ph_em1; rw [A_sB, A_sR]
theorem em_A3 (F S : Nat) (σ : ph_S) (s j : Nat) : ph_A (ph_em F S σ s) 3 j = ph_A σ 3 j := by
  unfold ph_em; split
  · rfl
  · unfold ph_em2; split
    · rw [rel_A3, em1_A]
    · rw [em1_A]
theorem hg_in {σ : ph_S} {p g : Int32} (h : ¬ ph_hg σ p g = 0) : ¬ ph_hp σ p = 0 ∧ ¬ g < 0 ∧ ¬ ph_A σ 3 p.toNatClampNeg ≤ g := by
  unfold ph_hg at h
  split at h
  · exact absurd rfl h
  · split at h
    · exact absurd rfl h
    · split at h
      · exact absurd rfl h
      · exact ⟨by assumption, by assumption, by assumption⟩
theorem hg_nat {F S : Nat} {σ : ph_S} {p g : Int32} (hok : ph_ok F S σ) (h : ¬ ph_hg σ p g = 0) : ∃ P G m, P < 8 ∧ G < m ∧ m ≤ 32 ∧ p = nI P ∧ g = nI G ∧ ph_A σ 3 P = nI m := by
  obtain ⟨h1, h2, h3⟩ := hg_in h
  obtain ⟨P, hP, rfl⟩ := vp_in_of (ph_hp_vin h1) (by decide)
  obtain ⟨m, hm, e⟩ := hok.pn hP
  obtain ⟨G, hG, rfl⟩ := nI_of h2
  rw [nI_clamp (by omega), e] at h3
  exact ⟨P, G, m, hP, Nat.lt_of_not_le fun z => h3 (nI_le z hG), hm, rfl, rfl, e⟩
theorem hg_slot {F S : Nat} {σ : ph_S} {p g : Int32} (hok : ph_ok F S σ) (h : ¬ ph_hg σ p g = 0) : vp_in (p * 32 + g) 256 := by
  obtain ⟨P, G, m, h1, h2, h3, rfl, rfl, -⟩ := hg_nat hok h
  exact slot_in h1 (by omega)
def ph_drV (σ : ph_S) (p g : Int32) : Int32 := if ph_hg σ p g = 0 then 0 else ph_emV σ (p * 32 + g).toNatClampNeg
def ph_drW (F S : Nat) (σ : ph_S) (p g : Int32) : ph_S := if ph_hg σ p g = 0 then σ else ph_em F S σ (p * 32 + g).toNatClampNeg
theorem emV_01 (σ : ph_S) (s : Nat) : ph_emV σ s = 0 ∨ ph_emV σ s = 1 := by
  unfold ph_emV; split
  · exact Or.inl rfl
  · exact Or.inr rfl
def ph_flG (F S : Nat) : Nat → Nat → ph_S → ph_S
  | 0, _, σ => σ
  | d + 1, i, σ => match ph_R σ 0 i with
    | none => ph_flG F S d (i + 1) σ
    | some a => if ph_B σ 4 a = 0 then ph_flG F S d (i + 1) σ else ph_flG F S d (i + 1) (ph_st F S σ a)
def ph_flN (F S : Nat) : Nat → Nat → ph_S → Nat
  | 0, _, _ => 0
  | d + 1, i, σ => match ph_R σ 0 i with
    | none => ph_flN F S d (i + 1) σ
    | some a => if ph_B σ 4 a = 0 then ph_flN F S d (i + 1) σ else ph_flN F S d (i + 1) (ph_st F S σ a) + 1
def ph_flV (F S : Nat) (σ : ph_S) : Int32 := if ph_cs F σ ≤ nI (ph_cf (ph_R σ 1) S) then nI (ph_flN F S F 0 σ) else -1
def ph_flW (F S : Nat) (σ : ph_S) : ph_S := if ph_cs F σ ≤ nI (ph_cf (ph_R σ 1) S) then ph_flG F S F 0 σ else σ
def ph_pg2 (σ : ph_S) (r : Option Nat) (w : Int32) : Int32 := match r with
  | none => if w = 0 then -1 else if w = 1 then -1 else if w = 2 then 0 else if w = 3 then 0 else -1
  | some a => if w = 0 then ph_B σ 1 a else if w = 1 then ph_B σ 2 a else if w = 2 then ph_B σ 3 a else if w = 3 then (if ph_B σ 4 a = 0 then 0 else 1) else -1
def ph_pgV (σ : ph_S) (p g w : Int32) : Int32 := if ph_hg σ p g = 0 then -1 else ph_pg2 σ (ph_R σ 2 (p * 32 + g).toNatClampNeg) w
def ph_fr3 (σ : ph_S) (r : Option Nat) (f w : Int32) : Int32 := match r with
  | none => if w = 0 then (if ph_A σ 2 f.toNatClampNeg = 0 then 0 else 1) else if w = 1 then -1 else if w = 2 then -1 else -1
  | some a => if w = 0 then (if ph_A σ 2 f.toNatClampNeg = 0 then 0 else 1) else if w = 1 then ph_lh σ a else if w = 2 then ph_B σ 0 a else -1
def ph_fr2 (σ : ph_S) (f w : Int32) : Int32 := ph_fr3 σ (ph_R σ 0 f.toNatClampNeg) f w
def ph_frV (F : Nat) (σ : ph_S) (f w : Int32) : Int32 := if ph_has F f = 0 then -1 else if w < 16 then ph_fr2 σ f w else if 32 ≤ w then ph_fr2 σ f w else ph_A σ 0 (f * 16 + w - 16).toNatClampNeg
def ph_lkV (F S : Nat) (σ : ph_S) (w : Int32) : Int32 := if w = 0 then ph_cp σ else if w = 1 then nI (ph_cf (ph_R σ 0) F) else if w = 2 then nI (ph_cf (ph_R σ 1) S) else if w = 3 then ph_I σ 0 else if w = 4 then ph_cb F S σ else if w = 5 then ph_cd F σ else if w = 6 then ph_I σ 1 else if w = 7 then ph_I σ 2 else if w = 8 then ph_I σ 3 else if w = 9 then ph_I σ 4 else if w = 10 then ph_I σ 5 else -1
theorem wd_in {F f : Nat} {w : Int32} (hF : F ≤ 64) (hf : f < F) (h1 : ¬ w < 16) (h2 : ¬ 32 ≤ w) : ∃ j, j < 16 ∧ w = nI (16 + j) ∧ nI f * 16 + w - 16 = nI (16 * f + j) := by
  have h0 : ¬ w < 0 := fun z => h1 (Int32.lt_trans z (by decide))
  obtain ⟨x, hx, rfl⟩ := nI_of h0
  have g1 : 16 ≤ x := Nat.le_of_not_lt fun z => h1 (nI_lt z (by decide))
  have g2 : x < 32 := Nat.lt_of_not_le fun z => h2 (nI_le z hx)
  refine ⟨x - 16, by omega, by congr 1; omega, ?_⟩
  rw [mul16, nI_add, show (16 : Int32) = nI 16 from rfl, pk_sub (by omega)]
  congr 1; omega
abbrev rm_X2_begin : Room := { frames := 1, cells := 0, slots := 0, locals := 21 }
set_option maxHeartbeats 4000000 in
set_option maxRecDepth 100000 in
/-- begin -/
theorem c_begin {D : va_G} {ad : Nat → Nat} {ct : Nat → ClassId} {F S : Nat} {σ : ph_S} (m : Int32) : gM yX2_begin cX2_begin 3 (some .int) rm_X2_begin D (gt ct) (cw ad ct F S σ) [.ref (ad 0), .int m] (fun v w => v = some (.int (ph_bgV σ m)) ∧ w = cw ad ct F S (ph_bgW σ m)) := by
  refine gM_in RX2 rfl (by decide) (Nat.le_of_ble_eq_true rfl) (fun X C => ?_)
  refine gV_aload_n (pc := 0) (x := ad 0) C dX2_begin_0 0 rfl rfl ?_
  refine gV_callV (pc := 1) (As := []) (rest := []) C ml_X2_44 gy_X2_leastFreeProcess gv_X2_leastFreeProcess (c_leastFreeProcess) ⟨0, 2, _, _, rfl, rfl, rfl⟩ rfl rfl ⟨by decide, by decide⟩ (Nat.le_of_ble_eq_true rfl) (by decide) (by decide) dX2_begin_1 ?_
  rintro _ _ ⟨rfl, rfl⟩
  refine gV_istore_n (pc := 4) (lv' := [(2, .int (ph_lp σ)), (0, .ref (ad 0)), (1, .int m)]) C dX2_begin_4 rfl (by decide) rfl ?_
  refine gV_iload_n (pc := 5) C dX2_begin_5 0 rfl rfl ?_
  refine gV_iconst (pc := 6) (v := (-1)) C dX2_begin_6 (by decide) ?_
  refine gV_icmp_eq (pc := 7) C 21 dX2_begin_7 (by decide) (fun c_1 => ?_) (fun c_1 => ?_)
  · skip
    refine gV_iconst (pc := 21) (v := (-1)) C dX2_begin_21 (by decide) ?_
    refine gV_iret (pc := 22) C dX2_begin_22 (by decide) (by decide) ?_
    exact ⟨by rw [ph_bgV, if_pos c_1], by rw [ph_bgW, if_pos c_1]⟩
  · skip
    refine gV_iload_n (pc := 10) C dX2_begin_10 2 rfl rfl ?_
    refine gV_iconst (pc := 11) (v := 1) C dX2_begin_11 (by decide) ?_
    refine gV_icmp_lt (pc := 12) C 21 dX2_begin_12 (by decide) (fun c_2 => ?_) (fun c_2 => ?_)
    · skip
      refine gV_iconst (pc := 21) (v := (-1)) C dX2_begin_21 (by decide) ?_
      refine gV_iret (pc := 22) C dX2_begin_22 (by decide) (by decide) ?_
      exact ⟨by rw [ph_bgV, if_neg c_1, if_pos c_2], by rw [ph_bgW, if_neg c_1, if_pos c_2]⟩
    · skip
      refine gV_iload_n (pc := 15) C dX2_begin_15 2 rfl rfl ?_
      refine gV_bipush (pc := 16) (v := 32) C dX2_begin_16 (by decide) ?_
      refine gV_icmp_le (pc := 18) C 23 dX2_begin_18 (by decide) (fun c_3 => ?_) (fun c_3 => ?_)
      · skip
        refine gV_aload_n (pc := 23) (x := ad 0) C dX2_begin_23 1 rfl rfl ?_
        refine cg_pageCounts (pc := 24) C fl_X2_34 dX2_begin_24 ?_
        refine gV_iload_n (pc := 27) C dX2_begin_27 0 rfl rfl ?_
        refine gV_iload_n (pc := 28) C dX2_begin_28 2 rfl rfl ?_
        refine cs_pn (pc := 29) C (lp_vin c_1) dX2_begin_29 ?_
        refine gV_iload_n (pc := 30) C dX2_begin_30 0 rfl rfl ?_
        refine gV_iret (pc := 31) C dX2_begin_31 (by decide) (by decide) ?_
        exact ⟨by rw [ph_bgV, if_neg c_1, if_neg c_2, if_pos c_3], by rw [ph_bgW, if_neg c_1, if_neg c_2, if_pos c_3]⟩
      · skip
        refine gV_iconst (pc := 21) (v := (-1)) C dX2_begin_21 (by decide) ?_
        refine gV_iret (pc := 22) C dX2_begin_22 (by decide) (by decide) ?_
        exact ⟨by rw [ph_bgV, if_neg c_1, if_neg c_2, if_neg c_3], by rw [ph_bgW, if_neg c_1, if_neg c_2, if_neg c_3]⟩
abbrev rm_X2_fork : Room := { frames := 1, cells := 0, slots := 0, locals := 21 }
set_option maxHeartbeats 4000000 in
set_option maxRecDepth 100000 in
theorem lp_fork {X : gx_T} {D : va_G} {ad : Nat → Nat} {ct : Nat → ClassId} {F S : Nat} {σ : ph_S} {P Q m : Nat} (hP : P < 8) (hQ : Q < 8) (hm : m ≤ 32) (hv : ph_fkV σ (nI P) = nI Q) (C : gC X cX2_fork 5 RX2 rm_X2_fork (some .int) D (gt ct) (fun v w => v = some (.int (ph_fkV σ (nI P))) ∧ w = cw ad ct F S (ph_fkW σ (nI P)))) : ∀ (d i : Nat) (τ : ph_S), i + d = m → ph_ok F S τ → ph_A τ 3 P = nI m → ph_fkG P Q d i τ = ph_fkW σ (nI P) → gV X 0 0 (cw ad ct F S τ) 34 [(3, .int (nI i)), (2, .int (nI Q)), (0, .ref (ad 0)), (1, .int (nI P))] [] := by
  intro d
  induction d with
  | zero =>
    intro i τ hi hok hA hr
    have e : τ = ph_fkW σ (nI P) := hr
    refine gV_iload_n (pc := 34) C dX2_fork_34 0 rfl rfl ?_
    refine gV_aload_n (pc := 35) (x := ad 0) C dX2_fork_35 2 rfl rfl ?_
    refine cg_pageCounts (pc := 36) C fl_X2_34 dX2_fork_36 ?_
    refine gV_iload_n (pc := 39) C dX2_fork_39 3 rfl rfl ?_
    refine ca_pn (pc := 40) C (vp_in_nI (by omega) (by omega)) dX2_fork_40 ?_
    rw [nI_clamp (by omega)]
    rw [hA]
    refine gV_icmp_ge (pc := 41) C 90 dX2_fork_41 (by decide) (fun c_1 => ?_) (fun c_1 => ?_)
    · skip
      refine gV_iload_n (pc := 90) C dX2_fork_90 1 rfl rfl ?_
      refine gV_iret (pc := 91) C dX2_fork_91 (by decide) (by decide) ?_
      exact ⟨by rw [hv], by rw [e]⟩
    · exact absurd (nI_le (by omega) (by omega)) c_1
  | succ d ih =>
    intro i τ hi hok hA hr
    refine gV_iload_n (pc := 34) C dX2_fork_34 0 rfl rfl ?_
    refine gV_aload_n (pc := 35) (x := ad 0) C dX2_fork_35 2 rfl rfl ?_
    refine cg_pageCounts (pc := 36) C fl_X2_34 dX2_fork_36 ?_
    refine gV_iload_n (pc := 39) C dX2_fork_39 3 rfl rfl ?_
    refine ca_pn (pc := 40) C (vp_in_nI (by omega) (by omega)) dX2_fork_40 ?_
    rw [nI_clamp (by omega)]
    rw [hA]
    refine gV_icmp_ge (pc := 41) C 90 dX2_fork_41 (by decide) (fun c_1 => ?_) (fun c_1 => ?_)
    · exact absurd c_1 (nI_ge (by omega) (by omega))
    · skip
      refine gV_aload_n (pc := 44) (x := ad 0) C dX2_fork_44 2 rfl rfl ?_
      refine cg_bodies (pc := 45) C fl_X2_40 dX2_fork_45 ?_
      refine gV_iload_n (pc := 48) C dX2_fork_48 3 rfl rfl ?_
      refine gV_iload_n (pc := 49) C dX2_fork_49 0 rfl rfl ?_
      refine gV_callS (pc := 50) (As := [.int (nI P), .int (nI i)]) (rest := [.ref (ad 9)]) C ml_X2_52 gy_X2_slot gs_X2_slot (c_slot _ _)  rfl rfl ⟨by decide, by decide⟩ (Nat.le_of_ble_eq_true rfl) (by decide) (by decide) dX2_fork_50 ?_
      rintro _ _ ⟨rfl, rfl⟩
      rw [slot_eq]
      refine ca_bo (pc := 53) C (vp_in_nI (by omega) (by omega)) dX2_fork_53 ?_
      rw [nI_clamp (by omega)]
      cases er_2 : ph_R (τ) 2 (P * 32 + i) with
      | none =>
        refine gV_astoreq (pc := 54) (r := none) (lv' := [(4, .null), (3, .int (nI i)), (2, .int (nI Q)), (0, .ref (ad 0)), (1, .int (nI P))]) C dX2_fork_54 (by decide) rfl ?_
        refine gV_aload_n (pc := 56) (x := ad 0) C dX2_fork_56 3 rfl rfl ?_
        refine cg_bodies (pc := 57) C fl_X2_40 dX2_fork_57 ?_
        refine gV_iload_n (pc := 60) C dX2_fork_60 2 rfl rfl ?_
        refine gV_iload_n (pc := 61) C dX2_fork_61 1 rfl rfl ?_
        refine gV_callS (pc := 62) (As := [.int (nI Q), .int (nI i)]) (rest := [.ref (ad 9)]) C ml_X2_52 gy_X2_slot gs_X2_slot (c_slot _ _)  rfl rfl ⟨by decide, by decide⟩ (Nat.le_of_ble_eq_true rfl) (by decide) (by decide) dX2_fork_62 ?_
        rintro _ _ ⟨rfl, rfl⟩
        rw [slot_eq]
        refine gV_aloadq (pc := 65) (r := none) C dX2_fork_65 0 rfl ?_
        refine cs_bo_n (pc := 67) C (vp_in_nI (by omega) (by omega)) dX2_fork_67 ?_
        rw [nI_clamp (by omega)]
        refine gV_aloadq (pc := 68) (r := none) C dX2_fork_68 0 rfl ?_
        refine gV_ifnull (pc := 70) (r := none) C 84 dX2_fork_70 (by decide) (fun _ => ?_) (fun _ h => nomatch h)
        refine gV_iinc (pc := 84) (v := nI (i + 1)) (lv' := [(3, .int (nI (i + 1))), (4, .null), (2, .int (nI Q)), (0, .ref (ad 0)), (1, .int (nI P))]) C dX2_fork_84 1 rfl (nI_1 _) (by decide) rfl ?_
        refine gV_goto (pc := 87) C 34 dX2_fork_87 (by decide) ?_
        refine gV_lv [0, 2, 3, 4] rfl ?_
        exact ih (i + 1) _ (by omega) (ok_sRn hok _ _) hA (by rw [← hr, ph_fkG, ph_fkS, er_2])
      | some a_2 =>
        have m_2 : a_2 ∈ ph_L (τ) := hok.refs _ _ _ er_2
        refine gV_astore (pc := 54) (x := a_2) (lv' := [(4, .ref a_2), (3, .int (nI i)), (2, .int (nI Q)), (0, .ref (ad 0)), (1, .int (nI P))]) C dX2_fork_54 (by decide) rfl ?_
        refine gV_aload_n (pc := 56) (x := ad 0) C dX2_fork_56 3 rfl rfl ?_
        refine cg_bodies (pc := 57) C fl_X2_40 dX2_fork_57 ?_
        refine gV_iload_n (pc := 60) C dX2_fork_60 2 rfl rfl ?_
        refine gV_iload_n (pc := 61) C dX2_fork_61 1 rfl rfl ?_
        refine gV_callS (pc := 62) (As := [.int (nI Q), .int (nI i)]) (rest := [.ref (ad 9)]) C ml_X2_52 gy_X2_slot gs_X2_slot (c_slot _ _)  rfl rfl ⟨by decide, by decide⟩ (Nat.le_of_ble_eq_true rfl) (by decide) (by decide) dX2_fork_62 ?_
        rintro _ _ ⟨rfl, rfl⟩
        rw [slot_eq]
        refine gV_aload (pc := 65) (x := a_2) C dX2_fork_65 0 rfl ?_
        refine cs_bo (pc := 67) (σ := τ) C m_2 (vp_in_nI (by omega) (by omega)) dX2_fork_67 ?_
        rw [nI_clamp (by omega)]
        refine gV_aload (pc := 68) (x := a_2) C dX2_fork_68 0 rfl ?_
        refine gV_ifnull (pc := 70) (r := some a_2) C 84 dX2_fork_70 (by decide) (fun h => nomatch h) (fun _ _ => ?_)
        refine gV_aload (pc := 73) (x := a_2) C dX2_fork_73 0 rfl ?_
        refine gV_dup (pc := 75) C dX2_fork_75 rfl ?_
        refine cg_b_holders (pc := 76) (σ := ph_sR (τ) 2 (Q * 32 + i) (some a_2)) C m_2 fl_X2_55 dX2_fork_76 ?_
        refine gV_iconst (pc := 79) (v := 1) C dX2_fork_79 (by decide) ?_
        refine gV_iadd (pc := 80) C dX2_fork_80 ?_
        refine cp_b_holders (pc := 81) (σ := ph_sR (τ) 2 (Q * 32 + i) (some a_2)) C m_2 fl_X2_55 dX2_fork_81 ?_
        refine gV_iinc (pc := 84) (v := nI (i + 1)) (lv' := [(3, .int (nI (i + 1))), (4, .ref a_2), (2, .int (nI Q)), (0, .ref (ad 0)), (1, .int (nI P))]) C dX2_fork_84 1 rfl (nI_1 _) (by decide) rfl ?_
        refine gV_goto (pc := 87) C 34 dX2_fork_87 (by decide) ?_
        refine gV_lv [0, 2, 3, 4] rfl ?_
        exact ih (i + 1) _ (by omega) (ok_ho (ok_sR hok _ _ m_2) _ _) hA (by rw [← hr, ph_fkG, ph_fkS, er_2])
theorem lpG_zero (σ : ph_S) : ∀ d i j, ph_lpG σ d i = nI j → i + d ≤ 8 → j < 8 → ph_A σ 3 j = 0
  | 0, _, j, h, _, hj => absurd h (by
      intro e
      have : (nI j).toInt = (-1 : Int32).toInt := by rw [← e]; rfl
      rw [nI_toInt (by omega), show (-1 : Int32).toInt = -1 by decide] at this
      omega)
  | d + 1, i, j, h, hi, hj => by
    unfold ph_lpG at h
    split at h
    · rename_i h0
      rw [(nI_eq (by omega) (by omega)).mp h] at h0
      exact h0
    · exact lpG_zero σ d (i + 1) j h (by omega) hj
theorem lp_zero {σ : ph_S} {j : Nat} (h : ph_lp σ = nI j) (hj : j < 8) : ph_A σ 3 j = 0 := lpG_zero σ 8 0 j h (by omega) hj
set_option maxHeartbeats 4000000 in
set_option maxRecDepth 100000 in
/-- fork -/
theorem c_fork {D : va_G} {ad : Nat → Nat} {ct : Nat → ClassId} {F S : Nat} {σ : ph_S} (p : Int32) (hok : ph_ok F S σ) : gM yX2_fork cX2_fork 5 (some .int) rm_X2_fork D (gt ct) (cw ad ct F S σ) [.ref (ad 0), .int p] (fun v w => v = some (.int (ph_fkV σ p)) ∧ w = cw ad ct F S (ph_fkW σ p)) := by
  refine gM_in RX2 rfl (by decide) (Nat.le_of_ble_eq_true rfl) (fun X C => ?_)
  have hF := hok.F16
  have hS := hok.S64
  refine gV_aload_n (pc := 0) (x := ad 0) C dX2_fork_0 0 rfl rfl ?_
  refine gV_callV (pc := 1) (As := []) (rest := []) C ml_X2_44 gy_X2_leastFreeProcess gv_X2_leastFreeProcess (c_leastFreeProcess) ⟨0, 2, _, _, rfl, rfl, rfl⟩ rfl rfl ⟨by decide, by decide⟩ (Nat.le_of_ble_eq_true rfl) (by decide) (by decide) dX2_fork_1 ?_
  rintro _ _ ⟨rfl, rfl⟩
  refine gV_istore_n (pc := 4) (lv' := [(2, .int (ph_lp σ)), (0, .ref (ad 0)), (1, .int p)]) C dX2_fork_4 rfl (by decide) rfl ?_
  refine gV_iload_n (pc := 5) C dX2_fork_5 0 rfl rfl ?_
  refine gV_iconst (pc := 6) (v := (-1)) C dX2_fork_6 (by decide) ?_
  refine gV_icmp_eq (pc := 7) C 18 dX2_fork_7 (by decide) (fun c_1 => ?_) (fun c_1 => ?_)
  · skip
    refine gV_iconst (pc := 18) (v := (-1)) C dX2_fork_18 (by decide) ?_
    refine gV_iret (pc := 19) C dX2_fork_19 (by decide) (by decide) ?_
    exact ⟨by rw [ph_fkV, if_pos c_1], by rw [ph_fkW, if_pos c_1]⟩
  · skip
    refine gV_aload_n (pc := 10) (x := ad 0) C dX2_fork_10 1 rfl rfl ?_
    refine gV_iload_n (pc := 11) C dX2_fork_11 2 rfl rfl ?_
    refine gV_callV (pc := 12) (As := [.int p]) (rest := []) C ml_X2_48 gy_X2_hasProcess gv_X2_hasProcess (c_hasProcess _) ⟨0, 2, _, _, rfl, rfl, rfl⟩ rfl rfl ⟨by decide, by decide⟩ (Nat.le_of_ble_eq_true rfl) (by decide) (by decide) dX2_fork_12 ?_
    rintro _ _ ⟨rfl, rfl⟩
    refine gV_if_ne (pc := 15) C 20 dX2_fork_15 (by decide) (fun c_2 => ?_) (fun c_2 => ?_)
    · skip
      obtain ⟨P, hP, rfl⟩ := vp_in_of (ph_hp_vin c_2) (by decide)
      obtain ⟨Q, hQ, eQ⟩ := lp_in c_1
      obtain ⟨m, hm, em⟩ := hok.pn hP
      have eP : (nI P).toNatClampNeg = P := nI_clamp (by omega)
      have hQP : ¬ P = Q := fun e => by
        have h9 := (ph_hp_in c_2).2.2
        rw [eP, e] at h9
        exact h9 (by rw [lp_zero eQ hQ]; decide)
      rw [eQ]
      refine gV_aload_n (pc := 20) (x := ad 0) C dX2_fork_20 1 rfl rfl ?_
      refine cg_pageCounts (pc := 21) C fl_X2_34 dX2_fork_21 ?_
      refine gV_iload_n (pc := 24) C dX2_fork_24 0 rfl rfl ?_
      refine gV_aload_n (pc := 25) (x := ad 0) C dX2_fork_25 1 rfl rfl ?_
      refine cg_pageCounts (pc := 26) C fl_X2_34 dX2_fork_26 ?_
      refine gV_iload_n (pc := 29) C dX2_fork_29 2 rfl rfl ?_
      refine ca_pn (pc := 30) C (vp_in_nI (by omega) (by omega)) dX2_fork_30 ?_
      rw [nI_clamp (by omega)]
      refine cs_pn (pc := 31) C (vp_in_nI (by omega) (by omega)) dX2_fork_31 ?_
      rw [nI_clamp (by omega)]
      refine gV_iconst (pc := 32) (v := 0) C dX2_fork_32 (by decide) ?_
      refine gV_istore_n (pc := 33) (lv' := [(3, .int 0), (2, .int (nI Q)), (0, .ref (ad 0)), (1, .int (nI P))]) C dX2_fork_33 rfl (by decide) rfl ?_
      exact lp_fork hP hQ hm (by rw [ph_fkV, if_neg c_1, if_neg c_2, eQ]) C m 0 _ (Nat.zero_add _) (ok_pn hok _ (by rw [em]; exact ⟨m, hm, rfl⟩)) (by rw [A_sA, if_neg (by omega)]; exact em) (by rw [ph_fkW, if_neg c_1, if_neg c_2, eP, eQ, em, nI_clamp (by omega), nI_clamp (by omega)])
    · skip
      refine gV_iconst (pc := 18) (v := (-1)) C dX2_fork_18 (by decide) ?_
      refine gV_iret (pc := 19) C dX2_fork_19 (by decide) (by decide) ?_
      exact ⟨by rw [ph_fkV, if_neg c_1, if_pos c_2], by rw [ph_fkW, if_neg c_1, if_pos c_2]⟩
abbrev rm_X2_end : Room := { frames := 3, cells := 0, slots := 0, locals := 64 }
set_option maxHeartbeats 4000000 in
set_option maxRecDepth 100000 in
theorem lp_end {X : gx_T} {D : va_G} {ad : Nat → Nat} {ct : Nat → ClassId} {F S : Nat} {σ : ph_S} {P m : Nat} (hP : P < 8) (hm : m ≤ 32) (hv : ph_enV σ (nI P) = 1) (C : gC X cX2_end 3 RX2 rm_X2_end (some .boolean) D (gt ct) (fun v w => v = some (.int (ph_enV σ (nI P))) ∧ w = cw ad ct F S (ph_enW F S σ (nI P)))) : ∀ (d i : Nat) (τ : ph_S), i + d = m → ph_ok F S τ → ph_A τ 3 P = nI m → ph_sA (ph_enG F S P d i τ) 3 P 0 = ph_enW F S σ (nI P) → gV X 0 0 (cw ad ct F S τ) 12 [(2, .int (nI i)), (0, .ref (ad 0)), (1, .int (nI P))] [] := by
  intro d
  induction d with
  | zero =>
    intro i τ hi hok hA hr
    have e : ph_sA τ 3 P 0 = ph_enW F S σ (nI P) := hr
    refine gV_iload_n (pc := 12) C dX2_end_12 0 rfl rfl ?_
    refine gV_aload_n (pc := 13) (x := ad 0) C dX2_end_13 1 rfl rfl ?_
    refine cg_pageCounts (pc := 14) C fl_X2_34 dX2_end_14 ?_
    refine gV_iload_n (pc := 17) C dX2_end_17 2 rfl rfl ?_
    refine ca_pn (pc := 18) C (vp_in_nI (by omega) (by omega)) dX2_end_18 ?_
    rw [nI_clamp (by omega)]
    rw [hA]
    refine gV_icmp_ge (pc := 19) C 38 dX2_end_19 (by decide) (fun c_1 => ?_) (fun c_1 => ?_)
    · skip
      refine gV_aload_n (pc := 38) (x := ad 0) C dX2_end_38 1 rfl rfl ?_
      refine cg_pageCounts (pc := 39) C fl_X2_34 dX2_end_39 ?_
      refine gV_iload_n (pc := 42) C dX2_end_42 2 rfl rfl ?_
      refine gV_iconst (pc := 43) (v := 0) C dX2_end_43 (by decide) ?_
      refine cs_pn (pc := 44) C (vp_in_nI (by omega) (by omega)) dX2_end_44 ?_
      rw [nI_clamp (by omega)]
      refine gV_iconst (pc := 45) (v := 1) C dX2_end_45 (by decide) ?_
      refine gV_zret (pc := 46) C dX2_end_46 (by decide) (by decide) (by decide) ?_
      exact ⟨by rw [hv], by rw [e]⟩
    · exact absurd (nI_le (by omega) (by omega)) c_1
  | succ d ih =>
    intro i τ hi hok hA hr
    refine gV_iload_n (pc := 12) C dX2_end_12 0 rfl rfl ?_
    refine gV_aload_n (pc := 13) (x := ad 0) C dX2_end_13 1 rfl rfl ?_
    refine cg_pageCounts (pc := 14) C fl_X2_34 dX2_end_14 ?_
    refine gV_iload_n (pc := 17) C dX2_end_17 2 rfl rfl ?_
    refine ca_pn (pc := 18) C (vp_in_nI (by omega) (by omega)) dX2_end_18 ?_
    rw [nI_clamp (by omega)]
    rw [hA]
    refine gV_icmp_ge (pc := 19) C 38 dX2_end_19 (by decide) (fun c_1 => ?_) (fun c_1 => ?_)
    · exact absurd c_1 (nI_ge (by omega) (by omega))
    · skip
      refine gV_aload_n (pc := 22) (x := ad 0) C dX2_end_22 1 rfl rfl ?_
      refine gV_iload_n (pc := 23) C dX2_end_23 2 rfl rfl ?_
      refine gV_iload_n (pc := 24) C dX2_end_24 0 rfl rfl ?_
      refine gV_callS (pc := 25) (As := [.int (nI P), .int (nI i)]) (rest := [.ref (ad 0)]) C ml_X2_52 gy_X2_slot gs_X2_slot (c_slot _ _)  rfl rfl ⟨by decide, by decide⟩ (Nat.le_of_ble_eq_true rfl) (by decide) (by decide) dX2_end_25 ?_
      rintro _ _ ⟨rfl, rfl⟩
      rw [slot_eq]
      refine gV_callV (pc := 28) (As := [.int (nI (P * 32 + i))]) (rest := []) C ml_X2_59 gy_X2_empty gv_X2_empty (c_empty (s := (nI (P * 32 + i))) hok (vp_in_nI (by omega) (by omega))) ⟨0, 2, _, _, rfl, rfl, rfl⟩ rfl rfl ⟨by decide, by decide⟩ (Nat.le_of_ble_eq_true rfl) (by decide) (by decide) dX2_end_28 ?_
      rintro _ _ ⟨rfl, rfl⟩
      rw [nI_clamp (by omega)]
      refine gV_pop (pc := 31) C dX2_end_31 rfl ?_
      refine gV_iinc (pc := 32) (v := nI (i + 1)) (lv' := [(2, .int (nI (i + 1))), (0, .ref (ad 0)), (1, .int (nI P))]) C dX2_end_32 0 rfl (nI_1 _) (by decide) rfl ?_
      refine gV_goto (pc := 35) C 12 dX2_end_35 (by decide) ?_
      refine gV_lv [0, 1, 2] rfl ?_
      exact ih (i + 1) _ (by omega) (ok_em hok) (by rw [em_A3]; exact hA) (by rw [← hr, ph_enG])
set_option maxHeartbeats 4000000 in
set_option maxRecDepth 100000 in
/-- end -/
theorem c_end {D : va_G} {ad : Nat → Nat} {ct : Nat → ClassId} {F S : Nat} {σ : ph_S} (p : Int32) (hok : ph_ok F S σ) : gM yX2_end cX2_end 3 (some .boolean) rm_X2_end D (gt ct) (cw ad ct F S σ) [.ref (ad 0), .int p] (fun v w => v = some (.int (ph_enV σ p)) ∧ w = cw ad ct F S (ph_enW F S σ p)) := by
  refine gM_in RX2 rfl (by decide) (Nat.le_of_ble_eq_true rfl) (fun X C => ?_)
  have hF := hok.F16
  have hS := hok.S64
  refine gV_aload_n (pc := 0) (x := ad 0) C dX2_end_0 0 rfl rfl ?_
  refine gV_iload_n (pc := 1) C dX2_end_1 1 rfl rfl ?_
  refine gV_callV (pc := 2) (As := [.int p]) (rest := []) C ml_X2_48 gy_X2_hasProcess gv_X2_hasProcess (c_hasProcess _) ⟨0, 2, _, _, rfl, rfl, rfl⟩ rfl rfl ⟨by decide, by decide⟩ (Nat.le_of_ble_eq_true rfl) (by decide) (by decide) dX2_end_2 ?_
  rintro _ _ ⟨rfl, rfl⟩
  refine gV_if_ne (pc := 5) C 10 dX2_end_5 (by decide) (fun c_1 => ?_) (fun c_1 => ?_)
  · skip
    obtain ⟨P, hP, rfl⟩ := vp_in_of (ph_hp_vin c_1) (by decide)
    obtain ⟨m, hm, em⟩ := hok.pn hP
    have eP : (nI P).toNatClampNeg = P := nI_clamp (by omega)
    refine gV_iconst (pc := 10) (v := 0) C dX2_end_10 (by decide) ?_
    refine gV_istore_n (pc := 11) (lv' := [(2, .int 0), (0, .ref (ad 0)), (1, .int (nI P))]) C dX2_end_11 rfl (by decide) rfl ?_
    exact lp_end hP hm (by rw [ph_enV, if_neg c_1]) C m 0 _ (Nat.zero_add _) hok em (by rw [ph_enW, if_neg c_1, eP, em, nI_clamp (by omega)])
  · skip
    refine gV_iconst (pc := 8) (v := 0) C dX2_end_8 (by decide) ?_
    refine gV_zret (pc := 9) C dX2_end_9 (by decide) (by decide) (by decide) ?_
    exact ⟨by rw [ph_enV, if_pos c_1], by rw [ph_enW, if_pos c_1]⟩
abbrev rm_X2_drop : Room := { frames := 3, cells := 0, slots := 0, locals := 64 }
set_option maxHeartbeats 4000000 in
set_option maxRecDepth 100000 in
/-- drop -/
theorem c_drop {D : va_G} {ad : Nat → Nat} {ct : Nat → ClassId} {F S : Nat} {σ : ph_S} (p g : Int32) (hok : ph_ok F S σ) : gM yX2_drop cX2_drop 3 (some .boolean) rm_X2_drop D (gt ct) (cw ad ct F S σ) [.ref (ad 0), .int p, .int g] (fun v w => v = some (.int (ph_drV σ p g)) ∧ w = cw ad ct F S (ph_drW F S σ p g)) := by
  refine gM_in RX2 rfl (by decide) (Nat.le_of_ble_eq_true rfl) (fun X C => ?_)
  have hF := hok.F16
  have hS := hok.S64
  refine gV_aload_n (pc := 0) (x := ad 0) C dX2_drop_0 0 rfl rfl ?_
  refine gV_iload_n (pc := 1) C dX2_drop_1 1 rfl rfl ?_
  refine gV_iload_n (pc := 2) C dX2_drop_2 2 rfl rfl ?_
  refine gV_callV (pc := 3) (As := [.int p, .int g]) (rest := []) C ml_X2_101 gy_X2_hasPage gv_X2_hasPage (c_hasPage _ _) ⟨0, 2, _, _, rfl, rfl, rfl⟩ rfl rfl ⟨by decide, by decide⟩ (Nat.le_of_ble_eq_true rfl) (by decide) (by decide) dX2_drop_3 ?_
  rintro _ _ ⟨rfl, rfl⟩
  refine gV_if_ne (pc := 6) C 11 dX2_drop_6 (by decide) (fun c_1 => ?_) (fun c_1 => ?_)
  · skip
    refine gV_aload_n (pc := 11) (x := ad 0) C dX2_drop_11 0 rfl rfl ?_
    refine gV_iload_n (pc := 12) C dX2_drop_12 1 rfl rfl ?_
    refine gV_iload_n (pc := 13) C dX2_drop_13 2 rfl rfl ?_
    refine gV_callS (pc := 14) (As := [.int p, .int g]) (rest := [.ref (ad 0)]) C ml_X2_52 gy_X2_slot gs_X2_slot (c_slot _ _)  rfl rfl ⟨by decide, by decide⟩ (Nat.le_of_ble_eq_true rfl) (by decide) (by decide) dX2_drop_14 ?_
    rintro _ _ ⟨rfl, rfl⟩
    refine gV_callV (pc := 17) (As := [.int (p * 32 + g)]) (rest := []) C ml_X2_59 gy_X2_empty gv_X2_empty (c_empty (s := (p * 32 + g)) hok (hg_slot hok c_1)) ⟨0, 2, _, _, rfl, rfl, rfl⟩ rfl rfl ⟨by decide, by decide⟩ (Nat.le_of_ble_eq_true rfl) (by decide) (by decide) dX2_drop_17 ?_
    rintro _ _ ⟨rfl, rfl⟩
    refine gV_zret (pc := 20) C dX2_drop_20 (emV_01 _ _) (by decide) (by decide) ?_
    exact ⟨by rw [ph_drV, if_neg c_1], by rw [ph_drW, if_neg c_1]⟩
  · skip
    refine gV_iconst (pc := 9) (v := 0) C dX2_drop_9 (by decide) ?_
    refine gV_zret (pc := 10) C dX2_drop_10 (by decide) (by decide) (by decide) ?_
    exact ⟨by rw [ph_drV, if_pos c_1], by rw [ph_drW, if_pos c_1]⟩
abbrev rm_X2_flush : Room := { frames := 3, cells := 0, slots := 0, locals := 105 }
set_option maxHeartbeats 4000000 in
set_option maxRecDepth 100000 in
theorem lp_flush {X : gx_T} {D : va_G} {ad : Nat → Nat} {ct : Nat → ClassId} {F S : Nat} {σ : ph_S} (hF : F ≤ 16) (hS : S ≤ 64) (C : gC X cX2_flush 4 RX2 rm_X2_flush (some .int) D (gt ct) (fun v w => v = some (.int (ph_flV F S σ)) ∧ w = cw ad ct F S (ph_flW F S σ))) : ∀ (d i n : Nat) (τ : ph_S), i + d = F → ph_ok F S τ → nI (n + ph_flN F S d i τ) = ph_flV F S σ → ph_flG F S d i τ = ph_flW F S σ → gV X 0 0 (cw ad ct F S τ) 20 [(2, .int (nI i)), (1, .int (nI n)), (0, .ref (ad 0))] [] := by
  intro d
  induction d with
  | zero =>
    intro i n τ hi hok hn hr
    have e : τ = ph_flW F S σ := hr
    refine gV_iload_n (pc := 20) C dX2_flush_20 0 rfl rfl ?_
    refine gV_aload_n (pc := 21) (x := ad 0) C dX2_flush_21 2 rfl rfl ?_
    refine cg_frames (pc := 22) C fl_X2_23 dX2_flush_22 ?_
    refine cg_content1 (pc := 25) C fl_X2_111 dX2_flush_25 ?_
    refine cl_fc (pc := 28) C dX2_flush_28 ?_
    refine gV_icmp_ge (pc := 29) C 67 dX2_flush_29 (by decide) (fun c_1 => ?_) (fun c_1 => ?_)
    · skip
      refine gV_iload_n (pc := 67) C dX2_flush_67 1 rfl rfl ?_
      refine gV_iret (pc := 68) C dX2_flush_68 (by decide) (by decide) ?_
      exact ⟨by rw [← hn]; rfl, by rw [e]⟩
    · exact absurd (nI_le (by omega) (by omega)) c_1
  | succ d ih =>
    intro i n τ hi hok hn hr
    refine gV_iload_n (pc := 20) C dX2_flush_20 0 rfl rfl ?_
    refine gV_aload_n (pc := 21) (x := ad 0) C dX2_flush_21 2 rfl rfl ?_
    refine cg_frames (pc := 22) C fl_X2_23 dX2_flush_22 ?_
    refine cg_content1 (pc := 25) C fl_X2_111 dX2_flush_25 ?_
    refine cl_fc (pc := 28) C dX2_flush_28 ?_
    refine gV_icmp_ge (pc := 29) C 67 dX2_flush_29 (by decide) (fun c_1 => ?_) (fun c_1 => ?_)
    · exact absurd c_1 (nI_ge (by omega) (by omega))
    · skip
      refine gV_aload_n (pc := 32) (x := ad 0) C dX2_flush_32 2 rfl rfl ?_
      refine cg_frames (pc := 33) C fl_X2_23 dX2_flush_33 ?_
      refine cg_content1 (pc := 36) C fl_X2_111 dX2_flush_36 ?_
      refine gV_iload_n (pc := 39) C dX2_flush_39 0 rfl rfl ?_
      refine ca_fc (pc := 40) C (vp_in_nI (by omega) (by omega)) dX2_flush_40 ?_
      rw [nI_clamp (by omega)]
      cases er_2 : ph_R (τ) 0 i with
      | none =>
        refine gV_astoreq_n (pc := 41) (r := none) (lv' := [(3, .null), (2, .int (nI i)), (1, .int (nI n)), (0, .ref (ad 0))]) C dX2_flush_41 rfl (by decide) rfl ?_
        refine gV_aloadq_n (pc := 42) (r := none) C dX2_flush_42 0 rfl rfl ?_
        refine gV_ifnull (pc := 43) (r := none) C 61 dX2_flush_43 (by decide) (fun _ => ?_) (fun _ h => nomatch h)
        refine gV_iinc (pc := 61) (v := nI (i + 1)) (lv' := [(2, .int (nI (i + 1))), (3, .null), (1, .int (nI n)), (0, .ref (ad 0))]) C dX2_flush_61 1 rfl (nI_1 _) (by decide) rfl ?_
        refine gV_goto (pc := 64) C 20 dX2_flush_64 (by decide) ?_
        refine gV_lv [0, 2, 3] rfl ?_
        simp only [ph_flN, ph_flG, er_2] at hn hr
        exact ih (i + 1) n _ (by omega) hok hn hr
      | some a_2 =>
        have m_2 : a_2 ∈ ph_L (τ) := hok.refs _ _ _ er_2
        refine gV_astore_n (pc := 41) (x := a_2) (lv' := [(3, .ref a_2), (2, .int (nI i)), (1, .int (nI n)), (0, .ref (ad 0))]) C dX2_flush_41 rfl (by decide) rfl ?_
        refine gV_aload_n (pc := 42) (x := a_2) C dX2_flush_42 0 rfl rfl ?_
        refine gV_ifnull (pc := 43) (r := some a_2) C 61 dX2_flush_43 (by decide) (fun h => nomatch h) (fun _ _ => ?_)
        refine gV_aload_n (pc := 46) (x := a_2) C dX2_flush_46 0 rfl rfl ?_
        refine cg_b_dirty (pc := 47) (σ := τ) C m_2 fl_X2_97 dX2_flush_47 ?_
        refine gV_if_eq (pc := 50) C 61 dX2_flush_50 (by decide) (fun c_3 => ?_) (fun c_3 => ?_)
        · skip
          refine gV_iinc (pc := 61) (v := nI (i + 1)) (lv' := [(2, .int (nI (i + 1))), (3, .ref a_2), (1, .int (nI n)), (0, .ref (ad 0))]) C dX2_flush_61 1 rfl (nI_1 _) (by decide) rfl ?_
          refine gV_goto (pc := 64) C 20 dX2_flush_64 (by decide) ?_
          refine gV_lv [0, 2, 3] rfl ?_
          simp only [ph_flN, ph_flG, er_2] at hn hr
          rw [if_pos c_3] at hn hr
          exact ih (i + 1) n _ (by omega) hok hn hr
        · skip
          refine gV_aload_n (pc := 53) (x := ad 0) C dX2_flush_53 3 rfl rfl ?_
          refine gV_aload_n (pc := 54) (x := a_2) C dX2_flush_54 0 rfl rfl ?_
          refine gV_callV (pc := 55) (As := [.ref a_2]) (rest := []) C ml_X2_114 gy_X2_store gv_X2_store (c_store (a := a_2) hok m_2) ⟨0, 2, _, _, rfl, rfl, rfl⟩ rfl rfl ⟨by decide, by decide⟩ (Nat.le_of_ble_eq_true rfl) (by decide) (by decide) dX2_flush_55 ?_
          rintro _ _ ⟨rfl, rfl⟩
          have m_4 : a_2 ∈ ph_L (ph_st F S (τ) a_2) := by rw [ph_st_L]; exact m_2
          refine gV_iinc (pc := 58) (v := nI (n + 1)) (lv' := [(1, .int (nI (n + 1))), (3, .ref a_2), (2, .int (nI i)), (0, .ref (ad 0))]) C dX2_flush_58 2 rfl (nI_1 _) (by decide) rfl ?_
          refine gV_iinc (pc := 61) (v := nI (i + 1)) (lv' := [(2, .int (nI (i + 1))), (1, .int (nI (n + 1))), (3, .ref a_2), (0, .ref (ad 0))]) C dX2_flush_61 2 rfl (nI_1 _) (by decide) rfl ?_
          refine gV_goto (pc := 64) C 20 dX2_flush_64 (by decide) ?_
          refine gV_lv [0, 1, 3] rfl ?_
          simp only [ph_flN, ph_flG, er_2] at hn hr
          rw [if_neg c_3] at hn hr
          exact ih (i + 1) (n + 1) _ (by omega) (ok_st hok m_2) (by rw [← hn]; congr 1; omega) hr
set_option maxHeartbeats 4000000 in
set_option maxRecDepth 100000 in
/-- flush -/
theorem c_flush {D : va_G} {ad : Nat → Nat} {ct : Nat → ClassId} {F S : Nat} {σ : ph_S} (hok : ph_ok F S σ) : gM yX2_flush cX2_flush 4 (some .int) rm_X2_flush D (gt ct) (cw ad ct F S σ) [.ref (ad 0)] (fun v w => v = some (.int (ph_flV F S σ)) ∧ w = cw ad ct F S (ph_flW F S σ)) := by
  refine gM_in RX2 rfl (by decide) (Nat.le_of_ble_eq_true rfl) (fun X C => ?_)
  have hF := hok.F16
  have hS := hok.S64
  refine gV_aload_n (pc := 0) (x := ad 0) C dX2_flush_0 0 rfl rfl ?_
  refine gV_callV (pc := 1) (As := []) (rest := []) C ml_X2_105 gy_X2_countWithoutSector gv_X2_countWithoutSector (c_countWithoutSector hok) ⟨0, 2, _, _, rfl, rfl, rfl⟩ rfl rfl ⟨by decide, by decide⟩ (Nat.le_of_ble_eq_true rfl) (by decide) (by decide) dX2_flush_1 ?_
  rintro _ _ ⟨rfl, rfl⟩
  refine gV_aload_n (pc := 4) (x := ad 0) C dX2_flush_4 0 rfl rfl ?_
  refine cg_sectors (pc := 5) C fl_X2_27 dX2_flush_5 ?_
  refine gV_callV (pc := 8) (As := []) (rest := [.int (ph_cs F σ)]) C ml_X2_108 gy_X1_countFree gv_X1_countFree (c_countFree2 (by omega)) ⟨2, 1, _, _, rfl, rfl, rfl⟩ rfl rfl ⟨by decide, by decide⟩ (Nat.le_of_ble_eq_true rfl) (by decide) (by decide) dX2_flush_8 ?_
  rintro _ _ ⟨rfl, rfl⟩
  refine gV_icmp_le (pc := 11) C 16 dX2_flush_11 (by decide) (fun c_1 => ?_) (fun c_1 => ?_)
  · skip
    refine gV_iconst (pc := 16) (v := 0) C dX2_flush_16 (by decide) ?_
    refine gV_istore_n (pc := 17) (lv' := [(1, .int 0), (0, .ref (ad 0))]) C dX2_flush_17 rfl (by decide) rfl ?_
    refine gV_iconst (pc := 18) (v := 0) C dX2_flush_18 (by decide) ?_
    refine gV_istore_n (pc := 19) (lv' := [(2, .int 0), (1, .int 0), (0, .ref (ad 0))]) C dX2_flush_19 rfl (by decide) rfl ?_
    exact lp_flush hF hS C F 0 0 σ (Nat.zero_add _) hok (by rw [ph_flV, if_pos c_1, Nat.zero_add]) (by rw [ph_flW, if_pos c_1])
  · skip
    refine gV_iconst (pc := 14) (v := (-1)) C dX2_flush_14 (by decide) ?_
    refine gV_iret (pc := 15) C dX2_flush_15 (by decide) (by decide) ?_
    exact ⟨by rw [ph_flV, if_neg c_1], by rw [ph_flW, if_neg c_1]⟩
abbrev rm_X2_page : Room := { frames := 2, cells := 0, slots := 0, locals := 43 }
set_option maxHeartbeats 4000000 in
set_option maxRecDepth 100000 in
/-- page -/
theorem c_page {D : va_G} {ad : Nat → Nat} {ct : Nat → ClassId} {F S : Nat} {σ : ph_S} (p g x : Int32) (hok : ph_ok F S σ) : gM yX2_page cX2_page 5 (some .int) rm_X2_page D (gt ct) (cw ad ct F S σ) [.ref (ad 0), .int p, .int g, .int x] (fun v w => v = some (.int (ph_pgV σ p g x)) ∧ w = cw ad ct F S σ) := by
  refine gM_in RX2 rfl (by decide) (Nat.le_of_ble_eq_true rfl) (fun X C => ?_)
  have hF := hok.F16
  have hS := hok.S64
  refine gV_aload_n (pc := 0) (x := ad 0) C dX2_page_0 0 rfl rfl ?_
  refine gV_iload_n (pc := 1) C dX2_page_1 1 rfl rfl ?_
  refine gV_iload_n (pc := 2) C dX2_page_2 2 rfl rfl ?_
  refine gV_callV (pc := 3) (As := [.int p, .int g]) (rest := []) C ml_X2_101 gy_X2_hasPage gv_X2_hasPage (c_hasPage _ _) ⟨0, 2, _, _, rfl, rfl, rfl⟩ rfl rfl ⟨by decide, by decide⟩ (Nat.le_of_ble_eq_true rfl) (by decide) (by decide) dX2_page_3 ?_
  rintro _ _ ⟨rfl, rfl⟩
  refine gV_if_ne (pc := 6) C 11 dX2_page_6 (by decide) (fun c_1 => ?_) (fun c_1 => ?_)
  · skip
    refine gV_aload_n (pc := 11) (x := ad 0) C dX2_page_11 0 rfl rfl ?_
    refine cg_bodies (pc := 12) C fl_X2_40 dX2_page_12 ?_
    refine gV_iload_n (pc := 15) C dX2_page_15 1 rfl rfl ?_
    refine gV_iload_n (pc := 16) C dX2_page_16 2 rfl rfl ?_
    refine gV_callS (pc := 17) (As := [.int p, .int g]) (rest := [.ref (ad 9)]) C ml_X2_52 gy_X2_slot gs_X2_slot (c_slot _ _)  rfl rfl ⟨by decide, by decide⟩ (Nat.le_of_ble_eq_true rfl) (by decide) (by decide) dX2_page_17 ?_
    rintro _ _ ⟨rfl, rfl⟩
    refine ca_bo (pc := 20) C (hg_slot hok c_1) dX2_page_20 ?_
    cases er_2 : ph_R σ 2 ((p * 32 + g).toNatClampNeg) with
    | none =>
      refine gV_astoreq (pc := 21) (r := none) (lv' := [(4, .null), (0, .ref (ad 0)), (1, .int p), (2, .int g), (3, .int x)]) C dX2_page_21 (by decide) rfl ?_
      refine gV_iload_n (pc := 23) C dX2_page_23 4 rfl rfl ?_
      by_cases t_3 : x = 0
      · refine gV_tableIn (pc := 24) C 56 dX2_page_24 (by rw [t_3]; decide) (by rw [t_3]; decide) (by rw [t_3]; rfl) (by decide) ?_
        refine gV_aloadq (pc := 56) (r := none) C dX2_page_56 0 rfl ?_
        refine gV_ifnonnull (pc := 58) (r := none) C 65 dX2_page_58 (by decide) (fun _ h => nomatch h) (fun _ => ?_)
        refine gV_iconst (pc := 61) (v := (-1)) C dX2_page_61 (by decide) ?_
        refine gV_goto (pc := 62) C 70 dX2_page_62 (by decide) ?_
        refine gV_iret (pc := 70) C dX2_page_70 (by decide) (by decide) ?_
        exact ⟨by rw [ph_pgV, if_neg c_1, er_2]; simp only [ph_pg2]; rw [if_pos t_3], rfl⟩
      by_cases t_4 : x = 1
      · refine gV_tableIn (pc := 24) C 71 dX2_page_24 (by rw [t_4]; decide) (by rw [t_4]; decide) (by rw [t_4]; rfl) (by decide) ?_
        refine gV_aloadq (pc := 71) (r := none) C dX2_page_71 0 rfl ?_
        refine gV_ifnonnull (pc := 73) (r := none) C 80 dX2_page_73 (by decide) (fun _ h => nomatch h) (fun _ => ?_)
        refine gV_iconst (pc := 76) (v := (-1)) C dX2_page_76 (by decide) ?_
        refine gV_goto (pc := 77) C 85 dX2_page_77 (by decide) ?_
        refine gV_iret (pc := 85) C dX2_page_85 (by decide) (by decide) ?_
        exact ⟨by rw [ph_pgV, if_neg c_1, er_2]; simp only [ph_pg2]; rw [if_neg t_3, if_pos t_4], rfl⟩
      by_cases t_5 : x = 2
      · refine gV_tableIn (pc := 24) C 86 dX2_page_24 (by rw [t_5]; decide) (by rw [t_5]; decide) (by rw [t_5]; rfl) (by decide) ?_
        refine gV_aloadq (pc := 86) (r := none) C dX2_page_86 0 rfl ?_
        refine gV_ifnonnull (pc := 88) (r := none) C 95 dX2_page_88 (by decide) (fun _ h => nomatch h) (fun _ => ?_)
        refine gV_iconst (pc := 91) (v := 0) C dX2_page_91 (by decide) ?_
        refine gV_goto (pc := 92) C 100 dX2_page_92 (by decide) ?_
        refine gV_iret (pc := 100) C dX2_page_100 (by decide) (by decide) ?_
        exact ⟨by rw [ph_pgV, if_neg c_1, er_2]; simp only [ph_pg2]; rw [if_neg t_3, if_neg t_4, if_pos t_5], rfl⟩
      by_cases t_6 : x = 3
      · refine gV_tableIn (pc := 24) C 101 dX2_page_24 (by rw [t_6]; decide) (by rw [t_6]; decide) (by rw [t_6]; rfl) (by decide) ?_
        refine gV_aloadq (pc := 101) (r := none) C dX2_page_101 0 rfl ?_
        refine gV_ifnull (pc := 103) (r := none) C 118 dX2_page_103 (by decide) (fun _ => ?_) (fun _ h => nomatch h)
        refine gV_iconst (pc := 118) (v := 0) C dX2_page_118 (by decide) ?_
        refine gV_iret (pc := 119) C dX2_page_119 (by decide) (by decide) ?_
        exact ⟨by rw [ph_pgV, if_neg c_1, er_2]; simp only [ph_pg2]; rw [if_neg t_3, if_neg t_4, if_neg t_5, if_pos t_6], rfl⟩
      have nt_3 : x.toInt ≠ 0 := fun e => t_3 (Int32.toInt_inj.mp (e.trans (by decide)))
      have nt_4 : x.toInt ≠ 1 := fun e => t_4 (Int32.toInt_inj.mp (e.trans (by decide)))
      have nt_5 : x.toInt ≠ 2 := fun e => t_5 (Int32.toInt_inj.mp (e.trans (by decide)))
      have nt_6 : x.toInt ≠ 3 := fun e => t_6 (Int32.toInt_inj.mp (e.trans (by decide)))
      refine gV_tableOut (pc := 24) C 120 dX2_page_24 (by omega) (by decide) ?_
      refine gV_iconst (pc := 120) (v := (-1)) C dX2_page_120 (by decide) ?_
      refine gV_iret (pc := 121) C dX2_page_121 (by decide) (by decide) ?_
      exact ⟨by rw [ph_pgV, if_neg c_1, er_2]; simp only [ph_pg2]; rw [if_neg t_3, if_neg t_4, if_neg t_5, if_neg t_6], rfl⟩
    | some a_2 =>
      have m_2 : a_2 ∈ ph_L σ := hok.refs _ _ _ er_2
      refine gV_astore (pc := 21) (x := a_2) (lv' := [(4, .ref a_2), (0, .ref (ad 0)), (1, .int p), (2, .int g), (3, .int x)]) C dX2_page_21 (by decide) rfl ?_
      refine gV_iload_n (pc := 23) C dX2_page_23 4 rfl rfl ?_
      by_cases t_7 : x = 0
      · refine gV_tableIn (pc := 24) C 56 dX2_page_24 (by rw [t_7]; decide) (by rw [t_7]; decide) (by rw [t_7]; rfl) (by decide) ?_
        refine gV_aload (pc := 56) (x := a_2) C dX2_page_56 0 rfl ?_
        refine gV_ifnonnull (pc := 58) (r := some a_2) C 65 dX2_page_58 (by decide) (fun _ _ => ?_) (fun h => nomatch h)
        refine gV_aload (pc := 65) (x := a_2) C dX2_page_65 0 rfl ?_
        refine cg_b_frame (pc := 67) (σ := σ) C m_2 fl_X2_76 dX2_page_67 ?_
        refine gV_iret (pc := 70) C dX2_page_70 (by decide) (by decide) ?_
        exact ⟨by rw [ph_pgV, if_neg c_1, er_2]; simp only [ph_pg2]; rw [if_pos t_7], rfl⟩
      by_cases t_8 : x = 1
      · refine gV_tableIn (pc := 24) C 71 dX2_page_24 (by rw [t_8]; decide) (by rw [t_8]; decide) (by rw [t_8]; rfl) (by decide) ?_
        refine gV_aload (pc := 71) (x := a_2) C dX2_page_71 0 rfl ?_
        refine gV_ifnonnull (pc := 73) (r := some a_2) C 80 dX2_page_73 (by decide) (fun _ _ => ?_) (fun h => nomatch h)
        refine gV_aload (pc := 80) (x := a_2) C dX2_page_80 0 rfl ?_
        refine cg_b_sector (pc := 82) (σ := σ) C m_2 fl_X2_118 dX2_page_82 ?_
        refine gV_iret (pc := 85) C dX2_page_85 (by decide) (by decide) ?_
        exact ⟨by rw [ph_pgV, if_neg c_1, er_2]; simp only [ph_pg2]; rw [if_neg t_7, if_pos t_8], rfl⟩
      by_cases t_9 : x = 2
      · refine gV_tableIn (pc := 24) C 86 dX2_page_24 (by rw [t_9]; decide) (by rw [t_9]; decide) (by rw [t_9]; rfl) (by decide) ?_
        refine gV_aload (pc := 86) (x := a_2) C dX2_page_86 0 rfl ?_
        refine gV_ifnonnull (pc := 88) (r := some a_2) C 95 dX2_page_88 (by decide) (fun _ _ => ?_) (fun h => nomatch h)
        refine gV_aload (pc := 95) (x := a_2) C dX2_page_95 0 rfl ?_
        refine cg_b_holders (pc := 97) (σ := σ) C m_2 fl_X2_55 dX2_page_97 ?_
        refine gV_iret (pc := 100) C dX2_page_100 (by decide) (by decide) ?_
        exact ⟨by rw [ph_pgV, if_neg c_1, er_2]; simp only [ph_pg2]; rw [if_neg t_7, if_neg t_8, if_pos t_9], rfl⟩
      by_cases t_10 : x = 3
      · refine gV_tableIn (pc := 24) C 101 dX2_page_24 (by rw [t_10]; decide) (by rw [t_10]; decide) (by rw [t_10]; rfl) (by decide) ?_
        refine gV_aload (pc := 101) (x := a_2) C dX2_page_101 0 rfl ?_
        refine gV_ifnull (pc := 103) (r := some a_2) C 118 dX2_page_103 (by decide) (fun h => nomatch h) (fun _ _ => ?_)
        refine gV_aload (pc := 106) (x := a_2) C dX2_page_106 0 rfl ?_
        refine cg_b_dirty (pc := 108) (σ := σ) C m_2 fl_X2_97 dX2_page_108 ?_
        refine gV_if_eq (pc := 111) C 118 dX2_page_111 (by decide) (fun c_11 => ?_) (fun c_11 => ?_)
        · skip
          refine gV_iconst (pc := 118) (v := 0) C dX2_page_118 (by decide) ?_
          refine gV_iret (pc := 119) C dX2_page_119 (by decide) (by decide) ?_
          exact ⟨by rw [ph_pgV, if_neg c_1, er_2]; simp only [ph_pg2]; rw [if_neg t_7, if_neg t_8, if_neg t_9, if_pos t_10, if_pos c_11], rfl⟩
        · skip
          refine gV_iconst (pc := 114) (v := 1) C dX2_page_114 (by decide) ?_
          refine gV_goto (pc := 115) C 119 dX2_page_115 (by decide) ?_
          refine gV_iret (pc := 119) C dX2_page_119 (by decide) (by decide) ?_
          exact ⟨by rw [ph_pgV, if_neg c_1, er_2]; simp only [ph_pg2]; rw [if_neg t_7, if_neg t_8, if_neg t_9, if_pos t_10, if_neg c_11], rfl⟩
      have nt_7 : x.toInt ≠ 0 := fun e => t_7 (Int32.toInt_inj.mp (e.trans (by decide)))
      have nt_8 : x.toInt ≠ 1 := fun e => t_8 (Int32.toInt_inj.mp (e.trans (by decide)))
      have nt_9 : x.toInt ≠ 2 := fun e => t_9 (Int32.toInt_inj.mp (e.trans (by decide)))
      have nt_10 : x.toInt ≠ 3 := fun e => t_10 (Int32.toInt_inj.mp (e.trans (by decide)))
      refine gV_tableOut (pc := 24) C 120 dX2_page_24 (by omega) (by decide) ?_
      refine gV_iconst (pc := 120) (v := (-1)) C dX2_page_120 (by decide) ?_
      refine gV_iret (pc := 121) C dX2_page_121 (by decide) (by decide) ?_
      exact ⟨by rw [ph_pgV, if_neg c_1, er_2]; simp only [ph_pg2]; rw [if_neg t_7, if_neg t_8, if_neg t_9, if_neg t_10], rfl⟩
  · skip
    refine gV_iconst (pc := 9) (v := (-1)) C dX2_page_9 (by decide) ?_
    refine gV_iret (pc := 10) C dX2_page_10 (by decide) (by decide) ?_
    exact ⟨by rw [ph_pgV, if_pos c_1], rfl⟩
abbrev rm_X2_frame : Room := { frames := 2, cells := 0, slots := 0, locals := 43 }
set_option maxHeartbeats 4000000 in
set_option maxRecDepth 100000 in
/-- frame -/
theorem c_frame {D : va_G} {ad : Nat → Nat} {ct : Nat → ClassId} {F S : Nat} {σ : ph_S} (f x : Int32) (hok : ph_ok F S σ) : gM yX2_frame cX2_frame 4 (some .int) rm_X2_frame D (gt ct) (cw ad ct F S σ) [.ref (ad 0), .int f, .int x] (fun v w => v = some (.int (ph_frV F σ f x)) ∧ w = cw ad ct F S σ) := by
  refine gM_in RX2 rfl (by decide) (Nat.le_of_ble_eq_true rfl) (fun X C => ?_)
  have hF := hok.F16
  have hS := hok.S64
  refine gV_aload_n (pc := 0) (x := ad 0) C dX2_frame_0 0 rfl rfl ?_
  refine cg_frames (pc := 1) C fl_X2_23 dX2_frame_1 ?_
  refine gV_iload_n (pc := 4) C dX2_frame_4 1 rfl rfl ?_
  refine gV_callV (pc := 5) (As := [.int f]) (rest := []) C ml_X2_121 gy_X1_has gv_X1_has (c_has1 _) ⟨1, 1, _, _, rfl, rfl, rfl⟩ rfl rfl ⟨by decide, by decide⟩ (Nat.le_of_ble_eq_true rfl) (by decide) (by decide) dX2_frame_5 ?_
  rintro _ _ ⟨rfl, rfl⟩
  refine gV_if_ne (pc := 8) C 13 dX2_frame_8 (by decide) (fun c_1 => ?_) (fun c_1 => ?_)
  · skip
    refine gV_iload_n (pc := 13) C dX2_frame_13 2 rfl rfl ?_
    refine gV_bipush (pc := 14) (v := 16) C dX2_frame_14 (by decide) ?_
    refine gV_icmp_lt (pc := 16) C 43 dX2_frame_16 (by decide) (fun c_2 => ?_) (fun c_2 => ?_)
    · skip
      refine gV_aload_n (pc := 43) (x := ad 0) C dX2_frame_43 0 rfl rfl ?_
      refine cg_frames (pc := 44) C fl_X2_23 dX2_frame_44 ?_
      refine cg_content1 (pc := 47) C fl_X2_111 dX2_frame_47 ?_
      refine gV_iload_n (pc := 50) C dX2_frame_50 1 rfl rfl ?_
      refine ca_fc (pc := 51) C (has_vin c_1 (by omega)) dX2_frame_51 ?_
      cases er_3 : ph_R σ 0 f.toNatClampNeg with
      | none =>
        refine gV_astoreq_n (pc := 52) (r := none) (lv' := [(3, .null), (0, .ref (ad 0)), (1, .int f), (2, .int x)]) C dX2_frame_52 rfl (by decide) rfl ?_
        refine gV_iload_n (pc := 53) C dX2_frame_53 3 rfl rfl ?_
        by_cases t_4 : x = 0
        · refine gV_tableIn (pc := 54) C 80 dX2_frame_54 (by rw [t_4]; decide) (by rw [t_4]; decide) (by rw [t_4]; rfl) (by decide) ?_
          refine gV_aload_n (pc := 80) (x := ad 0) C dX2_frame_80 1 rfl rfl ?_
          refine cg_used (pc := 81) C fl_X2_30 dX2_frame_81 ?_
          refine gV_iload_n (pc := 84) C dX2_frame_84 2 rfl rfl ?_
          refine ca_us (pc := 85) C (has_vin c_1 (by omega)) dX2_frame_85 ?_
          refine gV_if_eq (pc := 86) C 93 dX2_frame_86 (by decide) (fun c_5 => ?_) (fun c_5 => ?_)
          · skip
            refine gV_iconst (pc := 93) (v := 0) C dX2_frame_93 (by decide) ?_
            refine gV_iret (pc := 94) C dX2_frame_94 (by decide) (by decide) ?_
            exact ⟨by rw [ph_frV, if_neg c_1, if_pos c_2, ph_fr2, er_3]; simp only [ph_fr3]; rw [if_pos t_4, if_pos c_5], rfl⟩
          · skip
            refine gV_iconst (pc := 89) (v := 1) C dX2_frame_89 (by decide) ?_
            refine gV_goto (pc := 90) C 94 dX2_frame_90 (by decide) ?_
            refine gV_iret (pc := 94) C dX2_frame_94 (by decide) (by decide) ?_
            exact ⟨by rw [ph_frV, if_neg c_1, if_pos c_2, ph_fr2, er_3]; simp only [ph_fr3]; rw [if_pos t_4, if_neg c_5], rfl⟩
        by_cases t_6 : x = 1
        · refine gV_tableIn (pc := 54) C 95 dX2_frame_54 (by rw [t_6]; decide) (by rw [t_6]; decide) (by rw [t_6]; rfl) (by decide) ?_
          refine gV_aloadq_n (pc := 95) (r := none) C dX2_frame_95 0 rfl rfl ?_
          refine gV_ifnonnull (pc := 96) (r := none) C 103 dX2_frame_96 (by decide) (fun _ h => nomatch h) (fun _ => ?_)
          refine gV_iconst (pc := 99) (v := (-1)) C dX2_frame_99 (by decide) ?_
          refine gV_goto (pc := 100) C 108 dX2_frame_100 (by decide) ?_
          refine gV_iret (pc := 108) C dX2_frame_108 (by decide) (by decide) ?_
          exact ⟨by rw [ph_frV, if_neg c_1, if_pos c_2, ph_fr2, er_3]; simp only [ph_fr3]; rw [if_neg t_4, if_pos t_6], rfl⟩
        by_cases t_7 : x = 2
        · refine gV_tableIn (pc := 54) C 109 dX2_frame_54 (by rw [t_7]; decide) (by rw [t_7]; decide) (by rw [t_7]; rfl) (by decide) ?_
          refine gV_aloadq_n (pc := 109) (r := none) C dX2_frame_109 0 rfl rfl ?_
          refine gV_ifnonnull (pc := 110) (r := none) C 117 dX2_frame_110 (by decide) (fun _ h => nomatch h) (fun _ => ?_)
          refine gV_iconst (pc := 113) (v := (-1)) C dX2_frame_113 (by decide) ?_
          refine gV_goto (pc := 114) C 121 dX2_frame_114 (by decide) ?_
          refine gV_iret (pc := 121) C dX2_frame_121 (by decide) (by decide) ?_
          exact ⟨by rw [ph_frV, if_neg c_1, if_pos c_2, ph_fr2, er_3]; simp only [ph_fr3]; rw [if_neg t_4, if_neg t_6, if_pos t_7], rfl⟩
        have nt_4 : x.toInt ≠ 0 := fun e => t_4 (Int32.toInt_inj.mp (e.trans (by decide)))
        have nt_6 : x.toInt ≠ 1 := fun e => t_6 (Int32.toInt_inj.mp (e.trans (by decide)))
        have nt_7 : x.toInt ≠ 2 := fun e => t_7 (Int32.toInt_inj.mp (e.trans (by decide)))
        refine gV_tableOut (pc := 54) C 122 dX2_frame_54 (by omega) (by decide) ?_
        refine gV_iconst (pc := 122) (v := (-1)) C dX2_frame_122 (by decide) ?_
        refine gV_iret (pc := 123) C dX2_frame_123 (by decide) (by decide) ?_
        exact ⟨by rw [ph_frV, if_neg c_1, if_pos c_2, ph_fr2, er_3]; simp only [ph_fr3]; rw [if_neg t_4, if_neg t_6, if_neg t_7], rfl⟩
      | some a_3 =>
        have m_3 : a_3 ∈ ph_L σ := hok.refs _ _ _ er_3
        refine gV_astore_n (pc := 52) (x := a_3) (lv' := [(3, .ref a_3), (0, .ref (ad 0)), (1, .int f), (2, .int x)]) C dX2_frame_52 rfl (by decide) rfl ?_
        refine gV_iload_n (pc := 53) C dX2_frame_53 3 rfl rfl ?_
        by_cases t_8 : x = 0
        · refine gV_tableIn (pc := 54) C 80 dX2_frame_54 (by rw [t_8]; decide) (by rw [t_8]; decide) (by rw [t_8]; rfl) (by decide) ?_
          refine gV_aload_n (pc := 80) (x := ad 0) C dX2_frame_80 1 rfl rfl ?_
          refine cg_used (pc := 81) C fl_X2_30 dX2_frame_81 ?_
          refine gV_iload_n (pc := 84) C dX2_frame_84 2 rfl rfl ?_
          refine ca_us (pc := 85) C (has_vin c_1 (by omega)) dX2_frame_85 ?_
          refine gV_if_eq (pc := 86) C 93 dX2_frame_86 (by decide) (fun c_9 => ?_) (fun c_9 => ?_)
          · skip
            refine gV_iconst (pc := 93) (v := 0) C dX2_frame_93 (by decide) ?_
            refine gV_iret (pc := 94) C dX2_frame_94 (by decide) (by decide) ?_
            exact ⟨by rw [ph_frV, if_neg c_1, if_pos c_2, ph_fr2, er_3]; simp only [ph_fr3]; rw [if_pos t_8, if_pos c_9], rfl⟩
          · skip
            refine gV_iconst (pc := 89) (v := 1) C dX2_frame_89 (by decide) ?_
            refine gV_goto (pc := 90) C 94 dX2_frame_90 (by decide) ?_
            refine gV_iret (pc := 94) C dX2_frame_94 (by decide) (by decide) ?_
            exact ⟨by rw [ph_frV, if_neg c_1, if_pos c_2, ph_fr2, er_3]; simp only [ph_fr3]; rw [if_pos t_8, if_neg c_9], rfl⟩
        by_cases t_10 : x = 1
        · refine gV_tableIn (pc := 54) C 95 dX2_frame_54 (by rw [t_10]; decide) (by rw [t_10]; decide) (by rw [t_10]; rfl) (by decide) ?_
          refine gV_aload_n (pc := 95) (x := a_3) C dX2_frame_95 0 rfl rfl ?_
          refine gV_ifnonnull (pc := 96) (r := some a_3) C 103 dX2_frame_96 (by decide) (fun _ _ => ?_) (fun h => nomatch h)
          refine gV_aload_n (pc := 103) (x := ad 0) C dX2_frame_103 1 rfl rfl ?_
          refine gV_aload_n (pc := 104) (x := a_3) C dX2_frame_104 0 rfl rfl ?_
          refine gV_callV (pc := 105) (As := [.ref a_3]) (rest := []) C ml_X2_124 gy_X2_leastHolder gv_X2_leastHolder (c_leastHolder hok m_3) ⟨0, 2, _, _, rfl, rfl, rfl⟩ rfl rfl ⟨by decide, by decide⟩ (Nat.le_of_ble_eq_true rfl) (by decide) (by decide) dX2_frame_105 ?_
          rintro _ _ ⟨rfl, rfl⟩
          refine gV_iret (pc := 108) C dX2_frame_108 (by decide) (by decide) ?_
          exact ⟨by rw [ph_frV, if_neg c_1, if_pos c_2, ph_fr2, er_3]; simp only [ph_fr3]; rw [if_neg t_8, if_pos t_10], rfl⟩
        by_cases t_11 : x = 2
        · refine gV_tableIn (pc := 54) C 109 dX2_frame_54 (by rw [t_11]; decide) (by rw [t_11]; decide) (by rw [t_11]; rfl) (by decide) ?_
          refine gV_aload_n (pc := 109) (x := a_3) C dX2_frame_109 0 rfl rfl ?_
          refine gV_ifnonnull (pc := 110) (r := some a_3) C 117 dX2_frame_110 (by decide) (fun _ _ => ?_) (fun h => nomatch h)
          refine gV_aload_n (pc := 117) (x := a_3) C dX2_frame_117 0 rfl rfl ?_
          refine cg_b_pageNumber (pc := 118) (σ := σ) C m_3 fl_X2_127 dX2_frame_118 ?_
          refine gV_iret (pc := 121) C dX2_frame_121 (by decide) (by decide) ?_
          exact ⟨by rw [ph_frV, if_neg c_1, if_pos c_2, ph_fr2, er_3]; simp only [ph_fr3]; rw [if_neg t_8, if_neg t_10, if_pos t_11], rfl⟩
        have nt_8 : x.toInt ≠ 0 := fun e => t_8 (Int32.toInt_inj.mp (e.trans (by decide)))
        have nt_10 : x.toInt ≠ 1 := fun e => t_10 (Int32.toInt_inj.mp (e.trans (by decide)))
        have nt_11 : x.toInt ≠ 2 := fun e => t_11 (Int32.toInt_inj.mp (e.trans (by decide)))
        refine gV_tableOut (pc := 54) C 122 dX2_frame_54 (by omega) (by decide) ?_
        refine gV_iconst (pc := 122) (v := (-1)) C dX2_frame_122 (by decide) ?_
        refine gV_iret (pc := 123) C dX2_frame_123 (by decide) (by decide) ?_
        exact ⟨by rw [ph_frV, if_neg c_1, if_pos c_2, ph_fr2, er_3]; simp only [ph_fr3]; rw [if_neg t_8, if_neg t_10, if_neg t_11], rfl⟩
    · skip
      refine gV_iload_n (pc := 19) C dX2_frame_19 2 rfl rfl ?_
      refine gV_bipush (pc := 20) (v := 32) C dX2_frame_20 (by decide) ?_
      refine gV_icmp_ge (pc := 22) C 43 dX2_frame_22 (by decide) (fun c_12 => ?_) (fun c_12 => ?_)
      · skip
        refine gV_aload_n (pc := 43) (x := ad 0) C dX2_frame_43 0 rfl rfl ?_
        refine cg_frames (pc := 44) C fl_X2_23 dX2_frame_44 ?_
        refine cg_content1 (pc := 47) C fl_X2_111 dX2_frame_47 ?_
        refine gV_iload_n (pc := 50) C dX2_frame_50 1 rfl rfl ?_
        refine ca_fc (pc := 51) C (has_vin c_1 (by omega)) dX2_frame_51 ?_
        cases er_13 : ph_R σ 0 f.toNatClampNeg with
        | none =>
          refine gV_astoreq_n (pc := 52) (r := none) (lv' := [(3, .null), (0, .ref (ad 0)), (1, .int f), (2, .int x)]) C dX2_frame_52 rfl (by decide) rfl ?_
          refine gV_iload_n (pc := 53) C dX2_frame_53 3 rfl rfl ?_
          by_cases t_14 : x = 0
          · refine gV_tableIn (pc := 54) C 80 dX2_frame_54 (by rw [t_14]; decide) (by rw [t_14]; decide) (by rw [t_14]; rfl) (by decide) ?_
            refine gV_aload_n (pc := 80) (x := ad 0) C dX2_frame_80 1 rfl rfl ?_
            refine cg_used (pc := 81) C fl_X2_30 dX2_frame_81 ?_
            refine gV_iload_n (pc := 84) C dX2_frame_84 2 rfl rfl ?_
            refine ca_us (pc := 85) C (has_vin c_1 (by omega)) dX2_frame_85 ?_
            refine gV_if_eq (pc := 86) C 93 dX2_frame_86 (by decide) (fun c_15 => ?_) (fun c_15 => ?_)
            · skip
              refine gV_iconst (pc := 93) (v := 0) C dX2_frame_93 (by decide) ?_
              refine gV_iret (pc := 94) C dX2_frame_94 (by decide) (by decide) ?_
              exact ⟨by rw [ph_frV, if_neg c_1, if_neg c_2, if_pos c_12, ph_fr2, er_13]; simp only [ph_fr3]; rw [if_pos t_14, if_pos c_15], rfl⟩
            · skip
              refine gV_iconst (pc := 89) (v := 1) C dX2_frame_89 (by decide) ?_
              refine gV_goto (pc := 90) C 94 dX2_frame_90 (by decide) ?_
              refine gV_iret (pc := 94) C dX2_frame_94 (by decide) (by decide) ?_
              exact ⟨by rw [ph_frV, if_neg c_1, if_neg c_2, if_pos c_12, ph_fr2, er_13]; simp only [ph_fr3]; rw [if_pos t_14, if_neg c_15], rfl⟩
          by_cases t_16 : x = 1
          · refine gV_tableIn (pc := 54) C 95 dX2_frame_54 (by rw [t_16]; decide) (by rw [t_16]; decide) (by rw [t_16]; rfl) (by decide) ?_
            refine gV_aloadq_n (pc := 95) (r := none) C dX2_frame_95 0 rfl rfl ?_
            refine gV_ifnonnull (pc := 96) (r := none) C 103 dX2_frame_96 (by decide) (fun _ h => nomatch h) (fun _ => ?_)
            refine gV_iconst (pc := 99) (v := (-1)) C dX2_frame_99 (by decide) ?_
            refine gV_goto (pc := 100) C 108 dX2_frame_100 (by decide) ?_
            refine gV_iret (pc := 108) C dX2_frame_108 (by decide) (by decide) ?_
            exact ⟨by rw [ph_frV, if_neg c_1, if_neg c_2, if_pos c_12, ph_fr2, er_13]; simp only [ph_fr3]; rw [if_neg t_14, if_pos t_16], rfl⟩
          by_cases t_17 : x = 2
          · refine gV_tableIn (pc := 54) C 109 dX2_frame_54 (by rw [t_17]; decide) (by rw [t_17]; decide) (by rw [t_17]; rfl) (by decide) ?_
            refine gV_aloadq_n (pc := 109) (r := none) C dX2_frame_109 0 rfl rfl ?_
            refine gV_ifnonnull (pc := 110) (r := none) C 117 dX2_frame_110 (by decide) (fun _ h => nomatch h) (fun _ => ?_)
            refine gV_iconst (pc := 113) (v := (-1)) C dX2_frame_113 (by decide) ?_
            refine gV_goto (pc := 114) C 121 dX2_frame_114 (by decide) ?_
            refine gV_iret (pc := 121) C dX2_frame_121 (by decide) (by decide) ?_
            exact ⟨by rw [ph_frV, if_neg c_1, if_neg c_2, if_pos c_12, ph_fr2, er_13]; simp only [ph_fr3]; rw [if_neg t_14, if_neg t_16, if_pos t_17], rfl⟩
          have nt_14 : x.toInt ≠ 0 := fun e => t_14 (Int32.toInt_inj.mp (e.trans (by decide)))
          have nt_16 : x.toInt ≠ 1 := fun e => t_16 (Int32.toInt_inj.mp (e.trans (by decide)))
          have nt_17 : x.toInt ≠ 2 := fun e => t_17 (Int32.toInt_inj.mp (e.trans (by decide)))
          refine gV_tableOut (pc := 54) C 122 dX2_frame_54 (by omega) (by decide) ?_
          refine gV_iconst (pc := 122) (v := (-1)) C dX2_frame_122 (by decide) ?_
          refine gV_iret (pc := 123) C dX2_frame_123 (by decide) (by decide) ?_
          exact ⟨by rw [ph_frV, if_neg c_1, if_neg c_2, if_pos c_12, ph_fr2, er_13]; simp only [ph_fr3]; rw [if_neg t_14, if_neg t_16, if_neg t_17], rfl⟩
        | some a_13 =>
          have m_13 : a_13 ∈ ph_L σ := hok.refs _ _ _ er_13
          refine gV_astore_n (pc := 52) (x := a_13) (lv' := [(3, .ref a_13), (0, .ref (ad 0)), (1, .int f), (2, .int x)]) C dX2_frame_52 rfl (by decide) rfl ?_
          refine gV_iload_n (pc := 53) C dX2_frame_53 3 rfl rfl ?_
          by_cases t_18 : x = 0
          · refine gV_tableIn (pc := 54) C 80 dX2_frame_54 (by rw [t_18]; decide) (by rw [t_18]; decide) (by rw [t_18]; rfl) (by decide) ?_
            refine gV_aload_n (pc := 80) (x := ad 0) C dX2_frame_80 1 rfl rfl ?_
            refine cg_used (pc := 81) C fl_X2_30 dX2_frame_81 ?_
            refine gV_iload_n (pc := 84) C dX2_frame_84 2 rfl rfl ?_
            refine ca_us (pc := 85) C (has_vin c_1 (by omega)) dX2_frame_85 ?_
            refine gV_if_eq (pc := 86) C 93 dX2_frame_86 (by decide) (fun c_19 => ?_) (fun c_19 => ?_)
            · skip
              refine gV_iconst (pc := 93) (v := 0) C dX2_frame_93 (by decide) ?_
              refine gV_iret (pc := 94) C dX2_frame_94 (by decide) (by decide) ?_
              exact ⟨by rw [ph_frV, if_neg c_1, if_neg c_2, if_pos c_12, ph_fr2, er_13]; simp only [ph_fr3]; rw [if_pos t_18, if_pos c_19], rfl⟩
            · skip
              refine gV_iconst (pc := 89) (v := 1) C dX2_frame_89 (by decide) ?_
              refine gV_goto (pc := 90) C 94 dX2_frame_90 (by decide) ?_
              refine gV_iret (pc := 94) C dX2_frame_94 (by decide) (by decide) ?_
              exact ⟨by rw [ph_frV, if_neg c_1, if_neg c_2, if_pos c_12, ph_fr2, er_13]; simp only [ph_fr3]; rw [if_pos t_18, if_neg c_19], rfl⟩
          by_cases t_20 : x = 1
          · refine gV_tableIn (pc := 54) C 95 dX2_frame_54 (by rw [t_20]; decide) (by rw [t_20]; decide) (by rw [t_20]; rfl) (by decide) ?_
            refine gV_aload_n (pc := 95) (x := a_13) C dX2_frame_95 0 rfl rfl ?_
            refine gV_ifnonnull (pc := 96) (r := some a_13) C 103 dX2_frame_96 (by decide) (fun _ _ => ?_) (fun h => nomatch h)
            refine gV_aload_n (pc := 103) (x := ad 0) C dX2_frame_103 1 rfl rfl ?_
            refine gV_aload_n (pc := 104) (x := a_13) C dX2_frame_104 0 rfl rfl ?_
            refine gV_callV (pc := 105) (As := [.ref a_13]) (rest := []) C ml_X2_124 gy_X2_leastHolder gv_X2_leastHolder (c_leastHolder hok m_13) ⟨0, 2, _, _, rfl, rfl, rfl⟩ rfl rfl ⟨by decide, by decide⟩ (Nat.le_of_ble_eq_true rfl) (by decide) (by decide) dX2_frame_105 ?_
            rintro _ _ ⟨rfl, rfl⟩
            refine gV_iret (pc := 108) C dX2_frame_108 (by decide) (by decide) ?_
            exact ⟨by rw [ph_frV, if_neg c_1, if_neg c_2, if_pos c_12, ph_fr2, er_13]; simp only [ph_fr3]; rw [if_neg t_18, if_pos t_20], rfl⟩
          by_cases t_21 : x = 2
          · refine gV_tableIn (pc := 54) C 109 dX2_frame_54 (by rw [t_21]; decide) (by rw [t_21]; decide) (by rw [t_21]; rfl) (by decide) ?_
            refine gV_aload_n (pc := 109) (x := a_13) C dX2_frame_109 0 rfl rfl ?_
            refine gV_ifnonnull (pc := 110) (r := some a_13) C 117 dX2_frame_110 (by decide) (fun _ _ => ?_) (fun h => nomatch h)
            refine gV_aload_n (pc := 117) (x := a_13) C dX2_frame_117 0 rfl rfl ?_
            refine cg_b_pageNumber (pc := 118) (σ := σ) C m_13 fl_X2_127 dX2_frame_118 ?_
            refine gV_iret (pc := 121) C dX2_frame_121 (by decide) (by decide) ?_
            exact ⟨by rw [ph_frV, if_neg c_1, if_neg c_2, if_pos c_12, ph_fr2, er_13]; simp only [ph_fr3]; rw [if_neg t_18, if_neg t_20, if_pos t_21], rfl⟩
          have nt_18 : x.toInt ≠ 0 := fun e => t_18 (Int32.toInt_inj.mp (e.trans (by decide)))
          have nt_20 : x.toInt ≠ 1 := fun e => t_20 (Int32.toInt_inj.mp (e.trans (by decide)))
          have nt_21 : x.toInt ≠ 2 := fun e => t_21 (Int32.toInt_inj.mp (e.trans (by decide)))
          refine gV_tableOut (pc := 54) C 122 dX2_frame_54 (by omega) (by decide) ?_
          refine gV_iconst (pc := 122) (v := (-1)) C dX2_frame_122 (by decide) ?_
          refine gV_iret (pc := 123) C dX2_frame_123 (by decide) (by decide) ?_
          exact ⟨by rw [ph_frV, if_neg c_1, if_neg c_2, if_pos c_12, ph_fr2, er_13]; simp only [ph_fr3]; rw [if_neg t_18, if_neg t_20, if_neg t_21], rfl⟩
      · skip
        have hwd : vp_in (f * 16 + x - 16) (16 * F) := by
          obtain ⟨j, hj, rfl⟩ := ph_has_in c_1 (by omega)
          obtain ⟨z, hz, -, e⟩ := wd_in (F := F) (by omega) hj c_2 c_12
          rw [e]; exact vp_in_nI (by omega) (by omega)
        refine gV_aload_n (pc := 25) (x := ad 0) C dX2_frame_25 0 rfl rfl ?_
        refine cg_frames (pc := 26) C fl_X2_23 dX2_frame_26 ?_
        refine cg_words1 (pc := 29) C fl_X2_87 dX2_frame_29 ?_
        refine gV_iload_n (pc := 32) C dX2_frame_32 1 rfl rfl ?_
        refine gV_bipush (pc := 33) (v := 16) C dX2_frame_33 (by decide) ?_
        refine gV_imul (pc := 35) C dX2_frame_35 ?_
        refine gV_iload_n (pc := 36) C dX2_frame_36 2 rfl rfl ?_
        refine gV_iadd (pc := 37) C dX2_frame_37 ?_
        refine gV_bipush (pc := 38) (v := 16) C dX2_frame_38 (by decide) ?_
        refine gV_isub (pc := 40) C dX2_frame_40 ?_
        refine ca_fw (pc := 41) C hwd dX2_frame_41 ?_
        refine gV_iret (pc := 42) C dX2_frame_42 (by decide) (by decide) ?_
        exact ⟨by rw [ph_frV, if_neg c_1, if_neg c_2, if_neg c_12], rfl⟩
  · skip
    refine gV_iconst (pc := 11) (v := (-1)) C dX2_frame_11 (by decide) ?_
    refine gV_iret (pc := 12) C dX2_frame_12 (by decide) (by decide) ?_
    exact ⟨by rw [ph_frV, if_pos c_1], rfl⟩
abbrev rm_X2_look : Room := { frames := 2, cells := 0, slots := 0, locals := 45 }
set_option maxHeartbeats 4000000 in
set_option maxRecDepth 100000 in
/-- look -/
theorem c_look {D : va_G} {ad : Nat → Nat} {ct : Nat → ClassId} {F S : Nat} {σ : ph_S} (x : Int32) (hok : ph_ok F S σ) : gM yX2_look cX2_look 2 (some .int) rm_X2_look D (gt ct) (cw ad ct F S σ) [.ref (ad 0), .int x] (fun v w => v = some (.int (ph_lkV F S σ x)) ∧ w = cw ad ct F S σ) := by
  refine gM_in RX2 rfl (by decide) (Nat.le_of_ble_eq_true rfl) (fun X C => ?_)
  have hF := hok.F16
  have hS := hok.S64
  refine gV_iload_n (pc := 0) C dX2_look_0 1 rfl rfl ?_
  by_cases t_1 : x = 0
  · refine gV_tableIn (pc := 1) C 60 dX2_look_1 (by rw [t_1]; decide) (by rw [t_1]; decide) (by rw [t_1]; rfl) (by decide) ?_
    refine gV_aload_n (pc := 60) (x := ad 0) C dX2_look_60 0 rfl rfl ?_
    refine gV_callV (pc := 61) (As := []) (rest := []) C ml_X2_137 gy_X2_countProcesses gv_X2_countProcesses (c_countProcesses) ⟨0, 2, _, _, rfl, rfl, rfl⟩ rfl rfl ⟨by decide, by decide⟩ (Nat.le_of_ble_eq_true rfl) (by decide) (by decide) dX2_look_61 ?_
    rintro _ _ ⟨rfl, rfl⟩
    refine gV_iret (pc := 64) C dX2_look_64 (by decide) (by decide) ?_
    exact ⟨by rw [ph_lkV, if_pos t_1], rfl⟩
  by_cases t_2 : x = 1
  · refine gV_tableIn (pc := 1) C 65 dX2_look_1 (by rw [t_2]; decide) (by rw [t_2]; decide) (by rw [t_2]; rfl) (by decide) ?_
    refine gV_aload_n (pc := 65) (x := ad 0) C dX2_look_65 0 rfl rfl ?_
    refine cg_frames (pc := 66) C fl_X2_23 dX2_look_66 ?_
    refine gV_callV (pc := 69) (As := []) (rest := []) C ml_X2_108 gy_X1_countFree gv_X1_countFree (c_countFree1 (by omega)) ⟨1, 1, _, _, rfl, rfl, rfl⟩ rfl rfl ⟨by decide, by decide⟩ (Nat.le_of_ble_eq_true rfl) (by decide) (by decide) dX2_look_69 ?_
    rintro _ _ ⟨rfl, rfl⟩
    refine gV_iret (pc := 72) C dX2_look_72 (by decide) (by decide) ?_
    exact ⟨by rw [ph_lkV, if_neg t_1, if_pos t_2], rfl⟩
  by_cases t_3 : x = 2
  · refine gV_tableIn (pc := 1) C 73 dX2_look_1 (by rw [t_3]; decide) (by rw [t_3]; decide) (by rw [t_3]; rfl) (by decide) ?_
    refine gV_aload_n (pc := 73) (x := ad 0) C dX2_look_73 0 rfl rfl ?_
    refine cg_sectors (pc := 74) C fl_X2_27 dX2_look_74 ?_
    refine gV_callV (pc := 77) (As := []) (rest := []) C ml_X2_108 gy_X1_countFree gv_X1_countFree (c_countFree2 (by omega)) ⟨2, 1, _, _, rfl, rfl, rfl⟩ rfl rfl ⟨by decide, by decide⟩ (Nat.le_of_ble_eq_true rfl) (by decide) (by decide) dX2_look_77 ?_
    rintro _ _ ⟨rfl, rfl⟩
    refine gV_iret (pc := 80) C dX2_look_80 (by decide) (by decide) ?_
    exact ⟨by rw [ph_lkV, if_neg t_1, if_neg t_2, if_pos t_3], rfl⟩
  by_cases t_4 : x = 3
  · refine gV_tableIn (pc := 1) C 81 dX2_look_1 (by rw [t_4]; decide) (by rw [t_4]; decide) (by rw [t_4]; rfl) (by decide) ?_
    refine gV_aload_n (pc := 81) (x := ad 0) C dX2_look_81 0 rfl rfl ?_
    refine cg_hand (pc := 82) C fl_X2_140 dX2_look_82 ?_
    refine gV_iret (pc := 85) C dX2_look_85 (by decide) (by decide) ?_
    exact ⟨by rw [ph_lkV, if_neg t_1, if_neg t_2, if_neg t_3, if_pos t_4], rfl⟩
  by_cases t_5 : x = 4
  · refine gV_tableIn (pc := 1) C 86 dX2_look_1 (by rw [t_5]; decide) (by rw [t_5]; decide) (by rw [t_5]; rfl) (by decide) ?_
    refine gV_aload_n (pc := 86) (x := ad 0) C dX2_look_86 0 rfl rfl ?_
    refine gV_callV (pc := 87) (As := []) (rest := []) C ml_X2_143 gy_X2_countBodies gv_X2_countBodies (c_countBodies hok) ⟨0, 2, _, _, rfl, rfl, rfl⟩ rfl rfl ⟨by decide, by decide⟩ (Nat.le_of_ble_eq_true rfl) (by decide) (by decide) dX2_look_87 ?_
    rintro _ _ ⟨rfl, rfl⟩
    refine gV_iret (pc := 90) C dX2_look_90 (by decide) (by decide) ?_
    exact ⟨by rw [ph_lkV, if_neg t_1, if_neg t_2, if_neg t_3, if_neg t_4, if_pos t_5], rfl⟩
  by_cases t_6 : x = 5
  · refine gV_tableIn (pc := 1) C 91 dX2_look_1 (by rw [t_6]; decide) (by rw [t_6]; decide) (by rw [t_6]; rfl) (by decide) ?_
    refine gV_aload_n (pc := 91) (x := ad 0) C dX2_look_91 0 rfl rfl ?_
    refine gV_callV (pc := 92) (As := []) (rest := []) C ml_X2_146 gy_X2_countDirty gv_X2_countDirty (c_countDirty hok) ⟨0, 2, _, _, rfl, rfl, rfl⟩ rfl rfl ⟨by decide, by decide⟩ (Nat.le_of_ble_eq_true rfl) (by decide) (by decide) dX2_look_92 ?_
    rintro _ _ ⟨rfl, rfl⟩
    refine gV_iret (pc := 95) C dX2_look_95 (by decide) (by decide) ?_
    exact ⟨by rw [ph_lkV, if_neg t_1, if_neg t_2, if_neg t_3, if_neg t_4, if_neg t_5, if_pos t_6], rfl⟩
  by_cases t_7 : x = 6
  · refine gV_tableIn (pc := 1) C 96 dX2_look_1 (by rw [t_7]; decide) (by rw [t_7]; decide) (by rw [t_7]; rfl) (by decide) ?_
    refine gV_aload_n (pc := 96) (x := ad 0) C dX2_look_96 0 rfl rfl ?_
    refine cg_accesses (pc := 97) C fl_X2_73 dX2_look_97 ?_
    refine gV_iret (pc := 100) C dX2_look_100 (by decide) (by decide) ?_
    exact ⟨by rw [ph_lkV, if_neg t_1, if_neg t_2, if_neg t_3, if_neg t_4, if_neg t_5, if_neg t_6, if_pos t_7], rfl⟩
  by_cases t_8 : x = 7
  · refine gV_tableIn (pc := 1) C 101 dX2_look_1 (by rw [t_8]; decide) (by rw [t_8]; decide) (by rw [t_8]; rfl) (by decide) ?_
    refine gV_aload_n (pc := 101) (x := ad 0) C dX2_look_101 0 rfl rfl ?_
    refine cg_taken (pc := 102) C fl_X2_149 dX2_look_102 ?_
    refine gV_iret (pc := 105) C dX2_look_105 (by decide) (by decide) ?_
    exact ⟨by rw [ph_lkV, if_neg t_1, if_neg t_2, if_neg t_3, if_neg t_4, if_neg t_5, if_neg t_6, if_neg t_7, if_pos t_8], rfl⟩
  by_cases t_9 : x = 8
  · refine gV_tableIn (pc := 1) C 106 dX2_look_1 (by rw [t_9]; decide) (by rw [t_9]; decide) (by rw [t_9]; rfl) (by decide) ?_
    refine gV_aload_n (pc := 106) (x := ad 0) C dX2_look_106 0 rfl rfl ?_
    refine cg_brought (pc := 107) C fl_X2_152 dX2_look_107 ?_
    refine gV_iret (pc := 110) C dX2_look_110 (by decide) (by decide) ?_
    exact ⟨by rw [ph_lkV, if_neg t_1, if_neg t_2, if_neg t_3, if_neg t_4, if_neg t_5, if_neg t_6, if_neg t_7, if_neg t_8, if_pos t_9], rfl⟩
  by_cases t_10 : x = 9
  · refine gV_tableIn (pc := 1) C 111 dX2_look_1 (by rw [t_10]; decide) (by rw [t_10]; decide) (by rw [t_10]; rfl) (by decide) ?_
    refine gV_aload_n (pc := 111) (x := ad 0) C dX2_look_111 0 rfl rfl ?_
    refine cg_storings (pc := 112) C fl_X2_155 dX2_look_112 ?_
    refine gV_iret (pc := 115) C dX2_look_115 (by decide) (by decide) ?_
    exact ⟨by rw [ph_lkV, if_neg t_1, if_neg t_2, if_neg t_3, if_neg t_4, if_neg t_5, if_neg t_6, if_neg t_7, if_neg t_8, if_neg t_9, if_pos t_10], rfl⟩
  by_cases t_11 : x = 10
  · refine gV_tableIn (pc := 1) C 116 dX2_look_1 (by rw [t_11]; decide) (by rw [t_11]; decide) (by rw [t_11]; rfl) (by decide) ?_
    refine gV_aload_n (pc := 116) (x := ad 0) C dX2_look_116 0 rfl rfl ?_
    refine cg_copies (pc := 117) C fl_X2_158 dX2_look_117 ?_
    refine gV_iret (pc := 120) C dX2_look_120 (by decide) (by decide) ?_
    exact ⟨by rw [ph_lkV, if_neg t_1, if_neg t_2, if_neg t_3, if_neg t_4, if_neg t_5, if_neg t_6, if_neg t_7, if_neg t_8, if_neg t_9, if_neg t_10, if_pos t_11], rfl⟩
  have nt_1 : x.toInt ≠ 0 := fun e => t_1 (Int32.toInt_inj.mp (e.trans (by decide)))
  have nt_2 : x.toInt ≠ 1 := fun e => t_2 (Int32.toInt_inj.mp (e.trans (by decide)))
  have nt_3 : x.toInt ≠ 2 := fun e => t_3 (Int32.toInt_inj.mp (e.trans (by decide)))
  have nt_4 : x.toInt ≠ 3 := fun e => t_4 (Int32.toInt_inj.mp (e.trans (by decide)))
  have nt_5 : x.toInt ≠ 4 := fun e => t_5 (Int32.toInt_inj.mp (e.trans (by decide)))
  have nt_6 : x.toInt ≠ 5 := fun e => t_6 (Int32.toInt_inj.mp (e.trans (by decide)))
  have nt_7 : x.toInt ≠ 6 := fun e => t_7 (Int32.toInt_inj.mp (e.trans (by decide)))
  have nt_8 : x.toInt ≠ 7 := fun e => t_8 (Int32.toInt_inj.mp (e.trans (by decide)))
  have nt_9 : x.toInt ≠ 8 := fun e => t_9 (Int32.toInt_inj.mp (e.trans (by decide)))
  have nt_10 : x.toInt ≠ 9 := fun e => t_10 (Int32.toInt_inj.mp (e.trans (by decide)))
  have nt_11 : x.toInt ≠ 10 := fun e => t_11 (Int32.toInt_inj.mp (e.trans (by decide)))
  refine gV_tableOut (pc := 1) C 121 dX2_look_1 (by omega) (by decide) ?_
  refine gV_iconst (pc := 121) (v := (-1)) C dX2_look_121 (by decide) ?_
  refine gV_iret (pc := 122) C dX2_look_122 (by decide) (by decide) ?_
  exact ⟨by rw [ph_lkV, if_neg t_1, if_neg t_2, if_neg t_3, if_neg t_4, if_neg t_5, if_neg t_6, if_neg t_7, if_neg t_8, if_neg t_9, if_neg t_10, if_neg t_11], rfl⟩
