theorem has_vin {N : Nat} {r : Int32} (h : ¬ ph_has N r = 0) (hN : N < 2 ^ 31) : vp_in r N := by
  obtain ⟨j, hj, e⟩ := ph_has_in h hN
  rw [e]
  exact vp_in_nI hj hN
def ph_lay (σ : ph_S) (a f : Nat) : ph_S := ph_sR (ph_sB σ 1 a (nI f)) 0 f (some a)
def ph_st4 (σ : ph_S) (a : Nat) : ph_S := ph_sI (ph_sB σ 4 a 0) 4 (ph_I (ph_sB σ 4 a 0) 4 + 1)
def ph_st3 (F S : Nat) (σ : ph_S) (a : Nat) (s : Int32) : ph_S := ph_st4 (ph_cpy S F 1 0 σ s (ph_B σ 1 a)) a
def ph_st2 (F S : Nat) (σ : ph_S) (a : Nat) (s : Int32) : ph_S := if ph_has S s = 0 then σ else ph_st3 F S (ph_sR (ph_sB σ 2 a s) 1 s.toNatClampNeg (some a)) a s
def ph_st (F S : Nat) (σ : ph_S) (a : Nat) : ph_S := if ph_B σ 2 a = -1 then ph_st2 F S σ a (ph_lf (ph_R σ 1) S) else ph_st2 F S σ a (ph_B σ 2 a)
theorem ph_st2_L (F S : Nat) (σ : ph_S) (a : Nat) (s : Int32) : ph_L (ph_st2 F S σ a s) = ph_L σ := by
  unfold ph_st2; split
  · rfl
  · show ph_L (ph_cpy _ _ _ _ _ _ _) = _
    rw [ph_cpy_L]; rfl
theorem ph_st_L (F S : Nat) (σ : ph_S) (a : Nat) : ph_L (ph_st F S σ a) = ph_L σ := by
  unfold ph_st; split <;> rw [ph_st2_L]
theorem ok_lay {F S : Nat} {σ : ph_S} {a f : Nat} (h : ph_ok F S σ) (ha : a ∈ ph_L σ) (hf : f < F) : ph_ok F S (ph_lay σ a f) := ok_sR (ok_fr h a (Or.inr ⟨f, hf, rfl⟩)) 0 f ha
theorem ok_st2 {F S : Nat} {σ : ph_S} {a : Nat} {s : Int32} (h : ph_ok F S σ) (ha : a ∈ ph_L σ) : ph_ok F S (ph_st2 F S σ a s) := by
  unfold ph_st2; split
  · exact h
  · rename_i hh
    have hS := h.S64
    have h1 := ok_se h a (Or.inr (ph_has_in hh (by omega)))
    have h2 := ok_sR h1 1 s.toNatClampNeg ha
    exact ok_sI (ok_di (ok_cpy h2 (by decide)) a (Or.inl rfl)) _ (by decide)
theorem ok_st {F S : Nat} {σ : ph_S} {a : Nat} (h : ph_ok F S σ) (ha : a ∈ ph_L σ) : ph_ok F S (ph_st F S σ a) := by
  unfold ph_st; split <;> exact ok_st2 h ha
def ph_vac2 (σ : ph_S) (a : Nat) (f : Int32) : ph_S := ph_sR (ph_sB σ 1 a (-1)) 0 f.toNatClampNeg none
def ph_vac (F S : Nat) (σ : ph_S) (f : Int32) : ph_S := match ph_R σ 0 f.toNatClampNeg with
  | none => σ
  | some a => if ph_B σ 4 a = 0 then ph_vac2 σ a f else ph_vac2 (ph_st F S σ a) a f
theorem ph_vac_L (F S : Nat) (σ : ph_S) (f : Int32) : ph_L (ph_vac F S σ f) = ph_L σ := by
  unfold ph_vac; split
  · rfl
  · split
    · rfl
    · show ph_L (ph_st _ _ _ _) = _
      rw [ph_st_L]
theorem ok_vac {F S : Nat} {σ : ph_S} {f : Int32} (h : ph_ok F S σ) : ph_ok F S (ph_vac F S σ f) := by
  unfold ph_vac; split
  · exact h
  · rename_i a e
    have ha := h.refs _ _ _ e
    split
    · exact ok_sRn (ok_fr h a (Or.inl rfl)) 0 _
    · exact ok_sRn (ok_fr (ok_st h ha) a (Or.inl rfl)) 0 _
def ph_scS (F : Nat) (σ : ph_S) : ph_S := ph_sI σ 0 (ph_bh F (ph_I σ 0))
def ph_scG (F : Nat) (kept : Int32) : Nat → ph_S → ph_S
  | 0, σ => σ
  | p + 1, σ => if ph_I σ 0 = kept then ph_scG F kept p (ph_scS F σ) else if ph_A σ 2 (ph_I σ 0).toNatClampNeg = 0 then σ else ph_scG F kept p (ph_scS F (ph_sA σ 2 (ph_I σ 0).toNatClampNeg 0))
def ph_scT (F : Nat) (kept : Int32) (σ : ph_S) : ph_S := ph_scG F kept (2 * F) σ
def ph_scE (F : Nat) (kept : Int32) (σ : ph_S) : ph_S := ph_scS F (ph_scT F kept σ)
theorem bh_in {F j : Nat} (hj : j < F) (hF : F ≤ 16) : ∃ i, i < F ∧ ph_bh F (nI j) = nI i := by
  unfold ph_bh
  rw [nI_1]
  split
  · exact ⟨0, by omega, rfl⟩
  · rename_i h
    exact ⟨j + 1, Nat.lt_of_not_le fun z => h (nI_le z (by omega)), rfl⟩
theorem ok_scS {F S : Nat} {σ : ph_S} (h : ph_ok F S σ) : ph_ok F S (ph_scS F σ) := by
  obtain ⟨j, hj, e⟩ := h.hand
  refine ok_hand h ?_
  rw [e]
  exact bh_in hj h.F16
theorem ok_scG {F S : Nat} {kept : Int32} : ∀ (p : Nat) {σ : ph_S}, ph_ok F S σ → ph_ok F S (ph_scG F kept p σ)
  | 0, _, h => h
  | p + 1, σ, h => by
    unfold ph_scG; split
    · exact ok_scG p (ok_scS h)
    · split
      · exact h
      · exact ok_scG p (ok_scS (ok_us h _ (Or.inl rfl)))
theorem ph_scG_L {F : Nat} {kept : Int32} : ∀ (p : Nat) (σ : ph_S), ph_L (ph_scG F kept p σ) = ph_L σ
  | 0, _ => rfl
  | p + 1, σ => by
    unfold ph_scG; split
    · rw [ph_scG_L]; rfl
    · split
      · rfl
      · rw [ph_scG_L]; rfl
theorem ok_scT {F S : Nat} {kept : Int32} {σ : ph_S} (h : ph_ok F S σ) : ph_ok F S (ph_scT F kept σ) := ok_scG _ h
theorem ok_scE {F S : Nat} {kept : Int32} {σ : ph_S} (h : ph_ok F S σ) : ph_ok F S (ph_scE F kept σ) := ok_scS (ok_scG _ h)
theorem ph_scE_L (F : Nat) (kept : Int32) (σ : ph_S) : ph_L (ph_scE F kept σ) = ph_L σ := ph_scG_L _ _
def ph_tk1 (σ : ph_S) : ph_S := ph_sI σ 2 (ph_I σ 2 + 1)
def ph_tkF (F S : Nat) (kept : Int32) (σ : ph_S) : Int32 := if ph_lf (ph_R σ 0) F = -1 then ph_I (ph_scT F kept σ) 0 else ph_lf (ph_R σ 0) F
def ph_tkN (F S : Nat) (kept : Int32) (σ : ph_S) : Nat := (ph_tkF F S kept σ).toNatClampNeg
def ph_tkS (F S : Nat) (kept : Int32) (σ : ph_S) : ph_S := if ph_lf (ph_R σ 0) F = -1 then ph_tk1 (ph_vac F S (ph_scE F kept σ) (ph_I (ph_scT F kept σ) 0)) else ph_tk1 σ
theorem ph_tkS_L (F S : Nat) (kept : Int32) (σ : ph_S) : ph_L (ph_tkS F S kept σ) = ph_L σ := by
  unfold ph_tkS; split
  · show ph_L (ph_vac _ _ _ _) = _
    rw [ph_vac_L, ph_scE_L]
  · rfl
theorem lfG_in (f : Nat → Option Nat) : ∀ d i, ph_lfG f d i = -1 ∨ ∃ j, j < i + d ∧ ph_lfG f d i = nI j
  | 0, _ => Or.inl rfl
  | d + 1, i => by
    unfold ph_lfG; split
    · exact Or.inr ⟨i, by omega, rfl⟩
    · rcases lfG_in f d (i + 1) with h | ⟨j, hj, h⟩
      · exact Or.inl h
      · exact Or.inr ⟨j, by omega, h⟩
theorem lf_in (f : Nat → Option Nat) (N : Nat) : ph_lf f N = -1 ∨ ∃ j, j < N ∧ ph_lf f N = nI j := by
  have := lfG_in f N 0
  rw [Nat.zero_add] at this
  exact this
theorem tkF_in {F S : Nat} {kept : Int32} {σ : ph_S} (h : ph_ok F S σ) : ∃ j, j < F ∧ ph_tkF F S kept σ = nI j := by
  unfold ph_tkF; split
  · exact (ok_scT h).hand
  · rename_i hh
    rcases lf_in (ph_R σ 0) F with h1 | h1
    · exact absurd h1 hh
    · exact h1
theorem tkN_lt {F S : Nat} {kept : Int32} {σ : ph_S} (h : ph_ok F S σ) : ph_tkN F S kept σ < F := by
  obtain ⟨j, hj, e⟩ := tkF_in (kept := kept) h
  have := h.F16
  unfold ph_tkN
  rw [e, nI_clamp (by omega)]; exact hj
theorem tkN_eq {F S : Nat} {kept : Int32} {σ : ph_S} (h : ph_ok F S σ) : nI (ph_tkN F S kept σ) = ph_tkF F S kept σ := by
  obtain ⟨j, hj, e⟩ := tkF_in (kept := kept) h
  have := h.F16
  unfold ph_tkN
  rw [e, nI_clamp (by omega)]
theorem ok_tkS {F S : Nat} {kept : Int32} {σ : ph_S} (h : ph_ok F S σ) : ph_ok F S (ph_tkS F S kept σ) := by
  unfold ph_tkS; split
  · exact ok_sI (ok_vac (ok_scE h)) _ (by decide)
  · exact ok_sI h _ (by decide)
def ph_br2 (σ : ph_S) : ph_S := ph_sI σ 3 (ph_I σ 3 + 1)
def ph_br (F S : Nat) (σ : ph_S) (a f : Nat) : ph_S := ph_br2 (ph_cpy F S 0 1 (ph_lay σ a f) (nI f) (ph_B (ph_lay σ a f) 2 a))
theorem ph_br_L (F S : Nat) (σ : ph_S) (a f : Nat) : ph_L (ph_br F S σ a f) = ph_L σ := by
  show ph_L (ph_cpy _ _ _ _ _ _ _) = _
  rw [ph_cpy_L]; rfl
theorem ok_br {F S : Nat} {σ : ph_S} {a f : Nat} (h : ph_ok F S σ) (ha : a ∈ ph_L σ) (hf : f < F) : ph_ok F S (ph_br F S σ a f) := ok_sI (ok_cpy (ok_lay h ha hf) (by decide)) _ (by decide)
def ph_rel2 (S : Nat) (σ : ph_S) (a : Nat) : ph_S := if ph_has S (ph_B σ 2 a) = 0 then σ else ph_sR σ 1 (ph_B σ 2 a).toNatClampNeg none
def ph_rel1 (σ : ph_S) (a : Nat) : ph_S := ph_sA (ph_sR σ 0 (ph_B σ 1 a).toNatClampNeg none) 2 (ph_B σ 1 a).toNatClampNeg 0
def ph_rel (F S : Nat) (σ : ph_S) (a : Nat) : ph_S := if ph_has F (ph_B σ 1 a) = 0 then ph_rel2 S σ a else ph_rel2 S (ph_rel1 σ a) a
theorem ph_rel2_L (S : Nat) (σ : ph_S) (a : Nat) : ph_L (ph_rel2 S σ a) = ph_L σ := by
  unfold ph_rel2; split <;> rfl
theorem ph_rel_L (F S : Nat) (σ : ph_S) (a : Nat) : ph_L (ph_rel F S σ a) = ph_L σ := by
  unfold ph_rel; split <;> rw [ph_rel2_L]; rfl
theorem ok_rel2 {F S : Nat} {σ : ph_S} {a : Nat} (h : ph_ok F S σ) : ph_ok F S (ph_rel2 S σ a) := by
  unfold ph_rel2; split
  · exact h
  · exact ok_sRn h _ _
theorem ok_rel {F S : Nat} {σ : ph_S} {a : Nat} (h : ph_ok F S σ) : ph_ok F S (ph_rel F S σ a) := by
  unfold ph_rel; split
  · exact ok_rel2 h
  · exact ok_rel2 (ok_us (ok_sRn h _ _) _ (Or.inl rfl))
def ph_em2 (F S : Nat) (σ : ph_S) (a : Nat) : ph_S := if ph_B σ 3 a = 0 then ph_rel F S σ a else σ
def ph_em1 (σ : ph_S) (s a : Nat) : ph_S := ph_sB (ph_sR σ 2 s none) 3 a (ph_B (ph_sR σ 2 s none) 3 a - 1)
def ph_em (F S : Nat) (σ : ph_S) (s : Nat) : ph_S := match ph_R σ 2 s with
  | none => σ
  | some a => ph_em2 F S (ph_em1 σ s a) a
def ph_emV (σ : ph_S) (s : Nat) : Int32 := match ph_R σ 2 s with
  | none => 0
  | some _ => 1
theorem ph_em_L (F S : Nat) (σ : ph_S) (s : Nat) : ph_L (ph_em F S σ s) = ph_L σ := by
  unfold ph_em; split
  · rfl
  · unfold ph_em2; split
    · rw [ph_rel_L]; rfl
    · rfl
theorem ok_em {F S : Nat} {σ : ph_S} {s : Nat} (h : ph_ok F S σ) : ph_ok F S (ph_em F S σ s) := by
  unfold ph_em; split
  · exact h
  · unfold ph_em2; split
    · exact ok_rel (ok_ho (ok_sRn h _ _) _ _)
    · exact ok_ho (ok_sRn h _ _) _ _
abbrev rm_X2_lay : Room := { frames := 0, cells := 0, slots := 0, locals := 0 }
set_option maxHeartbeats 4000000 in
set_option maxRecDepth 100000 in
/-- lay -/
theorem c_lay {D : va_G} {ad : Nat → Nat} {ct : Nat → ClassId} {F S : Nat} {σ : ph_S} {a f : Nat} (m_a : a ∈ ph_L σ) (hf : f < F) (hF : F ≤ 16) : gM yX2_lay cX2_lay 3 none rm_X2_lay D (gt ct) (cw ad ct F S σ) [.ref (ad 0), .ref a, .int (nI f)] (fun v w => v = none ∧ w = cw ad ct F S (ph_lay σ a f)) := by
  refine gM_in RX2 rfl (by decide) (Nat.le_of_ble_eq_true rfl) (fun X C => ?_)
  refine gV_aload_n (pc := 0) (x := a) C dX2_lay_0 1 rfl rfl ?_
  refine gV_iload_n (pc := 1) C dX2_lay_1 2 rfl rfl ?_
  refine cp_b_frame (pc := 2) (σ := σ) C m_a fl_X2_76 dX2_lay_2 ?_
  refine gV_aload_n (pc := 5) (x := ad 0) C dX2_lay_5 0 rfl rfl ?_
  refine cg_frames (pc := 6) C fl_X2_23 dX2_lay_6 ?_
  refine cg_content1 (pc := 9) C fl_X2_111 dX2_lay_9 ?_
  refine gV_iload_n (pc := 12) C dX2_lay_12 2 rfl rfl ?_
  refine gV_aload_n (pc := 13) (x := a) C dX2_lay_13 1 rfl rfl ?_
  refine cs_fc (pc := 14) (σ := ph_sB σ 1 a (nI f)) C m_a (vp_in_nI (by omega) (by omega)) dX2_lay_14 ?_
  rw [nI_clamp (by omega)]
  refine gV_vret (pc := 15) C dX2_lay_15 (by decide) (by decide) ?_
  exact ⟨rfl, rfl⟩
abbrev rm_X2_store : Room := { frames := 2, cells := 0, slots := 0, locals := 83 }
set_option maxHeartbeats 4000000 in
set_option maxRecDepth 100000 in
/-- store -/
theorem c_store {D : va_G} {ad : Nat → Nat} {ct : Nat → ClassId} {F S : Nat} {σ : ph_S} {a : Nat} (hok : ph_ok F S σ) (m_a : a ∈ ph_L σ) : gM yX2_store cX2_store 3 none rm_X2_store D (gt ct) (cw ad ct F S σ) [.ref (ad 0), .ref a] (fun v w => v = none ∧ w = cw ad ct F S (ph_st F S σ a)) := by
  refine gM_in RX2 rfl (by decide) (Nat.le_of_ble_eq_true rfl) (fun X C => ?_)
  have hF := hok.F16
  have hS := hok.S64
  refine gV_aload_n (pc := 0) (x := a) C dX2_store_0 1 rfl rfl ?_
  refine cg_b_sector (pc := 1) (σ := σ) C m_a fl_X2_118 dX2_store_1 ?_
  refine gV_iconst (pc := 4) (v := (-1)) C dX2_store_4 (by decide) ?_
  refine gV_icmp_eq (pc := 5) C 15 dX2_store_5 (by decide) (fun c_1 => ?_) (fun c_1 => ?_)
  · skip
    refine gV_aload_n (pc := 15) (x := ad 0) C dX2_store_15 0 rfl rfl ?_
    refine cg_sectors (pc := 16) C fl_X2_27 dX2_store_16 ?_
    refine gV_callV (pc := 19) (As := []) (rest := []) C ml_X2_186 gy_X1_leastFree gv_X1_leastFree (c_leastFree2 (by omega)) ⟨2, 1, _, _, rfl, rfl, rfl⟩ rfl rfl ⟨by decide, by decide⟩ (Nat.le_of_ble_eq_true rfl) (by decide) (by decide) dX2_store_19 ?_
    rintro _ _ ⟨rfl, rfl⟩
    refine gV_istore_n (pc := 22) (lv' := [(2, .int (ph_lf (ph_R σ 1) S)), (0, .ref (ad 0)), (1, .ref a)]) C dX2_store_22 rfl (by decide) rfl ?_
    refine gV_aload_n (pc := 23) (x := ad 0) C dX2_store_23 1 rfl rfl ?_
    refine cg_sectors (pc := 24) C fl_X2_27 dX2_store_24 ?_
    refine gV_iload_n (pc := 27) C dX2_store_27 0 rfl rfl ?_
    refine gV_callV (pc := 28) (As := [.int (ph_lf (ph_R σ 1) S)]) (rest := []) C ml_X2_121 gy_X1_has gv_X1_has (c_has2 _) ⟨2, 1, _, _, rfl, rfl, rfl⟩ rfl rfl ⟨by decide, by decide⟩ (Nat.le_of_ble_eq_true rfl) (by decide) (by decide) dX2_store_28 ?_
    rintro _ _ ⟨rfl, rfl⟩
    refine gV_if_ne (pc := 31) C 35 dX2_store_31 (by decide) (fun c_2 => ?_) (fun c_2 => ?_)
    · skip
      refine gV_aload_n (pc := 35) (x := a) C dX2_store_35 2 rfl rfl ?_
      refine gV_iload_n (pc := 36) C dX2_store_36 0 rfl rfl ?_
      refine cp_b_sector (pc := 37) (σ := σ) C m_a fl_X2_118 dX2_store_37 ?_
      refine gV_aload_n (pc := 40) (x := ad 0) C dX2_store_40 1 rfl rfl ?_
      refine cg_sectors (pc := 41) C fl_X2_27 dX2_store_41 ?_
      refine cg_content2 (pc := 44) C fl_X2_111 dX2_store_44 ?_
      refine gV_iload_n (pc := 47) C dX2_store_47 0 rfl rfl ?_
      refine gV_aload_n (pc := 48) (x := a) C dX2_store_48 2 rfl rfl ?_
      refine cs_sc (pc := 49) (σ := ph_sB σ 2 a (ph_lf (ph_R σ 1) S)) C m_a (has_vin c_2 (by omega)) dX2_store_49 ?_
      refine gV_aload_n (pc := 50) (x := ad 0) C dX2_store_50 1 rfl rfl ?_
      refine cg_sectors (pc := 51) C fl_X2_27 dX2_store_51 ?_
      refine gV_iload_n (pc := 54) C dX2_store_54 0 rfl rfl ?_
      refine gV_aload_n (pc := 55) (x := ad 0) C dX2_store_55 1 rfl rfl ?_
      refine cg_frames (pc := 56) C fl_X2_23 dX2_store_56 ?_
      refine gV_aload_n (pc := 59) (x := a) C dX2_store_59 2 rfl rfl ?_
      refine cg_b_frame (pc := 60) (σ := ph_sR (ph_sB σ 2 a (ph_lf (ph_R σ 1) S)) 1 ((ph_lf (ph_R σ 1) S).toNatClampNeg) (some a)) C m_a fl_X2_76 dX2_store_60 ?_
      refine gV_callV (pc := 63) (As := [.int (ph_lf (ph_R σ 1) S), .ref (ad 1), .int (ph_B (ph_sR (ph_sB σ 2 a (ph_lf (ph_R σ 1) S)) 1 ((ph_lf (ph_R σ 1) S).toNatClampNeg) (some a)) 1 a)]) (rest := []) C ml_X2_182 gy_X1_copyWords gv_X1_copyWords (c_copyWords21 _ _ (by omega) (by omega)) ⟨2, 1, _, _, rfl, rfl, rfl⟩ rfl rfl ⟨by decide, by decide⟩ (Nat.le_of_ble_eq_true rfl) (by decide) (by decide) dX2_store_63 ?_
      rintro _ _ ⟨rfl, rfl⟩
      have m_3 : a ∈ ph_L (ph_cpy S F 1 0 (ph_sR (ph_sB σ 2 a (ph_lf (ph_R σ 1) S)) 1 ((ph_lf (ph_R σ 1) S).toNatClampNeg) (some a)) (ph_lf (ph_R σ 1) S) (ph_B (ph_sR (ph_sB σ 2 a (ph_lf (ph_R σ 1) S)) 1 ((ph_lf (ph_R σ 1) S).toNatClampNeg) (some a)) 1 a)) := by rw [ph_cpy_L]; exact m_a
      refine gV_aload_n (pc := 66) (x := a) C dX2_store_66 2 rfl rfl ?_
      refine gV_iconst (pc := 67) (v := 0) C dX2_store_67 (by decide) ?_
      refine cp_b_dirty (pc := 68) (σ := ph_cpy S F 1 0 (ph_sR (ph_sB σ 2 a (ph_lf (ph_R σ 1) S)) 1 ((ph_lf (ph_R σ 1) S).toNatClampNeg) (some a)) (ph_lf (ph_R σ 1) S) (ph_B (ph_sR (ph_sB σ 2 a (ph_lf (ph_R σ 1) S)) 1 ((ph_lf (ph_R σ 1) S).toNatClampNeg) (some a)) 1 a)) C m_3 fl_X2_97 (by decide) dX2_store_68 ?_
      refine gV_aload_n (pc := 71) (x := ad 0) C dX2_store_71 1 rfl rfl ?_
      refine gV_dup (pc := 72) C dX2_store_72 rfl ?_
      refine cg_storings (pc := 73) C fl_X2_155 dX2_store_73 ?_
      refine gV_iconst (pc := 76) (v := 1) C dX2_store_76 (by decide) ?_
      refine gV_iadd (pc := 77) C dX2_store_77 ?_
      refine cp_storings (pc := 78) C fl_X2_155 dX2_store_78 ?_
      refine gV_vret (pc := 81) C dX2_store_81 (by decide) (by decide) ?_
      exact ⟨rfl, by rw [ph_st, if_pos c_1, ph_st2, if_neg c_2]; try rfl⟩
    · skip
      refine gV_vret (pc := 34) C dX2_store_34 (by decide) (by decide) ?_
      exact ⟨rfl, by rw [ph_st, if_pos c_1, ph_st2, if_pos c_2]; try rfl⟩
  · skip
    refine gV_aload_n (pc := 8) (x := a) C dX2_store_8 1 rfl rfl ?_
    refine cg_b_sector (pc := 9) (σ := σ) C m_a fl_X2_118 dX2_store_9 ?_
    refine gV_goto (pc := 12) C 22 dX2_store_12 (by decide) ?_
    refine gV_istore_n (pc := 22) (lv' := [(2, .int (ph_B σ 2 a)), (0, .ref (ad 0)), (1, .ref a)]) C dX2_store_22 rfl (by decide) rfl ?_
    refine gV_aload_n (pc := 23) (x := ad 0) C dX2_store_23 1 rfl rfl ?_
    refine cg_sectors (pc := 24) C fl_X2_27 dX2_store_24 ?_
    refine gV_iload_n (pc := 27) C dX2_store_27 0 rfl rfl ?_
    refine gV_callV (pc := 28) (As := [.int (ph_B σ 2 a)]) (rest := []) C ml_X2_121 gy_X1_has gv_X1_has (c_has2 _) ⟨2, 1, _, _, rfl, rfl, rfl⟩ rfl rfl ⟨by decide, by decide⟩ (Nat.le_of_ble_eq_true rfl) (by decide) (by decide) dX2_store_28 ?_
    rintro _ _ ⟨rfl, rfl⟩
    refine gV_if_ne (pc := 31) C 35 dX2_store_31 (by decide) (fun c_4 => ?_) (fun c_4 => ?_)
    · skip
      refine gV_aload_n (pc := 35) (x := a) C dX2_store_35 2 rfl rfl ?_
      refine gV_iload_n (pc := 36) C dX2_store_36 0 rfl rfl ?_
      refine cp_b_sector (pc := 37) (σ := σ) C m_a fl_X2_118 dX2_store_37 ?_
      refine gV_aload_n (pc := 40) (x := ad 0) C dX2_store_40 1 rfl rfl ?_
      refine cg_sectors (pc := 41) C fl_X2_27 dX2_store_41 ?_
      refine cg_content2 (pc := 44) C fl_X2_111 dX2_store_44 ?_
      refine gV_iload_n (pc := 47) C dX2_store_47 0 rfl rfl ?_
      refine gV_aload_n (pc := 48) (x := a) C dX2_store_48 2 rfl rfl ?_
      refine cs_sc (pc := 49) (σ := ph_sB σ 2 a (ph_B σ 2 a)) C m_a (has_vin c_4 (by omega)) dX2_store_49 ?_
      refine gV_aload_n (pc := 50) (x := ad 0) C dX2_store_50 1 rfl rfl ?_
      refine cg_sectors (pc := 51) C fl_X2_27 dX2_store_51 ?_
      refine gV_iload_n (pc := 54) C dX2_store_54 0 rfl rfl ?_
      refine gV_aload_n (pc := 55) (x := ad 0) C dX2_store_55 1 rfl rfl ?_
      refine cg_frames (pc := 56) C fl_X2_23 dX2_store_56 ?_
      refine gV_aload_n (pc := 59) (x := a) C dX2_store_59 2 rfl rfl ?_
      refine cg_b_frame (pc := 60) (σ := ph_sR (ph_sB σ 2 a (ph_B σ 2 a)) 1 ((ph_B σ 2 a).toNatClampNeg) (some a)) C m_a fl_X2_76 dX2_store_60 ?_
      refine gV_callV (pc := 63) (As := [.int (ph_B σ 2 a), .ref (ad 1), .int (ph_B (ph_sR (ph_sB σ 2 a (ph_B σ 2 a)) 1 ((ph_B σ 2 a).toNatClampNeg) (some a)) 1 a)]) (rest := []) C ml_X2_182 gy_X1_copyWords gv_X1_copyWords (c_copyWords21 _ _ (by omega) (by omega)) ⟨2, 1, _, _, rfl, rfl, rfl⟩ rfl rfl ⟨by decide, by decide⟩ (Nat.le_of_ble_eq_true rfl) (by decide) (by decide) dX2_store_63 ?_
      rintro _ _ ⟨rfl, rfl⟩
      have m_5 : a ∈ ph_L (ph_cpy S F 1 0 (ph_sR (ph_sB σ 2 a (ph_B σ 2 a)) 1 ((ph_B σ 2 a).toNatClampNeg) (some a)) (ph_B σ 2 a) (ph_B (ph_sR (ph_sB σ 2 a (ph_B σ 2 a)) 1 ((ph_B σ 2 a).toNatClampNeg) (some a)) 1 a)) := by rw [ph_cpy_L]; exact m_a
      refine gV_aload_n (pc := 66) (x := a) C dX2_store_66 2 rfl rfl ?_
      refine gV_iconst (pc := 67) (v := 0) C dX2_store_67 (by decide) ?_
      refine cp_b_dirty (pc := 68) (σ := ph_cpy S F 1 0 (ph_sR (ph_sB σ 2 a (ph_B σ 2 a)) 1 ((ph_B σ 2 a).toNatClampNeg) (some a)) (ph_B σ 2 a) (ph_B (ph_sR (ph_sB σ 2 a (ph_B σ 2 a)) 1 ((ph_B σ 2 a).toNatClampNeg) (some a)) 1 a)) C m_5 fl_X2_97 (by decide) dX2_store_68 ?_
      refine gV_aload_n (pc := 71) (x := ad 0) C dX2_store_71 1 rfl rfl ?_
      refine gV_dup (pc := 72) C dX2_store_72 rfl ?_
      refine cg_storings (pc := 73) C fl_X2_155 dX2_store_73 ?_
      refine gV_iconst (pc := 76) (v := 1) C dX2_store_76 (by decide) ?_
      refine gV_iadd (pc := 77) C dX2_store_77 ?_
      refine cp_storings (pc := 78) C fl_X2_155 dX2_store_78 ?_
      refine gV_vret (pc := 81) C dX2_store_81 (by decide) (by decide) ?_
      exact ⟨rfl, by rw [ph_st, if_neg c_1, ph_st2, if_neg c_4]; try rfl⟩
    · skip
      refine gV_vret (pc := 34) C dX2_store_34 (by decide) (by decide) ?_
      exact ⟨rfl, by rw [ph_st, if_neg c_1, ph_st2, if_pos c_4]; try rfl⟩
abbrev rm_X2_vacate : Room := { frames := 3, cells := 0, slots := 0, locals := 105 }
set_option maxHeartbeats 4000000 in
set_option maxRecDepth 100000 in
/-- vacate -/
theorem c_vacate {D : va_G} {ad : Nat → Nat} {ct : Nat → ClassId} {F S : Nat} {σ : ph_S} {f : Int32} (hok : ph_ok F S σ) (hf : vp_in f F) : gM yX2_vacate cX2_vacate 3 none rm_X2_vacate D (gt ct) (cw ad ct F S σ) [.ref (ad 0), .int f] (fun v w => v = none ∧ w = cw ad ct F S (ph_vac F S σ f)) := by
  refine gM_in RX2 rfl (by decide) (Nat.le_of_ble_eq_true rfl) (fun X C => ?_)
  have hF := hok.F16
  have hS := hok.S64
  refine gV_aload_n (pc := 0) (x := ad 0) C dX2_vacate_0 0 rfl rfl ?_
  refine cg_frames (pc := 1) C fl_X2_23 dX2_vacate_1 ?_
  refine cg_content1 (pc := 4) C fl_X2_111 dX2_vacate_4 ?_
  refine gV_iload_n (pc := 7) C dX2_vacate_7 1 rfl rfl ?_
  refine ca_fc (pc := 8) C hf dX2_vacate_8 ?_
  cases er_1 : ph_R σ 0 f.toNatClampNeg with
  | none =>
    refine gV_astoreq_n (pc := 9) (r := none) (lv' := [(2, .null), (0, .ref (ad 0)), (1, .int f)]) C dX2_vacate_9 rfl (by decide) rfl ?_
    refine gV_aloadq_n (pc := 10) (r := none) C dX2_vacate_10 0 rfl rfl ?_
    refine gV_ifnonnull (pc := 11) (r := none) C 15 dX2_vacate_11 (by decide) (fun _ h => nomatch h) (fun _ => ?_)
    refine gV_vret (pc := 14) C dX2_vacate_14 (by decide) (by decide) ?_
    exact ⟨rfl, by simp only [ph_vac, er_1]; try rfl⟩
  | some a_1 =>
    have m_1 : a_1 ∈ ph_L σ := hok.refs _ _ _ er_1
    refine gV_astore_n (pc := 9) (x := a_1) (lv' := [(2, .ref a_1), (0, .ref (ad 0)), (1, .int f)]) C dX2_vacate_9 rfl (by decide) rfl ?_
    refine gV_aload_n (pc := 10) (x := a_1) C dX2_vacate_10 0 rfl rfl ?_
    refine gV_ifnonnull (pc := 11) (r := some a_1) C 15 dX2_vacate_11 (by decide) (fun _ _ => ?_) (fun h => nomatch h)
    refine gV_aload_n (pc := 15) (x := a_1) C dX2_vacate_15 0 rfl rfl ?_
    refine cg_b_dirty (pc := 16) (σ := σ) C m_1 fl_X2_97 dX2_vacate_16 ?_
    refine gV_if_eq (pc := 19) C 27 dX2_vacate_19 (by decide) (fun c_2 => ?_) (fun c_2 => ?_)
    · skip
      refine gV_aload_n (pc := 27) (x := a_1) C dX2_vacate_27 0 rfl rfl ?_
      refine gV_iconst (pc := 28) (v := (-1)) C dX2_vacate_28 (by decide) ?_
      refine cp_b_frame (pc := 29) (σ := σ) C m_1 fl_X2_76 dX2_vacate_29 ?_
      refine gV_aload_n (pc := 32) (x := ad 0) C dX2_vacate_32 1 rfl rfl ?_
      refine cg_frames (pc := 33) C fl_X2_23 dX2_vacate_33 ?_
      refine cg_content1 (pc := 36) C fl_X2_111 dX2_vacate_36 ?_
      refine gV_iload_n (pc := 39) C dX2_vacate_39 2 rfl rfl ?_
      refine gV_null (pc := 40) C dX2_vacate_40 ?_
      refine cs_fc_n (pc := 41) C hf dX2_vacate_41 ?_
      refine gV_vret (pc := 42) C dX2_vacate_42 (by decide) (by decide) ?_
      exact ⟨rfl, by simp only [ph_vac, er_1]; try rw [if_pos c_2]; try rfl⟩
    · skip
      refine gV_aload_n (pc := 22) (x := ad 0) C dX2_vacate_22 1 rfl rfl ?_
      refine gV_aload_n (pc := 23) (x := a_1) C dX2_vacate_23 0 rfl rfl ?_
      refine gV_callV (pc := 24) (As := [.ref a_1]) (rest := []) C ml_X2_114 gy_X2_store gv_X2_store (c_store (a := a_1) hok m_1) ⟨0, 2, _, _, rfl, rfl, rfl⟩ rfl rfl ⟨by decide, by decide⟩ (Nat.le_of_ble_eq_true rfl) (by decide) (by decide) dX2_vacate_24 ?_
      rintro _ _ ⟨rfl, rfl⟩
      have m_3 : a_1 ∈ ph_L (ph_st F S σ a_1) := by rw [ph_st_L]; exact m_1
      refine gV_aload_n (pc := 27) (x := a_1) C dX2_vacate_27 0 rfl rfl ?_
      refine gV_iconst (pc := 28) (v := (-1)) C dX2_vacate_28 (by decide) ?_
      refine cp_b_frame (pc := 29) (σ := ph_st F S σ a_1) C m_3 fl_X2_76 dX2_vacate_29 ?_
      refine gV_aload_n (pc := 32) (x := ad 0) C dX2_vacate_32 1 rfl rfl ?_
      refine cg_frames (pc := 33) C fl_X2_23 dX2_vacate_33 ?_
      refine cg_content1 (pc := 36) C fl_X2_111 dX2_vacate_36 ?_
      refine gV_iload_n (pc := 39) C dX2_vacate_39 2 rfl rfl ?_
      refine gV_null (pc := 40) C dX2_vacate_40 ?_
      refine cs_fc_n (pc := 41) C hf dX2_vacate_41 ?_
      refine gV_vret (pc := 42) C dX2_vacate_42 (by decide) (by decide) ?_
      exact ⟨rfl, by simp only [ph_vac, er_1]; try rw [if_neg c_2]; try rfl⟩
abbrev rm_X2_secondChance : Room := { frames := 1, cells := 0, slots := 0, locals := 21 }
set_option maxHeartbeats 4000000 in
set_option maxRecDepth 100000 in
theorem lp_sc {X : gx_T} {D : va_G} {ad : Nat → Nat} {ct : Nat → ClassId} {F S : Nat} {σ : ph_S} {kept : Int32} (C : gC X cX2_secondChance 4 RX2 rm_X2_secondChance (some .int) D (gt ct) (fun v w => v = some (.int (ph_I (ph_scT F kept σ) 0)) ∧ w = cw ad ct F S (ph_scE F kept σ))) : ∀ (p : Nat) (τ : ph_S), ph_ok F S τ → p ≤ 64 → ph_scG F kept p τ = ph_scT F kept σ → gV X 0 0 (cw ad ct F S τ) 8 [(2, .int (nI p)), (0, .ref (ad 0)), (1, .int kept)] [] := by
  intro p
  induction p with
  | zero =>
    intro τ hok hp hr
    have hF := hok.F16
    have e : τ = ph_scT F kept σ := hr
    refine gV_iload_n (pc := 8) C dX2_secondChance_8 0 rfl rfl ?_
    refine gV_if_le (pc := 9) C 68 dX2_secondChance_9 (by decide) (fun c_1 => ?_) (fun c_1 => ?_)
    · skip
      refine gV_aload_n (pc := 68) (x := ad 0) C dX2_secondChance_68 1 rfl rfl ?_
      refine cg_hand (pc := 69) C fl_X2_140 dX2_secondChance_69 ?_
      refine gV_istore_n (pc := 72) (lv' := [(3, .int (ph_I (τ) 0)), (2, .int (nI 0)), (0, .ref (ad 0)), (1, .int kept)]) C dX2_secondChance_72 rfl (by decide) rfl ?_
      refine gV_aload_n (pc := 73) (x := ad 0) C dX2_secondChance_73 2 rfl rfl ?_
      refine gV_aload_n (pc := 74) (x := ad 0) C dX2_secondChance_74 2 rfl rfl ?_
      refine gV_iload_n (pc := 75) C dX2_secondChance_75 0 rfl rfl ?_
      refine gV_callV (pc := 76) (As := [.int (ph_I (τ) 0)]) (rest := [.ref (ad 0)]) C ml_X2_195 gy_X2_behind gv_X2_behind (c_behind _) ⟨0, 2, _, _, rfl, rfl, rfl⟩ rfl rfl ⟨by decide, by decide⟩ (Nat.le_of_ble_eq_true rfl) (by decide) (by decide) dX2_secondChance_76 ?_
      rintro _ _ ⟨rfl, rfl⟩
      refine cp_hand (pc := 79) C fl_X2_140 dX2_secondChance_79 ?_
      refine gV_iload_n (pc := 82) C dX2_secondChance_82 0 rfl rfl ?_
      refine gV_iret (pc := 83) C dX2_secondChance_83 (by decide) (by decide) ?_
      exact ⟨by rw [e], by rw [e]; rfl⟩
    · exact absurd (by decide) c_1
  | succ p ih =>
    intro τ hok hp hr
    have hF := hok.F16
    obtain ⟨hd, hhd, ehd⟩ := hok.hand
    have hin : vp_in (ph_I τ 0) F := by rw [ehd]; exact vp_in_nI hhd (by omega)
    refine gV_iload_n (pc := 8) C dX2_secondChance_8 0 rfl rfl ?_
    refine gV_if_le (pc := 9) C 68 dX2_secondChance_9 (by decide) (fun c_1 => ?_) (fun c_1 => ?_)
    · exact absurd c_1 (nI_nle (by omega) (by omega))
    · skip
      refine gV_aload_n (pc := 12) (x := ad 0) C dX2_secondChance_12 1 rfl rfl ?_
      refine cg_hand (pc := 13) C fl_X2_140 dX2_secondChance_13 ?_
      refine gV_iload_n (pc := 16) C dX2_secondChance_16 2 rfl rfl ?_
      refine gV_icmp_eq (pc := 17) C 32 dX2_secondChance_17 (by decide) (fun c_2 => ?_) (fun c_2 => ?_)
      · skip
        refine gV_aload_n (pc := 32) (x := ad 0) C dX2_secondChance_32 1 rfl rfl ?_
        refine cg_hand (pc := 33) C fl_X2_140 dX2_secondChance_33 ?_
        refine gV_iload_n (pc := 36) C dX2_secondChance_36 2 rfl rfl ?_
        refine gV_icmp_eq (pc := 37) C 50 dX2_secondChance_37 (by decide) (fun c_3 => ?_) (fun c_3 => ?_)
        · skip
          refine gV_aload_n (pc := 50) (x := ad 0) C dX2_secondChance_50 1 rfl rfl ?_
          refine gV_aload_n (pc := 51) (x := ad 0) C dX2_secondChance_51 1 rfl rfl ?_
          refine gV_aload_n (pc := 52) (x := ad 0) C dX2_secondChance_52 1 rfl rfl ?_
          refine cg_hand (pc := 53) C fl_X2_140 dX2_secondChance_53 ?_
          refine gV_callV (pc := 56) (As := [.int (ph_I (τ) 0)]) (rest := [.ref (ad 0)]) C ml_X2_195 gy_X2_behind gv_X2_behind (c_behind _) ⟨0, 2, _, _, rfl, rfl, rfl⟩ rfl rfl ⟨by decide, by decide⟩ (Nat.le_of_ble_eq_true rfl) (by decide) (by decide) dX2_secondChance_56 ?_
          rintro _ _ ⟨rfl, rfl⟩
          refine cp_hand (pc := 59) C fl_X2_140 dX2_secondChance_59 ?_
          refine gV_iinc (pc := 62) (v := nI p) (lv' := [(2, .int (nI p)), (0, .ref (ad 0)), (1, .int kept)]) C dX2_secondChance_62 0 rfl (pk_m1 _) (by decide) rfl ?_
          refine gV_goto (pc := 65) C 8 dX2_secondChance_65 (by decide) ?_
          refine gV_lv [0, 1, 2] rfl ?_
          exact ih _ (ok_scS hok) (by omega) (by rw [← hr, ph_scG, if_pos c_2]; rfl)
        · exact absurd c_2 c_3
      · skip
        refine gV_aload_n (pc := 20) (x := ad 0) C dX2_secondChance_20 1 rfl rfl ?_
        refine cg_used (pc := 21) C fl_X2_30 dX2_secondChance_21 ?_
        refine gV_aload_n (pc := 24) (x := ad 0) C dX2_secondChance_24 1 rfl rfl ?_
        refine cg_hand (pc := 25) C fl_X2_140 dX2_secondChance_25 ?_
        refine ca_us (pc := 28) C hin dX2_secondChance_28 ?_
        refine gV_if_eq (pc := 29) C 68 dX2_secondChance_29 (by decide) (fun c_4 => ?_) (fun c_4 => ?_)
        · skip
          have e : τ = ph_scT F kept σ := by rw [← hr, ph_scG, if_neg c_2, if_pos c_4]
          refine gV_aload_n (pc := 68) (x := ad 0) C dX2_secondChance_68 1 rfl rfl ?_
          refine cg_hand (pc := 69) C fl_X2_140 dX2_secondChance_69 ?_
          refine gV_istore_n (pc := 72) (lv' := [(3, .int (ph_I (τ) 0)), (2, .int (nI (p + 1))), (0, .ref (ad 0)), (1, .int kept)]) C dX2_secondChance_72 rfl (by decide) rfl ?_
          refine gV_aload_n (pc := 73) (x := ad 0) C dX2_secondChance_73 2 rfl rfl ?_
          refine gV_aload_n (pc := 74) (x := ad 0) C dX2_secondChance_74 2 rfl rfl ?_
          refine gV_iload_n (pc := 75) C dX2_secondChance_75 0 rfl rfl ?_
          refine gV_callV (pc := 76) (As := [.int (ph_I (τ) 0)]) (rest := [.ref (ad 0)]) C ml_X2_195 gy_X2_behind gv_X2_behind (c_behind _) ⟨0, 2, _, _, rfl, rfl, rfl⟩ rfl rfl ⟨by decide, by decide⟩ (Nat.le_of_ble_eq_true rfl) (by decide) (by decide) dX2_secondChance_76 ?_
          rintro _ _ ⟨rfl, rfl⟩
          refine cp_hand (pc := 79) C fl_X2_140 dX2_secondChance_79 ?_
          refine gV_iload_n (pc := 82) C dX2_secondChance_82 0 rfl rfl ?_
          refine gV_iret (pc := 83) C dX2_secondChance_83 (by decide) (by decide) ?_
          exact ⟨by rw [e], by rw [e]; rfl⟩
        · skip
          refine gV_aload_n (pc := 32) (x := ad 0) C dX2_secondChance_32 1 rfl rfl ?_
          refine cg_hand (pc := 33) C fl_X2_140 dX2_secondChance_33 ?_
          refine gV_iload_n (pc := 36) C dX2_secondChance_36 2 rfl rfl ?_
          refine gV_icmp_eq (pc := 37) C 50 dX2_secondChance_37 (by decide) (fun c_5 => ?_) (fun c_5 => ?_)
          · exact absurd c_5 c_2
          · skip
            refine gV_aload_n (pc := 40) (x := ad 0) C dX2_secondChance_40 1 rfl rfl ?_
            refine cg_used (pc := 41) C fl_X2_30 dX2_secondChance_41 ?_
            refine gV_aload_n (pc := 44) (x := ad 0) C dX2_secondChance_44 1 rfl rfl ?_
            refine cg_hand (pc := 45) C fl_X2_140 dX2_secondChance_45 ?_
            refine gV_iconst (pc := 48) (v := 0) C dX2_secondChance_48 (by decide) ?_
            refine cs_us (pc := 49) C hin (by decide) dX2_secondChance_49 ?_
            refine gV_aload_n (pc := 50) (x := ad 0) C dX2_secondChance_50 1 rfl rfl ?_
            refine gV_aload_n (pc := 51) (x := ad 0) C dX2_secondChance_51 1 rfl rfl ?_
            refine gV_aload_n (pc := 52) (x := ad 0) C dX2_secondChance_52 1 rfl rfl ?_
            refine cg_hand (pc := 53) C fl_X2_140 dX2_secondChance_53 ?_
            refine gV_callV (pc := 56) (As := [.int (ph_I (ph_sA (τ) 2 ((ph_I (τ) 0).toNatClampNeg) 0) 0)]) (rest := [.ref (ad 0)]) C ml_X2_195 gy_X2_behind gv_X2_behind (c_behind _) ⟨0, 2, _, _, rfl, rfl, rfl⟩ rfl rfl ⟨by decide, by decide⟩ (Nat.le_of_ble_eq_true rfl) (by decide) (by decide) dX2_secondChance_56 ?_
            rintro _ _ ⟨rfl, rfl⟩
            refine cp_hand (pc := 59) C fl_X2_140 dX2_secondChance_59 ?_
            refine gV_iinc (pc := 62) (v := nI p) (lv' := [(2, .int (nI p)), (0, .ref (ad 0)), (1, .int kept)]) C dX2_secondChance_62 0 rfl (pk_m1 _) (by decide) rfl ?_
            refine gV_goto (pc := 65) C 8 dX2_secondChance_65 (by decide) ?_
            refine gV_lv [0, 1, 2] rfl ?_
            exact ih _ (ok_scS (ok_us hok _ (Or.inl rfl))) (by omega) (by rw [← hr, ph_scG, if_neg c_2, if_neg c_4]; rfl)
set_option maxHeartbeats 4000000 in
set_option maxRecDepth 100000 in
/-- secondChance -/
theorem c_secondChance {D : va_G} {ad : Nat → Nat} {ct : Nat → ClassId} {F S : Nat} {σ : ph_S} (kept : Int32) (hok : ph_ok F S σ) : gM yX2_secondChance cX2_secondChance 4 (some .int) rm_X2_secondChance D (gt ct) (cw ad ct F S σ) [.ref (ad 0), .int kept] (fun v w => v = some (.int (ph_I (ph_scT F kept σ) 0)) ∧ w = cw ad ct F S (ph_scE F kept σ)) := by
  refine gM_in RX2 rfl (by decide) (Nat.le_of_ble_eq_true rfl) (fun X C => ?_)
  have hF := hok.F16
  have hS := hok.S64
  refine gV_iconst (pc := 0) (v := 2) C dX2_secondChance_0 (by decide) ?_
  refine gV_aload_n (pc := 1) (x := ad 0) C dX2_secondChance_1 0 rfl rfl ?_
  refine cg_used (pc := 2) C fl_X2_30 dX2_secondChance_2 ?_
  refine cl_us (pc := 5) C dX2_secondChance_5 ?_
  refine gV_imul (pc := 6) C dX2_secondChance_6 ?_
  rw [show (2 : Int32) = nI 2 from rfl, pk_mul]
  refine gV_istore_n (pc := 7) (lv' := [(2, .int (nI (2 * F))), (0, .ref (ad 0)), (1, .int kept)]) C dX2_secondChance_7 rfl (by decide) rfl ?_
  exact lp_sc C (2 * F) σ hok (by omega) rfl
abbrev rm_X2_take : Room := { frames := 4, cells := 0, slots := 0, locals := 127 }
set_option maxHeartbeats 4000000 in
set_option maxRecDepth 100000 in
/-- take -/
theorem c_take {D : va_G} {ad : Nat → Nat} {ct : Nat → ClassId} {F S : Nat} {σ : ph_S} (kept : Int32) (hok : ph_ok F S σ) : gM yX2_take cX2_take 3 (some .int) rm_X2_take D (gt ct) (cw ad ct F S σ) [.ref (ad 0), .int kept] (fun v w => v = some (.int (nI (ph_tkN F S kept σ))) ∧ w = cw ad ct F S (ph_tkS F S kept σ)) := by
  refine gM_in RX2 rfl (by decide) (Nat.le_of_ble_eq_true rfl) (fun X C => ?_)
  have hF := hok.F16
  have hS := hok.S64
  have hin : vp_in (ph_I (ph_scT F kept σ) 0) F := by obtain ⟨j, hj, e⟩ := (ok_scT (kept := kept) hok).hand; rw [e]; exact vp_in_nI hj (by omega)
  refine gV_aload_n (pc := 0) (x := ad 0) C dX2_take_0 0 rfl rfl ?_
  refine cg_frames (pc := 1) C fl_X2_23 dX2_take_1 ?_
  refine gV_callV (pc := 4) (As := []) (rest := []) C ml_X2_186 gy_X1_leastFree gv_X1_leastFree (c_leastFree1 (by omega)) ⟨1, 1, _, _, rfl, rfl, rfl⟩ rfl rfl ⟨by decide, by decide⟩ (Nat.le_of_ble_eq_true rfl) (by decide) (by decide) dX2_take_4 ?_
  rintro _ _ ⟨rfl, rfl⟩
  refine gV_istore_n (pc := 7) (lv' := [(2, .int (ph_lf (ph_R σ 0) F)), (0, .ref (ad 0)), (1, .int kept)]) C dX2_take_7 rfl (by decide) rfl ?_
  refine gV_iload_n (pc := 8) C dX2_take_8 0 rfl rfl ?_
  refine gV_iconst (pc := 9) (v := (-1)) C dX2_take_9 (by decide) ?_
  refine gV_icmp_ne (pc := 10) C 24 dX2_take_10 (by decide) (fun c_1 => ?_) (fun c_1 => ?_)
  · skip
    refine gV_aload_n (pc := 24) (x := ad 0) C dX2_take_24 1 rfl rfl ?_
    refine gV_dup (pc := 25) C dX2_take_25 rfl ?_
    refine cg_taken (pc := 26) C fl_X2_149 dX2_take_26 ?_
    refine gV_iconst (pc := 29) (v := 1) C dX2_take_29 (by decide) ?_
    refine gV_iadd (pc := 30) C dX2_take_30 ?_
    refine cp_taken (pc := 31) C fl_X2_149 dX2_take_31 ?_
    refine gV_iload_n (pc := 34) C dX2_take_34 0 rfl rfl ?_
    refine gV_iret (pc := 35) C dX2_take_35 (by decide) (by decide) ?_
    exact ⟨by rw [tkN_eq hok, ph_tkF, if_neg c_1], by rw [ph_tkS, if_neg c_1]; try rfl⟩
  · skip
    refine gV_aload_n (pc := 13) (x := ad 0) C dX2_take_13 1 rfl rfl ?_
    refine gV_iload_n (pc := 14) C dX2_take_14 2 rfl rfl ?_
    refine gV_callV (pc := 15) (As := [.int kept]) (rest := []) C ml_X2_189 gy_X2_secondChance gv_X2_secondChance (c_secondChance kept hok) ⟨0, 2, _, _, rfl, rfl, rfl⟩ rfl rfl ⟨by decide, by decide⟩ (Nat.le_of_ble_eq_true rfl) (by decide) (by decide) dX2_take_15 ?_
    rintro _ _ ⟨rfl, rfl⟩
    refine gV_istore_n (pc := 18) (lv' := [(2, .int (ph_I (ph_scT F kept σ) 0)), (0, .ref (ad 0)), (1, .int kept)]) C dX2_take_18 rfl (by decide) rfl ?_
    refine gV_aload_n (pc := 19) (x := ad 0) C dX2_take_19 1 rfl rfl ?_
    refine gV_iload_n (pc := 20) C dX2_take_20 0 rfl rfl ?_
    refine gV_callV (pc := 21) (As := [.int (ph_I (ph_scT F kept σ) 0)]) (rest := []) C ml_X2_192 gy_X2_vacate gv_X2_vacate (c_vacate (f := (ph_I (ph_scT F kept σ) 0)) (ok_scE hok) hin) ⟨0, 2, _, _, rfl, rfl, rfl⟩ rfl rfl ⟨by decide, by decide⟩ (Nat.le_of_ble_eq_true rfl) (by decide) (by decide) dX2_take_21 ?_
    rintro _ _ ⟨rfl, rfl⟩
    refine gV_aload_n (pc := 24) (x := ad 0) C dX2_take_24 1 rfl rfl ?_
    refine gV_dup (pc := 25) C dX2_take_25 rfl ?_
    refine cg_taken (pc := 26) C fl_X2_149 dX2_take_26 ?_
    refine gV_iconst (pc := 29) (v := 1) C dX2_take_29 (by decide) ?_
    refine gV_iadd (pc := 30) C dX2_take_30 ?_
    refine cp_taken (pc := 31) C fl_X2_149 dX2_take_31 ?_
    refine gV_iload_n (pc := 34) C dX2_take_34 0 rfl rfl ?_
    refine gV_iret (pc := 35) C dX2_take_35 (by decide) (by decide) ?_
    exact ⟨by rw [tkN_eq hok, ph_tkF, if_pos c_1], by rw [ph_tkS, if_pos c_1]; try rfl⟩
abbrev rm_X2_bring : Room := { frames := 2, cells := 0, slots := 0, locals := 83 }
set_option maxHeartbeats 4000000 in
set_option maxRecDepth 100000 in
/-- bring -/
theorem c_bring {D : va_G} {ad : Nat → Nat} {ct : Nat → ClassId} {F S : Nat} {σ : ph_S} {a f : Nat} (hok : ph_ok F S σ) (m_a : a ∈ ph_L σ) (hf : f < F) : gM yX2_bring cX2_bring 3 none rm_X2_bring D (gt ct) (cw ad ct F S σ) [.ref (ad 0), .ref a, .int (nI f)] (fun v w => v = none ∧ w = cw ad ct F S (ph_br F S σ a f)) := by
  refine gM_in RX2 rfl (by decide) (Nat.le_of_ble_eq_true rfl) (fun X C => ?_)
  have hF := hok.F16
  have hS := hok.S64
  refine gV_aload_n (pc := 0) (x := ad 0) C dX2_bring_0 0 rfl rfl ?_
  refine gV_aload_n (pc := 1) (x := a) C dX2_bring_1 1 rfl rfl ?_
  refine gV_iload_n (pc := 2) C dX2_bring_2 2 rfl rfl ?_
  refine gV_callV (pc := 3) (As := [.ref a, .int (nI f)]) (rest := []) C ml_X2_176 gy_X2_lay gv_X2_lay (c_lay (a := a) (f := f) m_a hf (by omega)) ⟨0, 2, _, _, rfl, rfl, rfl⟩ rfl rfl ⟨by decide, by decide⟩ (Nat.le_of_ble_eq_true rfl) (by decide) (by decide) dX2_bring_3 ?_
  rintro _ _ ⟨rfl, rfl⟩
  refine gV_aload_n (pc := 6) (x := ad 0) C dX2_bring_6 0 rfl rfl ?_
  refine cg_frames (pc := 7) C fl_X2_23 dX2_bring_7 ?_
  refine gV_iload_n (pc := 10) C dX2_bring_10 2 rfl rfl ?_
  refine gV_aload_n (pc := 11) (x := ad 0) C dX2_bring_11 0 rfl rfl ?_
  refine cg_sectors (pc := 12) C fl_X2_27 dX2_bring_12 ?_
  refine gV_aload_n (pc := 15) (x := a) C dX2_bring_15 1 rfl rfl ?_
  refine cg_b_sector (pc := 16) (σ := ph_lay σ a f) C m_a fl_X2_118 dX2_bring_16 ?_
  refine gV_callV (pc := 19) (As := [.int (nI f), .ref (ad 2), .int (ph_B (ph_lay σ a f) 2 a)]) (rest := []) C ml_X2_182 gy_X1_copyWords gv_X1_copyWords (c_copyWords12 _ _ (by omega) (by omega)) ⟨1, 1, _, _, rfl, rfl, rfl⟩ rfl rfl ⟨by decide, by decide⟩ (Nat.le_of_ble_eq_true rfl) (by decide) (by decide) dX2_bring_19 ?_
  rintro _ _ ⟨rfl, rfl⟩
  have m_1 : a ∈ ph_L (ph_cpy F S 0 1 (ph_lay σ a f) (nI f) (ph_B (ph_lay σ a f) 2 a)) := by rw [ph_cpy_L]; exact m_a
  refine gV_aload_n (pc := 22) (x := ad 0) C dX2_bring_22 0 rfl rfl ?_
  refine gV_dup (pc := 23) C dX2_bring_23 rfl ?_
  refine cg_brought (pc := 24) C fl_X2_152 dX2_bring_24 ?_
  refine gV_iconst (pc := 27) (v := 1) C dX2_bring_27 (by decide) ?_
  refine gV_iadd (pc := 28) C dX2_bring_28 ?_
  refine cp_brought (pc := 29) C fl_X2_152 dX2_bring_29 ?_
  refine gV_vret (pc := 32) C dX2_bring_32 (by decide) (by decide) ?_
  exact ⟨rfl, rfl⟩
abbrev rm_X2_release : Room := { frames := 1, cells := 0, slots := 0, locals := 21 }
set_option maxHeartbeats 4000000 in
set_option maxRecDepth 100000 in
/-- release -/
theorem c_release {D : va_G} {ad : Nat → Nat} {ct : Nat → ClassId} {F S : Nat} {σ : ph_S} {a : Nat} (hok : ph_ok F S σ) (m_a : a ∈ ph_L σ) : gM yX2_release cX2_release 2 none rm_X2_release D (gt ct) (cw ad ct F S σ) [.ref (ad 0), .ref a] (fun v w => v = none ∧ w = cw ad ct F S (ph_rel F S σ a)) := by
  refine gM_in RX2 rfl (by decide) (Nat.le_of_ble_eq_true rfl) (fun X C => ?_)
  have hF := hok.F16
  have hS := hok.S64
  refine gV_aload_n (pc := 0) (x := ad 0) C dX2_release_0 0 rfl rfl ?_
  refine cg_frames (pc := 1) C fl_X2_23 dX2_release_1 ?_
  refine gV_aload_n (pc := 4) (x := a) C dX2_release_4 1 rfl rfl ?_
  refine cg_b_frame (pc := 5) (σ := σ) C m_a fl_X2_76 dX2_release_5 ?_
  refine gV_callV (pc := 8) (As := [.int (ph_B σ 1 a)]) (rest := []) C ml_X2_121 gy_X1_has gv_X1_has (c_has1 _) ⟨1, 1, _, _, rfl, rfl, rfl⟩ rfl rfl ⟨by decide, by decide⟩ (Nat.le_of_ble_eq_true rfl) (by decide) (by decide) dX2_release_8 ?_
  rintro _ _ ⟨rfl, rfl⟩
  refine gV_if_eq (pc := 11) C 37 dX2_release_11 (by decide) (fun c_1 => ?_) (fun c_1 => ?_)
  · skip
    refine gV_aload_n (pc := 37) (x := ad 0) C dX2_release_37 0 rfl rfl ?_
    refine cg_sectors (pc := 38) C fl_X2_27 dX2_release_38 ?_
    refine gV_aload_n (pc := 41) (x := a) C dX2_release_41 1 rfl rfl ?_
    refine cg_b_sector (pc := 42) (σ := σ) C m_a fl_X2_118 dX2_release_42 ?_
    refine gV_callV (pc := 45) (As := [.int (ph_B σ 2 a)]) (rest := []) C ml_X2_121 gy_X1_has gv_X1_has (c_has2 _) ⟨2, 1, _, _, rfl, rfl, rfl⟩ rfl rfl ⟨by decide, by decide⟩ (Nat.le_of_ble_eq_true rfl) (by decide) (by decide) dX2_release_45 ?_
    rintro _ _ ⟨rfl, rfl⟩
    refine gV_if_eq (pc := 48) C 64 dX2_release_48 (by decide) (fun c_2 => ?_) (fun c_2 => ?_)
    · skip
      refine gV_vret (pc := 64) C dX2_release_64 (by decide) (by decide) ?_
      exact ⟨rfl, by rw [ph_rel, if_pos c_1, ph_rel2]; first | (rw [if_pos c_2]; done) | exact congrArg (cw ad ct F S) (if_pos c_2).symm⟩
    · skip
      refine gV_aload_n (pc := 51) (x := ad 0) C dX2_release_51 0 rfl rfl ?_
      refine cg_sectors (pc := 52) C fl_X2_27 dX2_release_52 ?_
      refine cg_content2 (pc := 55) C fl_X2_111 dX2_release_55 ?_
      refine gV_aload_n (pc := 58) (x := a) C dX2_release_58 1 rfl rfl ?_
      refine cg_b_sector (pc := 59) (σ := σ) C m_a fl_X2_118 dX2_release_59 ?_
      refine gV_null (pc := 62) C dX2_release_62 ?_
      refine cs_sc_n (pc := 63) C (has_vin c_2 (by omega)) dX2_release_63 ?_
      refine gV_vret (pc := 64) C dX2_release_64 (by decide) (by decide) ?_
      exact ⟨rfl, by rw [ph_rel, if_pos c_1, ph_rel2]; first | (rw [if_neg c_2]; done) | exact congrArg (cw ad ct F S) (if_neg c_2).symm⟩
  · skip
    refine gV_aload_n (pc := 14) (x := ad 0) C dX2_release_14 0 rfl rfl ?_
    refine cg_frames (pc := 15) C fl_X2_23 dX2_release_15 ?_
    refine cg_content1 (pc := 18) C fl_X2_111 dX2_release_18 ?_
    refine gV_aload_n (pc := 21) (x := a) C dX2_release_21 1 rfl rfl ?_
    refine cg_b_frame (pc := 22) (σ := σ) C m_a fl_X2_76 dX2_release_22 ?_
    refine gV_null (pc := 25) C dX2_release_25 ?_
    refine cs_fc_n (pc := 26) C (has_vin c_1 (by omega)) dX2_release_26 ?_
    refine gV_aload_n (pc := 27) (x := ad 0) C dX2_release_27 0 rfl rfl ?_
    refine cg_used (pc := 28) C fl_X2_30 dX2_release_28 ?_
    refine gV_aload_n (pc := 31) (x := a) C dX2_release_31 1 rfl rfl ?_
    refine cg_b_frame (pc := 32) (σ := ph_sR σ 0 ((ph_B σ 1 a).toNatClampNeg) none) C m_a fl_X2_76 dX2_release_32 ?_
    refine gV_iconst (pc := 35) (v := 0) C dX2_release_35 (by decide) ?_
    refine cs_us (pc := 36) C (has_vin c_1 (by omega)) (by decide) dX2_release_36 ?_
    refine gV_aload_n (pc := 37) (x := ad 0) C dX2_release_37 0 rfl rfl ?_
    refine cg_sectors (pc := 38) C fl_X2_27 dX2_release_38 ?_
    refine gV_aload_n (pc := 41) (x := a) C dX2_release_41 1 rfl rfl ?_
    refine cg_b_sector (pc := 42) (σ := ph_sA (ph_sR σ 0 ((ph_B σ 1 a).toNatClampNeg) none) 2 ((ph_B (ph_sR σ 0 ((ph_B σ 1 a).toNatClampNeg) none) 1 a).toNatClampNeg) 0) C m_a fl_X2_118 dX2_release_42 ?_
    refine gV_callV (pc := 45) (As := [.int (ph_B (ph_sA (ph_sR σ 0 ((ph_B σ 1 a).toNatClampNeg) none) 2 ((ph_B (ph_sR σ 0 ((ph_B σ 1 a).toNatClampNeg) none) 1 a).toNatClampNeg) 0) 2 a)]) (rest := []) C ml_X2_121 gy_X1_has gv_X1_has (c_has2 _) ⟨2, 1, _, _, rfl, rfl, rfl⟩ rfl rfl ⟨by decide, by decide⟩ (Nat.le_of_ble_eq_true rfl) (by decide) (by decide) dX2_release_45 ?_
    rintro _ _ ⟨rfl, rfl⟩
    refine gV_if_eq (pc := 48) C 64 dX2_release_48 (by decide) (fun c_3 => ?_) (fun c_3 => ?_)
    · skip
      refine gV_vret (pc := 64) C dX2_release_64 (by decide) (by decide) ?_
      exact ⟨rfl, by rw [ph_rel, if_neg c_1, ph_rel2]; first | (rw [if_pos c_3]; done) | exact congrArg (cw ad ct F S) (if_pos c_3).symm⟩
    · skip
      refine gV_aload_n (pc := 51) (x := ad 0) C dX2_release_51 0 rfl rfl ?_
      refine cg_sectors (pc := 52) C fl_X2_27 dX2_release_52 ?_
      refine cg_content2 (pc := 55) C fl_X2_111 dX2_release_55 ?_
      refine gV_aload_n (pc := 58) (x := a) C dX2_release_58 1 rfl rfl ?_
      refine cg_b_sector (pc := 59) (σ := ph_sA (ph_sR σ 0 ((ph_B σ 1 a).toNatClampNeg) none) 2 ((ph_B (ph_sR σ 0 ((ph_B σ 1 a).toNatClampNeg) none) 1 a).toNatClampNeg) 0) C m_a fl_X2_118 dX2_release_59 ?_
      refine gV_null (pc := 62) C dX2_release_62 ?_
      refine cs_sc_n (pc := 63) C (has_vin c_3 (by omega)) dX2_release_63 ?_
      refine gV_vret (pc := 64) C dX2_release_64 (by decide) (by decide) ?_
      exact ⟨rfl, by rw [ph_rel, if_neg c_1, ph_rel2]; first | (rw [if_neg c_3]; done) | exact congrArg (cw ad ct F S) (if_neg c_3).symm⟩
abbrev rm_X2_empty : Room := { frames := 2, cells := 0, slots := 0, locals := 42 }
set_option maxHeartbeats 4000000 in
set_option maxRecDepth 100000 in
/-- empty -/
theorem c_empty {D : va_G} {ad : Nat → Nat} {ct : Nat → ClassId} {F S : Nat} {σ : ph_S} {s : Int32} (hok : ph_ok F S σ) (hs : vp_in s 256) : gM yX2_empty cX2_empty 3 (some .boolean) rm_X2_empty D (gt ct) (cw ad ct F S σ) [.ref (ad 0), .int s] (fun v w => v = some (.int (ph_emV σ s.toNatClampNeg)) ∧ w = cw ad ct F S (ph_em F S σ s.toNatClampNeg)) := by
  refine gM_in RX2 rfl (by decide) (Nat.le_of_ble_eq_true rfl) (fun X C => ?_)
  have hF := hok.F16
  have hS := hok.S64
  refine gV_aload_n (pc := 0) (x := ad 0) C dX2_empty_0 0 rfl rfl ?_
  refine cg_bodies (pc := 1) C fl_X2_40 dX2_empty_1 ?_
  refine gV_iload_n (pc := 4) C dX2_empty_4 1 rfl rfl ?_
  refine ca_bo (pc := 5) C hs dX2_empty_5 ?_
  cases er_1 : ph_R σ 2 s.toNatClampNeg with
  | none =>
    refine gV_astoreq_n (pc := 6) (r := none) (lv' := [(2, .null), (0, .ref (ad 0)), (1, .int s)]) C dX2_empty_6 rfl (by decide) rfl ?_
    refine gV_aloadq_n (pc := 7) (r := none) C dX2_empty_7 0 rfl rfl ?_
    refine gV_ifnonnull (pc := 8) (r := none) C 13 dX2_empty_8 (by decide) (fun _ h => nomatch h) (fun _ => ?_)
    refine gV_iconst (pc := 11) (v := 0) C dX2_empty_11 (by decide) ?_
    refine gV_zret (pc := 12) C dX2_empty_12 (by decide) (by decide) (by decide) ?_
    exact ⟨by simp only [ph_emV, er_1], by first | (simp only [ph_em, er_1]; done) | (simp only [ph_em, er_1]; rw [ph_em2]; exact congrArg (cw ad ct F S) (@1).symm)⟩
  | some a_1 =>
    have m_1 : a_1 ∈ ph_L σ := hok.refs _ _ _ er_1
    refine gV_astore_n (pc := 6) (x := a_1) (lv' := [(2, .ref a_1), (0, .ref (ad 0)), (1, .int s)]) C dX2_empty_6 rfl (by decide) rfl ?_
    refine gV_aload_n (pc := 7) (x := a_1) C dX2_empty_7 0 rfl rfl ?_
    refine gV_ifnonnull (pc := 8) (r := some a_1) C 13 dX2_empty_8 (by decide) (fun _ _ => ?_) (fun h => nomatch h)
    refine gV_aload_n (pc := 13) (x := ad 0) C dX2_empty_13 1 rfl rfl ?_
    refine cg_bodies (pc := 14) C fl_X2_40 dX2_empty_14 ?_
    refine gV_iload_n (pc := 17) C dX2_empty_17 2 rfl rfl ?_
    refine gV_null (pc := 18) C dX2_empty_18 ?_
    refine cs_bo_n (pc := 19) C hs dX2_empty_19 ?_
    refine gV_aload_n (pc := 20) (x := a_1) C dX2_empty_20 0 rfl rfl ?_
    refine gV_dup (pc := 21) C dX2_empty_21 rfl ?_
    refine cg_b_holders (pc := 22) (σ := ph_sR σ 2 s.toNatClampNeg none) C m_1 fl_X2_55 dX2_empty_22 ?_
    refine gV_iconst (pc := 25) (v := 1) C dX2_empty_25 (by decide) ?_
    refine gV_isub (pc := 26) C dX2_empty_26 ?_
    refine cp_b_holders (pc := 27) (σ := ph_sR σ 2 s.toNatClampNeg none) C m_1 fl_X2_55 dX2_empty_27 ?_
    refine gV_aload_n (pc := 30) (x := a_1) C dX2_empty_30 0 rfl rfl ?_
    refine cg_b_holders (pc := 31) (σ := ph_sB (ph_sR σ 2 s.toNatClampNeg none) 3 a_1 ((ph_B (ph_sR σ 2 s.toNatClampNeg none) 3 a_1) - 1)) C m_1 fl_X2_55 dX2_empty_31 ?_
    refine gV_if_ne (pc := 34) C 42 dX2_empty_34 (by decide) (fun c_2 => ?_) (fun c_2 => ?_)
    · skip
      refine gV_iconst (pc := 42) (v := 1) C dX2_empty_42 (by decide) ?_
      refine gV_zret (pc := 43) C dX2_empty_43 (by decide) (by decide) (by decide) ?_
      exact ⟨by simp only [ph_emV, er_1], by first | (simp only [ph_em, er_1]; done) | (simp only [ph_em, er_1]; rw [ph_em2]; exact congrArg (cw ad ct F S) (if_neg c_2).symm)⟩
    · skip
      refine gV_aload_n (pc := 37) (x := ad 0) C dX2_empty_37 1 rfl rfl ?_
      refine gV_aload_n (pc := 38) (x := a_1) C dX2_empty_38 0 rfl rfl ?_
      refine gV_callV (pc := 39) (As := [.ref a_1]) (rest := []) C ml_X2_198 gy_X2_release gv_X2_release (c_release (a := a_1) (ok_ho (ok_sRn hok _ _) _ _) m_1) ⟨0, 2, _, _, rfl, rfl, rfl⟩ rfl rfl ⟨by decide, by decide⟩ (Nat.le_of_ble_eq_true rfl) (by decide) (by decide) dX2_empty_39 ?_
      rintro _ _ ⟨rfl, rfl⟩
      have m_3 : a_1 ∈ ph_L (ph_rel F S (ph_sB (ph_sR σ 2 s.toNatClampNeg none) 3 a_1 ((ph_B (ph_sR σ 2 s.toNatClampNeg none) 3 a_1) - 1)) a_1) := by rw [ph_rel_L]; exact m_1
      refine gV_iconst (pc := 42) (v := 1) C dX2_empty_42 (by decide) ?_
      refine gV_zret (pc := 43) C dX2_empty_43 (by decide) (by decide) (by decide) ?_
      exact ⟨by simp only [ph_emV, er_1], by first | (simp only [ph_em, er_1]; done) | (simp only [ph_em, er_1]; rw [ph_em2]; exact congrArg (cw ad ct F S) (if_pos c_2).symm)⟩
