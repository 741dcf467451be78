def pm_ok (F S : Nat) (μ : pm_S) : Prop := (2 ≤ F ∧ F ≤ 16 ∧ S ≤ 64) ∧ pm_I μ 1 = nI F ∧ pm_I μ 2 = nI S ∧ (∃ h, h < F ∧ pm_I μ 3 = nI h) ∧ (∀ p, p < 8 → ∃ m, m ≤ 32 ∧ pm_A μ 0 p = nI m) ∧ (∀ k, k < 256 → pm_A μ 1 k = -1 ∨ ∃ b, b < 300 ∧ pm_A μ 1 k = nI b)
theorem sI_sI (μ : pm_S) (k : Nat) (v w : Int32) : pm_sI (pm_sI μ k v) k w = pm_sI μ k w := by
  obtain ⟨a, b⟩ := μ
  refine congrArg (fun z => (z, b)) ?_
  funext j
  simp only [va_up, pm_sI]
  by_cases hj : j = k <;> simp [hj]
theorem biG_sI (μ : pm_S) (k : Nat) (v f : Int32) : ∀ d i, pm_biG (pm_sI μ k v) f d i = pm_biG μ f d i
  | 0, _ => rfl
  | d + 1, i => by unfold pm_biG; rw [pA_sI, pA_sI, biG_sI μ k v f d (i + 1)]
theorem bi_sI (μ : pm_S) (k : Nat) (v f : Int32) : pm_bi (pm_sI μ k v) f = pm_bi μ f := biG_sI μ k v f 300 0
theorem sfG_sI (μ : pm_S) (k : Nat) (v f : Int32) : ∀ d i, pm_sfG (pm_sI μ k v) f d i = pm_sfG μ f d i
  | 0, _ => rfl
  | d + 1, i => by unfold pm_sfG; rw [pA_sI, pA_sI, sfG_sI μ k v f d (i + 1)]
theorem sf_sI (μ : pm_S) (k : Nat) (v f : Int32) : pm_sf (pm_sI μ k v) f = pm_sf μ f := sfG_sI μ k v f 300 0
theorem lpG_sI (μ : pm_S) (k : Nat) (v : Int32) : ∀ d i, pm_lpG (pm_sI μ k v) d i = pm_lpG μ d i
  | 0, _ => rfl
  | d + 1, i => by unfold pm_lpG; rw [pA_sI, lpG_sI μ k v d (i + 1)]
theorem lp_sI (μ : pm_S) (k : Nat) (v : Int32) : pm_lp (pm_sI μ k v) = pm_lp μ := lpG_sI μ k v 8 0
theorem ip_sI (μ : pm_S) (k : Nat) (v p : Int32) : pm_ip (pm_sI μ k v) p = pm_ip μ p := by unfold pm_ip; rw [pA_sI]
theorem ig_sI (μ : pm_S) (k : Nat) (v p g : Int32) : pm_ig (pm_sI μ k v) p g = pm_ig μ p g := by unfold pm_ig; rw [pA_sI, ip_sI]
theorem cN_congr {f g : Nat → Bool} : ∀ n, (∀ i, i < n → f i = g i) → ph_cN f n = ph_cN g n
  | 0, _ => rfl
  | n + 1, h => by
    unfold ph_cN
    rw [cN_congr n (fun i hi => h i (by omega)), h n (by omega)]
theorem ff_sI (F : Nat) (μ : pm_S) (k : Nat) (v : Int32) : pm_ff F (pm_sI μ k v) = pm_ff F μ := cN_congr F (fun i _ => by rw [bi_sI])
theorem fs_sI (S : Nat) (μ : pm_S) (k : Nat) (v : Int32) : pm_fs S (pm_sI μ k v) = pm_fs S μ := cN_congr S (fun i _ => by rw [sf_sI])
theorem ho_sI (μ : pm_S) (k : Nat) (v b : Int32) : pm_ho (pm_sI μ k v) b = pm_ho μ b := cN_congr 256 (fun i _ => by rw [pA_sI])
theorem mok_sI {F S : Nat} {μ : pm_S} (h : pm_ok F S μ) {k : Nat} (v : Int32) (hk : k = 0 ∨ 4 ≤ k) : pm_ok F S (pm_sI μ k v) := by
  obtain ⟨h1, h2, h3, h4, h5, h6⟩ := h
  refine ⟨h1, ?_, ?_, ?_, h5, h6⟩
  · rw [pI_sI, if_neg (by omega)]; exact h2
  · rw [pI_sI, if_neg (by omega)]; exact h3
  · rw [pI_sI, if_neg (by omega)]; exact h4
theorem ix32 (t i : Nat) : (32 : Int32) * nI t + nI i = nI (32 * t + i) := by
  rw [show (32 : Int32) = nI 32 from rfl, pk_mul, nI_add]
theorem mlpG_in (μ : pm_S) : ∀ d i, pm_lpG μ d i = -1 ∨ ∃ j, j < i + d ∧ pm_lpG μ d i = nI j
  | 0, _ => Or.inl rfl
  | d + 1, i => by
    unfold pm_lpG; split
    · exact Or.inr ⟨i, by omega, rfl⟩
    · rcases mlpG_in μ d (i + 1) with h | ⟨j, hj, h⟩
      · exact Or.inl h
      · exact Or.inr ⟨j, by omega, h⟩
theorem mlp_in {μ : pm_S} (h : ¬ pm_lp μ = -1) : ∃ j, j < 8 ∧ pm_lp μ = nI j := by
  rcases mlpG_in μ 8 0 with h1 | h1
  · exact absurd h1 h
  · exact h1
theorem mlp_vin {μ : pm_S} (h : ¬ pm_lp μ = -1) : vp_in (pm_lp μ) 8 := by
  obtain ⟨j, hj, e⟩ := mlp_in h
  rw [e]; exact vp_in_nI hj (by decide)
theorem biG_in (μ : pm_S) (f : Int32) : ∀ d i, pm_biG μ f d i = -1 ∨ ∃ j, j < i + d ∧ pm_biG μ f d i = nI j
  | 0, _ => Or.inl rfl
  | d + 1, i => by
    unfold pm_biG; split
    · rcases biG_in μ f d (i + 1) with h | ⟨j, hj, h⟩
      · exact Or.inl h
      · exact Or.inr ⟨j, by omega, h⟩
    · split
      · exact Or.inr ⟨i, by omega, rfl⟩
      · rcases biG_in μ f d (i + 1) with h | ⟨j, hj, h⟩
        · exact Or.inl h
        · exact Or.inr ⟨j, by omega, h⟩
theorem bi_in (μ : pm_S) (f : Int32) : pm_bi μ f = -1 ∨ ∃ j, j < 300 ∧ pm_bi μ f = nI j := by
  have := biG_in μ f 300 0
  rw [Nat.zero_add] at this
  exact this
theorem mlpG_zero (μ : pm_S) : ∀ d i j, pm_lpG μ d i = nI j → i + d ≤ 8 → j < 8 → pm_A μ 0 j = 0
  | 0, _, j, h, _, hj => absurd h.symm (nI_ne_m1 (by omega))
  | d + 1, i, j, h, hi, hj => by
    unfold pm_lpG at h
    split at h
    · rename_i h0
      rw [(nI_eq (by omega) (by omega)).mp h] at h0
      exact h0
    · exact mlpG_zero μ d (i + 1) j h (by omega) hj
theorem mlp_zero {μ : pm_S} {j : Nat} (h : pm_lp μ = nI j) (hj : j < 8) : pm_A μ 0 j = 0 := mlpG_zero μ 8 0 j h (by omega) hj
def pm_bgV (μ : pm_S) (m : Int32) : Int32 := if m < 1 then -1 else if 32 < m then -1 else if pm_lp μ = -1 then -1 else pm_lp μ
def pm_bgW (μ : pm_S) (m : Int32) : pm_S := if m < 1 then μ else if 32 < m then μ else if pm_lp μ = -1 then μ else pm_sA μ 0 (pm_lp μ).toNatClampNeg m
def pm_fk2 (μ : pm_S) (P Q : Nat) : pm_S := pm_fA μ 1 (va_cpy (pm_A μ 1) (pm_A μ 1) (32 * P) (32 * Q) 32)
def pm_fkV (μ : pm_S) (p : Int32) : Int32 := if pm_ip μ p = 0 then -1 else if pm_lp μ = -1 then -1 else pm_lp μ
def pm_fkW (μ : pm_S) (p : Int32) : pm_S := if pm_ip μ p = 0 then μ else if pm_lp μ = -1 then μ else pm_fk2 (pm_sA μ 0 (pm_lp μ).toNatClampNeg (pm_A μ 0 p.toNatClampNeg)) p.toNatClampNeg (pm_lp μ).toNatClampNeg
def pm_enG (P : Nat) : Nat → Nat → pm_S → pm_S
  | 0, _, μ => μ
  | d + 1, i, μ => pm_enG P d (i + 1) (pm_lv μ (32 * P + i))
def pm_enV (μ : pm_S) (p : Int32) : Int32 := if pm_ip μ p = 0 then 0 else 1
def pm_enW (μ : pm_S) (p : Int32) : pm_S := if pm_ip μ p = 0 then μ else pm_sA (pm_enG p.toNatClampNeg 32 0 μ) 0 p.toNatClampNeg 0
theorem lv_bo {μ : pm_S} {k : Nat} (h : ∀ k, k < 256 → pm_A μ 1 k = -1 ∨ ∃ b, b < 300 ∧ pm_A μ 1 k = nI b) : ∀ j, j < 256 → pm_A (pm_lv μ k) 1 j = -1 ∨ ∃ b, b < 300 ∧ pm_A (pm_lv μ k) 1 j = nI b := by
  intro j hj
  have key : pm_A (pm_lv μ k) 1 j = pm_A (pm_sA μ 1 k (-1)) 1 j := by
    unfold pm_lv; split
    · rfl
    · unfold pm_lv2; split
      · rw [pA_sA, if_neg (by omega)]
      · rfl
  rw [key, pA_sA]
  split
  · exact Or.inl rfl
  · exact h j hj
theorem ig_in {μ : pm_S} {p g : Int32} (h : ¬ pm_ig μ p g = 0) : ¬ pm_ip μ p = 0 ∧ ¬ g < 0 ∧ ¬ pm_A μ 0 p.toNatClampNeg ≤ g := by
  unfold pm_ig at h
  split at h
  · exact absurd rfl h
  · split at h
    · exact absurd rfl h
    · split at h
      · exact absurd rfl h
      · exact ⟨by assumption, by assumption, by assumption⟩
theorem ig_nat {F S : Nat} {μ : pm_S} {p g : Int32} (hok : pm_ok F S μ) (h : ¬ pm_ig μ p g = 0) : ∃ P G m, P < 8 ∧ G < m ∧ m ≤ 32 ∧ p = nI P ∧ g = nI G ∧ pm_A μ 0 P = nI m := by
  obtain ⟨h1, h2, h3⟩ := ig_in h
  obtain ⟨P, hP, rfl⟩ := vp_in_of (pm_ip_vin h1) (by decide)
  obtain ⟨m, hm, e⟩ := hok.2.2.2.2.1 P hP
  obtain ⟨G, hG, rfl⟩ := nI_of h2
  rw [nI_clamp (by omega), e] at h3
  exact ⟨P, G, m, hP, Nat.lt_of_not_le fun z => h3 (nI_le z hG), hm, rfl, rfl, e⟩
def pm_sl (p g : Int32) : Nat := (32 * p + g).toNatClampNeg
def pm_drV (μ : pm_S) (p g : Int32) : Int32 := if pm_ig μ p g = 0 then 0 else if pm_A μ 1 (pm_sl p g) = -1 then 0 else 1
def pm_drW (μ : pm_S) (p g : Int32) : pm_S := if pm_ig μ p g = 0 then μ else if pm_A μ 1 (pm_sl p g) = -1 then μ else pm_lv μ (pm_sl p g)
def pm_nd1 (μ : pm_S) (b w : Int32) : Int32 := if w = 0 then 0 else if nI (pm_ho μ b) ≤ 1 then 0 else 1
def pm_nd (μ : pm_S) (b w : Int32) : Int32 := if b = -1 then (if w = 0 then 0 else 1) else if pm_A μ 3 b.toNatClampNeg = -1 then 1 + pm_nd1 μ b w else 0 + pm_nd1 μ b w
def pm_fl2 (F S : Nat) (μ : pm_S) (n : Int32) : Int32 := if n - nI (pm_ff F μ) ≤ 0 then 0 else if n - nI (pm_ff F μ) ≤ nI (pm_fs S μ) then 0 else 2
def pm_flT (F S : Nat) (μ : pm_S) (p a w : Int32) : Int32 := if pm_ip μ p = 0 then 1 else if a < 0 then 1 else if a < 16 * pm_A μ 0 p.toNatClampNeg then pm_fl2 F S μ (pm_nd μ (pm_A μ 1 (32 * p + a / 16).toNatClampNeg) w) else 1
def pm_flR (t : Int32) : Int32 := if t ≤ 0 then 0 else 1
def pm_pgV (μ : pm_S) (p g x : Int32) : Int32 := if pm_ig μ p g = 0 then -1 else if x < 0 then -1 else if x ≤ 3 then (if pm_A μ 1 (pm_sl p g) = -1 then (if 2 ≤ x then 0 else -1) else if x = 0 then pm_A μ 3 (pm_A μ 1 (pm_sl p g)).toNatClampNeg else if x = 1 then pm_A μ 4 (pm_A μ 1 (pm_sl p g)).toNatClampNeg else if x = 2 then nI (pm_ho μ (pm_A μ 1 (pm_sl p g))) else if pm_A μ 3 (pm_A μ 1 (pm_sl p g)).toNatClampNeg = -1 then 0 else if pm_A μ 5 (pm_A μ 1 (pm_sl p g)).toNatClampNeg = 0 then 0 else 1) else -1
def pm_whG (μ : pm_S) (b : Int32) : Nat → Nat → Nat
  | 0, i => i
  | d + 1, i => if pm_A μ 1 i = b then i else pm_whG μ b d (i + 1)
def pm_wh (μ : pm_S) (b : Int32) : Nat := pm_whG μ b 256 0
def pm_fr3 (μ : pm_S) (f x : Int32) : Int32 := if x = 0 then (if pm_bi μ f = -1 then 0 else if pm_A μ 8 f.toNatClampNeg = 0 then 0 else 1) else if pm_bi μ f = -1 then -1 else if x < 0 then -1 else if x ≤ 2 then (if x = 1 then nI (pm_wh μ (pm_bi μ f)) / 32 else nI (pm_wh μ (pm_bi μ f)) - nI (pm_wh μ (pm_bi μ f)) / 32 * 32) else -1
def pm_frV (F : Nat) (μ : pm_S) (f x : Int32) : Int32 := if f < 0 then -1 else if f < nI F then (if x < 16 then pm_fr3 μ f x else if 32 ≤ x then pm_fr3 μ f x else pm_A μ 6 (16 * f + x - 16).toNatClampNeg) else -1
def pm_sdT (S : Nat) (s i : Int32) : Int32 := if s < 0 then 1 else if nI S ≤ s then 1 else if i < 0 then 1 else if i ≤ 15 then 0 else 1
def pm_sdV (S : Nat) (μ : pm_S) (s i : Int32) : Int32 := if pm_sdT S s i ≤ 0 then pm_A μ 7 (16 * s + i).toNatClampNeg else 0
def pm_isB (μ : pm_S) (b : Nat) : Bool := decide (¬ pm_A μ 2 b = 0)
def pm_diB (μ : pm_S) (b : Nat) : Bool := if pm_A μ 2 b = 0 then false else if pm_A μ 3 b = -1 then false else decide (¬ pm_A μ 5 b = 0)
def pm_wsB (μ : pm_S) (b : Nat) : Bool := pm_diB μ b && decide (pm_A μ 4 b = -1)
def pm_lkV (F S : Nat) (μ : pm_S) (x : Int32) : Int32 := if x = 0 then nI (ph_cN (fun p => decide (¬ pm_A μ 0 p ≤ 0)) 8) else if x = 1 then nI (pm_ff F μ) else if x = 2 then nI (pm_fs S μ) else if x = 3 then pm_I μ 3 else if x = 4 then nI (ph_cN (pm_isB μ) 300) else if x = 5 then nI (ph_cN (pm_diB μ) 300) else if x = 6 then pm_I μ 4 else if x = 7 then pm_I μ 5 else if x = 8 then pm_I μ 6 else if x = 9 then pm_I μ 7 else if x = 10 then pm_I μ 8 else -1
abbrev rm_X3_begin : Room := { frames := 1, cells := 0, slots := 0, locals := 21 }
set_option maxHeartbeats 4000000 in
set_option maxRecDepth 100000 in
/-- begin -/
theorem d_begin {D : va_G} {o : Nat → Nat} {ct : Nat → ClassId} {μ : pm_S} (m : Int32) : gM yX3_begin cX3_begin 3 (some .int) rm_X3_begin D (gt ct) (mw o ct μ) [.ref (o 0), .int m] (fun v w => v = some (.int (pm_bgV (pm_sI μ 0 0) m)) ∧ w = mw o ct (pm_bgW (pm_sI μ 0 0) m)) := by
  refine gM_in RX3 rfl (by decide) (Nat.le_of_ble_eq_true rfl) (fun X C => ?_)
  refine gV_aload_n (pc := 0) (x := o 0) C dX3_begin_0 0 rfl rfl ?_
  refine gV_iconst (pc := 1) (v := 0) C dX3_begin_1 (by decide) ?_
  refine mp_thrown (pc := 2) C fl_X3_45 dX3_begin_2 ?_
  refine gV_aload_n (pc := 5) (x := o 0) C dX3_begin_5 0 rfl rfl ?_
  refine gV_callV (pc := 6) (As := []) (rest := []) C ml_X3_81 gy_X3_leastProcess gv_X3_leastProcess (d_leastProcess) ⟨0, 3, _, _, rfl, rfl, rfl⟩ rfl rfl ⟨by decide, by decide⟩ (Nat.le_of_ble_eq_true rfl) (by decide) (by decide) dX3_begin_6 ?_
  rintro _ _ ⟨rfl, rfl⟩
  refine gV_istore_n (pc := 9) (lv' := [(2, .int (pm_lp (pm_sI μ 0 0))), (0, .ref (o 0)), (1, .int m)]) C dX3_begin_9 rfl (by decide) rfl ?_
  refine gV_iload_n (pc := 10) C dX3_begin_10 2 rfl rfl ?_
  refine gV_iconst (pc := 11) (v := 1) C dX3_begin_11 (by decide) ?_
  refine gV_icmp_lt (pc := 12) C 26 dX3_begin_12 (by decide) (fun c_1 => ?_) (fun c_1 => ?_)
  · skip
    refine gV_iconst (pc := 26) (v := (-1)) C dX3_begin_26 (by decide) ?_
    refine gV_iret (pc := 27) C dX3_begin_27 (by decide) (by decide) ?_
    exact ⟨by rw [pm_bgV, if_pos c_1], by rw [pm_bgW, if_pos c_1]⟩
  · skip
    refine gV_iload_n (pc := 15) C dX3_begin_15 2 rfl rfl ?_
    refine gV_bipush (pc := 16) (v := 32) C dX3_begin_16 (by decide) ?_
    refine gV_icmp_gt (pc := 18) C 26 dX3_begin_18 (by decide) (fun c_2 => ?_) (fun c_2 => ?_)
    · skip
      refine gV_iconst (pc := 26) (v := (-1)) C dX3_begin_26 (by decide) ?_
      refine gV_iret (pc := 27) C dX3_begin_27 (by decide) (by decide) ?_
      exact ⟨by rw [pm_bgV, if_neg c_1, if_pos c_2], by rw [pm_bgW, if_neg c_1, if_pos c_2]⟩
    · skip
      refine gV_iload_n (pc := 21) C dX3_begin_21 0 rfl rfl ?_
      refine gV_iconst (pc := 22) (v := (-1)) C dX3_begin_22 (by decide) ?_
      refine gV_icmp_ne (pc := 23) C 28 dX3_begin_23 (by decide) (fun c_3 => ?_) (fun c_3 => ?_)
      · skip
        refine gV_aload_n (pc := 28) (x := o 0) C dX3_begin_28 1 rfl rfl ?_
        refine mg_pages (pc := 29) C fl_X3_7 dX3_begin_29 ?_
        refine gV_iload_n (pc := 32) C dX3_begin_32 0 rfl rfl ?_
        refine gV_iload_n (pc := 33) C dX3_begin_33 2 rfl rfl ?_
        refine ms_pages (pc := 34) C (mlp_vin c_3) dX3_begin_34 ?_
        refine gV_iload_n (pc := 35) C dX3_begin_35 0 rfl rfl ?_
        refine gV_iret (pc := 36) C dX3_begin_36 (by decide) (by decide) ?_
        exact ⟨by rw [pm_bgV, if_neg c_1, if_neg c_2, if_neg c_3], by rw [pm_bgW, if_neg c_1, if_neg c_2, if_neg c_3]⟩
      · skip
        refine gV_iconst (pc := 26) (v := (-1)) C dX3_begin_26 (by decide) ?_
        refine gV_iret (pc := 27) C dX3_begin_27 (by decide) (by decide) ?_
        exact ⟨by rw [pm_bgV, if_neg c_1, if_neg c_2, if_pos c_3], by rw [pm_bgW, if_neg c_1, if_neg c_2, if_pos c_3]⟩
abbrev rm_X3_fork : Room := { frames := 1, cells := 0, slots := 0, locals := 21 }
set_option maxHeartbeats 4000000 in
set_option maxRecDepth 100000 in
theorem mlp_fork {X : gx_T} {D : va_G} {o : Nat → Nat} {ct : Nat → ClassId} {μ : pm_S} {ρ τ : pm_S} {P Q : Nat} (hP : P < 8) (hQ : Q < 8) (hPQ : ¬ P = Q) (hv : pm_fkV ρ (nI P) = nI Q) (hw : pm_fk2 τ P Q = pm_fkW ρ (nI P)) (C : gC X cX3_fork 4 RX3 rm_X3_fork (some .int) D (gt ct) (fun v w => v = some (.int (pm_fkV ρ (nI P))) ∧ w = mw o ct (pm_fkW ρ (nI P)))) : ∀ d i : Nat, i + d = 32 → gV X 0 0 (mw o ct (pm_fA τ 1 (va_cpy (pm_A τ 1) (pm_A τ 1) (32 * P) (32 * Q) i))) 39 [(3, .int (nI i)), (2, .int (nI Q)), (0, .ref (o 0)), (1, .int (nI P))] [] := by
  intro d
  induction d with
  | zero =>
    intro i hi
    have e : i = 32 := by omega
    rw [e]
    refine gV_iload_n (pc := 39) C dX3_fork_39 0 rfl rfl ?_
    refine gV_bipush (pc := 40) (v := 32) C dX3_fork_40 (by decide) ?_
    refine gV_icmp_ge (pc := 42) C 73 dX3_fork_42 (by decide) (fun c_1 => ?_) (fun c_1 => ?_)
    · skip
      refine gV_iload_n (pc := 73) C dX3_fork_73 1 rfl rfl ?_
      refine gV_iret (pc := 74) C dX3_fork_74 (by decide) (by decide) ?_
      exact ⟨by rw [hv], by rw [← hw]; rfl⟩
    · exact absurd (by decide) c_1
  | succ d ih =>
    intro i hi
    refine gV_iload_n (pc := 39) C dX3_fork_39 0 rfl rfl ?_
    refine gV_bipush (pc := 40) (v := 32) C dX3_fork_40 (by decide) ?_
    refine gV_icmp_ge (pc := 42) C 73 dX3_fork_42 (by decide) (fun c_1 => ?_) (fun c_1 => ?_)
    · exact absurd c_1 (nI_ge (a := i) (b := 32) (by omega) (by omega))
    · skip
      refine gV_aload_n (pc := 45) (x := o 0) C dX3_fork_45 2 rfl rfl ?_
      refine mg_bodyOf (pc := 46) C fl_X3_13 dX3_fork_46 ?_
      refine gV_bipush (pc := 49) (v := 32) C dX3_fork_49 (by decide) ?_
      refine gV_iload_n (pc := 51) C dX3_fork_51 1 rfl rfl ?_
      refine gV_imul (pc := 52) C dX3_fork_52 ?_
      refine gV_iload_n (pc := 53) C dX3_fork_53 0 rfl rfl ?_
      refine gV_iadd (pc := 54) C dX3_fork_54 ?_
      rw [show (32 * (nI Q)) + (nI i) = nI (32 * Q + i) from ix32 _ _]
      refine gV_aload_n (pc := 55) (x := o 0) C dX3_fork_55 2 rfl rfl ?_
      refine mg_bodyOf (pc := 56) C fl_X3_13 dX3_fork_56 ?_
      refine gV_bipush (pc := 59) (v := 32) C dX3_fork_59 (by decide) ?_
      refine gV_iload_n (pc := 61) C dX3_fork_61 3 rfl rfl ?_
      refine gV_imul (pc := 62) C dX3_fork_62 ?_
      refine gV_iload_n (pc := 63) C dX3_fork_63 0 rfl rfl ?_
      refine gV_iadd (pc := 64) C dX3_fork_64 ?_
      rw [show (32 * (nI P)) + (nI i) = nI (32 * P + i) from ix32 _ _]
      refine ma_bodyOf (pc := 65) C (vp_in_nI (by omega) (by omega)) dX3_fork_65 ?_
      rw [nI_clamp (by omega)]
      rw [show pm_A (pm_fA τ 1 (va_cpy (pm_A τ 1) (pm_A τ 1) (32 * P) (32 * Q) i)) 1 (32 * P + i) = pm_A τ 1 (32 * P + i) from by rw [pA_fA, if_pos rfl, va_cpy, if_neg (by omega)]]
      refine ms_bodyOf (pc := 66) C (vp_in_nI (by omega) (by omega)) dX3_fork_66 ?_
      rw [nI_clamp (by omega)]
      refine gV_iinc (pc := 67) (v := nI (i + 1)) (lv' := [(3, .int (nI (i + 1))), (2, .int (nI Q)), (0, .ref (o 0)), (1, .int (nI P))]) C dX3_fork_67 0 rfl (nI_1 _) (by decide) rfl ?_
      refine gV_goto (pc := 70) C 39 dX3_fork_70 (by decide) ?_
      rw [pm_sA_fA, cpy_s]
      exact ih (i + 1) (by omega)
set_option maxHeartbeats 4000000 in
set_option maxRecDepth 100000 in
/-- fork -/
theorem d_fork {D : va_G} {o : Nat → Nat} {ct : Nat → ClassId} {μ : pm_S} (p : Int32) : gM yX3_fork cX3_fork 4 (some .int) rm_X3_fork D (gt ct) (mw o ct μ) [.ref (o 0), .int p] (fun v w => v = some (.int (pm_fkV (pm_sI μ 0 0) p)) ∧ w = mw o ct (pm_fkW (pm_sI μ 0 0) p)) := by
  refine gM_in RX3 rfl (by decide) (Nat.le_of_ble_eq_true rfl) (fun X C => ?_)
  refine gV_aload_n (pc := 0) (x := o 0) C dX3_fork_0 0 rfl rfl ?_
  refine gV_iconst (pc := 1) (v := 0) C dX3_fork_1 (by decide) ?_
  refine mp_thrown (pc := 2) C fl_X3_45 dX3_fork_2 ?_
  refine gV_aload_n (pc := 5) (x := o 0) C dX3_fork_5 0 rfl rfl ?_
  refine gV_callV (pc := 6) (As := []) (rest := []) C ml_X3_81 gy_X3_leastProcess gv_X3_leastProcess (d_leastProcess) ⟨0, 3, _, _, rfl, rfl, rfl⟩ rfl rfl ⟨by decide, by decide⟩ (Nat.le_of_ble_eq_true rfl) (by decide) (by decide) dX3_fork_6 ?_
  rintro _ _ ⟨rfl, rfl⟩
  refine gV_istore_n (pc := 9) (lv' := [(2, .int (pm_lp (pm_sI μ 0 0))), (0, .ref (o 0)), (1, .int p)]) C dX3_fork_9 rfl (by decide) rfl ?_
  refine gV_aload_n (pc := 10) (x := o 0) C dX3_fork_10 1 rfl rfl ?_
  refine gV_iload_n (pc := 11) C dX3_fork_11 2 rfl rfl ?_
  refine gV_callV (pc := 12) (As := [.int p]) (rest := []) C ml_X3_48 gy_X3_isProcess gv_X3_isProcess (d_isProcess _) ⟨0, 3, _, _, rfl, rfl, rfl⟩ rfl rfl ⟨by decide, by decide⟩ (Nat.le_of_ble_eq_true rfl) (by decide) (by decide) dX3_fork_12 ?_
  rintro _ _ ⟨rfl, rfl⟩
  refine gV_if_eq (pc := 15) C 23 dX3_fork_15 (by decide) (fun c_1 => ?_) (fun c_1 => ?_)
  · skip
    refine gV_iconst (pc := 23) (v := (-1)) C dX3_fork_23 (by decide) ?_
    refine gV_iret (pc := 24) C dX3_fork_24 (by decide) (by decide) ?_
    exact ⟨by rw [pm_fkV, if_pos c_1], by rw [pm_fkW, if_pos c_1]⟩
  · skip
    refine gV_iload_n (pc := 18) C dX3_fork_18 0 rfl rfl ?_
    refine gV_iconst (pc := 19) (v := (-1)) C dX3_fork_19 (by decide) ?_
    refine gV_icmp_ne (pc := 20) C 25 dX3_fork_20 (by decide) (fun c_2 => ?_) (fun c_2 => ?_)
    · skip
      obtain ⟨P, hP, rfl⟩ := vp_in_of (pm_ip_vin c_1) (by decide)
      obtain ⟨Q, hQ, eQ⟩ := mlp_in c_2
      have eP : (nI P).toNatClampNeg = P := nI_clamp (by omega)
      have hPQ : ¬ P = Q := fun e => by
        have h9 := (pm_ip_in c_1).2.2
        rw [eP, e] at h9
        exact h9 (by rw [mlp_zero eQ hQ]; decide)
      rw [eQ]
      refine gV_aload_n (pc := 25) (x := o 0) C dX3_fork_25 1 rfl rfl ?_
      refine mg_pages (pc := 26) C fl_X3_7 dX3_fork_26 ?_
      refine gV_iload_n (pc := 29) C dX3_fork_29 0 rfl rfl ?_
      refine gV_aload_n (pc := 30) (x := o 0) C dX3_fork_30 1 rfl rfl ?_
      refine mg_pages (pc := 31) C fl_X3_7 dX3_fork_31 ?_
      refine gV_iload_n (pc := 34) C dX3_fork_34 2 rfl rfl ?_
      refine ma_pages (pc := 35) C (vp_in_nI (by omega) (by omega)) dX3_fork_35 ?_
      rw [nI_clamp (by omega)]
      refine ms_pages (pc := 36) C (vp_in_nI (by omega) (by omega)) dX3_fork_36 ?_
      rw [nI_clamp (by omega)]
      refine gV_iconst (pc := 37) (v := 0) C dX3_fork_37 (by decide) ?_
      refine gV_istore_n (pc := 38) (lv' := [(3, .int 0), (2, .int (nI Q)), (0, .ref (o 0)), (1, .int (nI P))]) C dX3_fork_38 rfl (by decide) rfl ?_
      refine gV_ws (congrArg (mw o ct) (show _ = pm_fA (pm_sA (pm_sI μ 0 0) 0 Q (pm_A (pm_sI μ 0 0) 0 P)) 1 (va_cpy (pm_A (pm_sA (pm_sI μ 0 0) 0 Q (pm_A (pm_sI μ 0 0) 0 P)) 1) (pm_A (pm_sA (pm_sI μ 0 0) 0 Q (pm_A (pm_sI μ 0 0) 0 P)) 1) (32 * P) (32 * Q) 0) by rw [cpy_0, pm_fA_self])) ?_
      exact mlp_fork (μ := μ) (ρ := pm_sI μ 0 0) hP hQ hPQ (by rw [pm_fkV, if_neg c_1, if_neg c_2, eQ]) (by rw [pm_fkW, if_neg c_1, if_neg c_2, eP, eQ, nI_clamp (by omega)]) C 32 0 rfl
    · skip
      refine gV_iconst (pc := 23) (v := (-1)) C dX3_fork_23 (by decide) ?_
      refine gV_iret (pc := 24) C dX3_fork_24 (by decide) (by decide) ?_
      exact ⟨by rw [pm_fkV, if_neg c_1, if_pos c_2], by rw [pm_fkW, if_neg c_1, if_pos c_2]⟩
abbrev rm_X3_end : Room := { frames := 2, cells := 0, slots := 0, locals := 45 }
set_option maxHeartbeats 4000000 in
set_option maxRecDepth 100000 in
theorem mlp_end {X : gx_T} {D : va_G} {o : Nat → Nat} {ct : Nat → ClassId} {μ : pm_S} {ρ : pm_S} {P : Nat} (hP : P < 8) (hv : pm_enV ρ (nI P) = 1) (C : gC X cX3_end 3 RX3 rm_X3_end (some .boolean) D (gt ct) (fun v w => v = some (.int (pm_enV ρ (nI P))) ∧ w = mw o ct (pm_enW ρ (nI P)))) : ∀ (d i : Nat) (τ : pm_S), i + d = 32 → (∀ k, k < 256 → pm_A τ 1 k = -1 ∨ ∃ b, b < 300 ∧ pm_A τ 1 k = nI b) → pm_sA (pm_enG P d i τ) 0 P 0 = pm_enW ρ (nI P) → gV X 0 0 (mw o ct τ) 17 [(2, .int (nI i)), (0, .ref (o 0)), (1, .int (nI P))] [] := by
  intro d
  induction d with
  | zero =>
    intro i τ hi hbo hr
    have e : pm_sA τ 0 P 0 = pm_enW ρ (nI P) := hr
    refine gV_iload_n (pc := 17) C dX3_end_17 0 rfl rfl ?_
    refine gV_bipush (pc := 18) (v := 32) C dX3_end_18 (by decide) ?_
    refine gV_icmp_ge (pc := 20) C 39 dX3_end_20 (by decide) (fun c_1 => ?_) (fun c_1 => ?_)
    · skip
      refine gV_aload_n (pc := 39) (x := o 0) C dX3_end_39 1 rfl rfl ?_
      refine mg_pages (pc := 40) C fl_X3_7 dX3_end_40 ?_
      refine gV_iload_n (pc := 43) C dX3_end_43 2 rfl rfl ?_
      refine gV_iconst (pc := 44) (v := 0) C dX3_end_44 (by decide) ?_
      refine ms_pages (pc := 45) C (vp_in_nI (by omega) (by omega)) dX3_end_45 ?_
      rw [nI_clamp (by omega)]
      refine gV_iconst (pc := 46) (v := 1) C dX3_end_46 (by decide) ?_
      refine gV_zret (pc := 47) C dX3_end_47 (by decide) (by decide) (by decide) ?_
      exact ⟨by rw [hv], by rw [e]⟩
    · exact absurd (nI_le (a := 32) (b := i) (by omega) (by omega)) c_1
  | succ d ih =>
    intro i τ hi hbo hr
    refine gV_iload_n (pc := 17) C dX3_end_17 0 rfl rfl ?_
    refine gV_bipush (pc := 18) (v := 32) C dX3_end_18 (by decide) ?_
    refine gV_icmp_ge (pc := 20) C 39 dX3_end_20 (by decide) (fun c_1 => ?_) (fun c_1 => ?_)
    · exact absurd c_1 (nI_ge (a := i) (b := 32) (by omega) (by omega))
    · skip
      refine gV_aload_n (pc := 23) (x := o 0) C dX3_end_23 1 rfl rfl ?_
      refine gV_bipush (pc := 24) (v := 32) C dX3_end_24 (by decide) ?_
      refine gV_iload_n (pc := 26) C dX3_end_26 2 rfl rfl ?_
      refine gV_imul (pc := 27) C dX3_end_27 ?_
      refine gV_iload_n (pc := 28) C dX3_end_28 0 rfl rfl ?_
      refine gV_iadd (pc := 29) C dX3_end_29 ?_
      rw [show (32 * (nI P)) + (nI i) = nI (32 * P + i) from ix32 _ _]
      refine gV_callV (pc := 30) (As := [.int (nI (32 * P + i))]) (rest := []) C ml_X3_85 gy_X3_leave gv_X3_leave (d_leave (k := (32 * P + i)) (by omega) (hbo _ (by omega))) ⟨0, 3, _, _, rfl, rfl, rfl⟩ rfl rfl ⟨by decide, by decide⟩ (Nat.le_of_ble_eq_true rfl) (by decide) (by decide) dX3_end_30 ?_
      rintro _ _ ⟨rfl, rfl⟩
      refine gV_iinc (pc := 33) (v := nI (i + 1)) (lv' := [(2, .int (nI (i + 1))), (0, .ref (o 0)), (1, .int (nI P))]) C dX3_end_33 0 rfl (nI_1 _) (by decide) rfl ?_
      refine gV_goto (pc := 36) C 17 dX3_end_36 (by decide) ?_
      exact ih (i + 1) _ (by omega) (lv_bo hbo) (by rw [← hr, pm_enG])
set_option maxHeartbeats 4000000 in
set_option maxRecDepth 100000 in
/-- end -/
theorem d_end {D : va_G} {o : Nat → Nat} {ct : Nat → ClassId} {μ : pm_S} {F S : Nat} (p : Int32) (hok : pm_ok F S μ) : gM yX3_end cX3_end 3 (some .boolean) rm_X3_end D (gt ct) (mw o ct μ) [.ref (o 0), .int p] (fun v w => v = some (.int (pm_enV (pm_sI μ 0 0) p)) ∧ w = mw o ct (pm_enW (pm_sI μ 0 0) p)) := by
  refine gM_in RX3 rfl (by decide) (Nat.le_of_ble_eq_true rfl) (fun X C => ?_)
  obtain ⟨⟨hF2, hF16, hS64⟩, e1, e2, hhd, hpn, hbo⟩ := id hok
  refine gV_aload_n (pc := 0) (x := o 0) C dX3_end_0 0 rfl rfl ?_
  refine gV_iconst (pc := 1) (v := 0) C dX3_end_1 (by decide) ?_
  refine mp_thrown (pc := 2) C fl_X3_45 dX3_end_2 ?_
  refine gV_aload_n (pc := 5) (x := o 0) C dX3_end_5 0 rfl rfl ?_
  refine gV_iload_n (pc := 6) C dX3_end_6 1 rfl rfl ?_
  refine gV_callV (pc := 7) (As := [.int p]) (rest := []) C ml_X3_48 gy_X3_isProcess gv_X3_isProcess (d_isProcess _) ⟨0, 3, _, _, rfl, rfl, rfl⟩ rfl rfl ⟨by decide, by decide⟩ (Nat.le_of_ble_eq_true rfl) (by decide) (by decide) dX3_end_7 ?_
  rintro _ _ ⟨rfl, rfl⟩
  refine gV_if_ne (pc := 10) C 15 dX3_end_10 (by decide) (fun c_1 => ?_) (fun c_1 => ?_)
  · skip
    obtain ⟨P, hP, rfl⟩ := vp_in_of (pm_ip_vin c_1) (by decide)
    have eP : (nI P).toNatClampNeg = P := nI_clamp (by omega)
    refine gV_iconst (pc := 15) (v := 0) C dX3_end_15 (by decide) ?_
    refine gV_istore_n (pc := 16) (lv' := [(2, .int 0), (0, .ref (o 0)), (1, .int (nI P))]) C dX3_end_16 rfl (by decide) rfl ?_
    exact mlp_end (μ := μ) (ρ := pm_sI μ 0 0) hP (by rw [pm_enV, if_neg c_1]) C 32 0 _ rfl hbo (by rw [pm_enW, if_neg c_1, eP])
  · skip
    refine gV_iconst (pc := 13) (v := 0) C dX3_end_13 (by decide) ?_
    refine gV_zret (pc := 14) C dX3_end_14 (by decide) (by decide) (by decide) ?_
    exact ⟨by rw [pm_enV, if_pos c_1], by rw [pm_enW, if_pos c_1]⟩
abbrev rm_X3_drop : Room := { frames := 2, cells := 0, slots := 0, locals := 45 }
set_option maxHeartbeats 4000000 in
set_option maxRecDepth 100000 in
/-- drop -/
theorem d_drop {D : va_G} {o : Nat → Nat} {ct : Nat → ClassId} {μ : pm_S} {F S : Nat} (p g : Int32) (hok : pm_ok F S μ) : gM yX3_drop cX3_drop 3 (some .boolean) rm_X3_drop D (gt ct) (mw o ct μ) [.ref (o 0), .int p, .int g] (fun v w => v = some (.int (pm_drV (pm_sI μ 0 0) p g)) ∧ w = mw o ct (pm_drW (pm_sI μ 0 0) p g)) := by
  refine gM_in RX3 rfl (by decide) (Nat.le_of_ble_eq_true rfl) (fun X C => ?_)
  obtain ⟨⟨hF2, hF16, hS64⟩, e1, e2, hhd, hpn, hbo⟩ := id hok
  refine gV_aload_n (pc := 0) (x := o 0) C dX3_drop_0 0 rfl rfl ?_
  refine gV_iconst (pc := 1) (v := 0) C dX3_drop_1 (by decide) ?_
  refine mp_thrown (pc := 2) C fl_X3_45 dX3_drop_2 ?_
  refine gV_aload_n (pc := 5) (x := o 0) C dX3_drop_5 0 rfl rfl ?_
  refine gV_iload_n (pc := 6) C dX3_drop_6 1 rfl rfl ?_
  refine gV_iload_n (pc := 7) C dX3_drop_7 2 rfl rfl ?_
  refine gV_callV (pc := 8) (As := [.int p, .int g]) (rest := []) C ml_X3_88 gy_X3_isPage gv_X3_isPage (d_isPage _ _) ⟨0, 3, _, _, rfl, rfl, rfl⟩ rfl rfl ⟨by decide, by decide⟩ (Nat.le_of_ble_eq_true rfl) (by decide) (by decide) dX3_drop_8 ?_
  rintro _ _ ⟨rfl, rfl⟩
  refine gV_if_eq (pc := 11) C 29 dX3_drop_11 (by decide) (fun c_1 => ?_) (fun c_1 => ?_)
  · skip
    refine gV_iconst (pc := 29) (v := 0) C dX3_drop_29 (by decide) ?_
    refine gV_zret (pc := 30) C dX3_drop_30 (by decide) (by decide) (by decide) ?_
    exact ⟨by rw [pm_drV, if_pos c_1], by rw [pm_drW, if_pos c_1]⟩
  · skip
    obtain ⟨P, G, m, hP, hG, hm, rfl, rfl, em⟩ := ig_nat (mok_sI hok 0 (Or.inl rfl)) c_1
    have es : pm_sl (nI P) (nI G) = 32 * P + G := by rw [pm_sl, ix32, nI_clamp (by omega)]
    refine gV_aload_n (pc := 14) (x := o 0) C dX3_drop_14 0 rfl rfl ?_
    refine mg_bodyOf (pc := 15) C fl_X3_13 dX3_drop_15 ?_
    refine gV_bipush (pc := 18) (v := 32) C dX3_drop_18 (by decide) ?_
    refine gV_iload_n (pc := 20) C dX3_drop_20 1 rfl rfl ?_
    refine gV_imul (pc := 21) C dX3_drop_21 ?_
    refine gV_iload_n (pc := 22) C dX3_drop_22 2 rfl rfl ?_
    refine gV_iadd (pc := 23) C dX3_drop_23 ?_
    rw [show (32 * (nI P)) + (nI G) = nI (32 * P + G) from ix32 _ _]
    refine ma_bodyOf (pc := 24) C (vp_in_nI (by omega) (by omega)) dX3_drop_24 ?_
    rw [nI_clamp (by omega)]
    refine gV_iconst (pc := 25) (v := (-1)) C dX3_drop_25 (by decide) ?_
    refine gV_icmp_ne (pc := 26) C 31 dX3_drop_26 (by decide) (fun c_2 => ?_) (fun c_2 => ?_)
    · skip
      refine gV_aload_n (pc := 31) (x := o 0) C dX3_drop_31 0 rfl rfl ?_
      refine gV_bipush (pc := 32) (v := 32) C dX3_drop_32 (by decide) ?_
      refine gV_iload_n (pc := 34) C dX3_drop_34 1 rfl rfl ?_
      refine gV_imul (pc := 35) C dX3_drop_35 ?_
      refine gV_iload_n (pc := 36) C dX3_drop_36 2 rfl rfl ?_
      refine gV_iadd (pc := 37) C dX3_drop_37 ?_
      rw [show (32 * (nI P)) + (nI G) = nI (32 * P + G) from ix32 _ _]
      refine gV_callV (pc := 38) (As := [.int (nI (32 * P + G))]) (rest := []) C ml_X3_85 gy_X3_leave gv_X3_leave (d_leave (k := (32 * P + G)) (by omega) (hbo _ (by omega))) ⟨0, 3, _, _, rfl, rfl, rfl⟩ rfl rfl ⟨by decide, by decide⟩ (Nat.le_of_ble_eq_true rfl) (by decide) (by decide) dX3_drop_38 ?_
      rintro _ _ ⟨rfl, rfl⟩
      refine gV_iconst (pc := 41) (v := 1) C dX3_drop_41 (by decide) ?_
      refine gV_zret (pc := 42) C dX3_drop_42 (by decide) (by decide) (by decide) ?_
      exact ⟨by rw [pm_drV, if_neg c_1, es, if_neg c_2], by rw [pm_drW, if_neg c_1, es, if_neg c_2]⟩
    · skip
      refine gV_iconst (pc := 29) (v := 0) C dX3_drop_29 (by decide) ?_
      refine gV_zret (pc := 30) C dX3_drop_30 (by decide) (by decide) (by decide) ?_
      exact ⟨by rw [pm_drV, if_neg c_1, es, if_pos c_2], by rw [pm_drW, if_neg c_1, es, if_pos c_2]⟩
abbrev rm_X3_fails : Room := { frames := 2, cells := 0, slots := 0, locals := 44 }
set_option maxHeartbeats 4000000 in
set_option maxRecDepth 100000 in
theorem mlp_fails2 {X : gx_T} {D : va_G} {o : Nat → Nat} {ct : Nat → ClassId} {μ : pm_S} {F S : Nat} {p a y b n t : Int32} (hF : F ≤ 16) (hS : S ≤ 64) (e1 : pm_I μ 1 = nI F) (e2 : pm_I μ 2 = nI S) (ht : pm_fl2 F S μ n = t) (C : gC X cX3_fails 6 RX3 rm_X3_fails (some .boolean) D (gt ct) (fun v w => v = some (.int (pm_flR t)) ∧ w = mw o ct (pm_sI μ 0 t))) : gV X 0 0 (mw o ct (pm_sI μ 0 1)) 102 [(4, .int b), (0, .ref (o 0)), (1, .int p), (2, .int a), (3, .int y)] [.int n] := by
  refine gV_istore (pc := 102) (lv' := [(5, .int n), (4, .int b), (0, .ref (o 0)), (1, .int p), (2, .int a), (3, .int y)]) C dX3_fails_102 (by decide) rfl ?_
  refine gV_aload_n (pc := 104) (x := o 0) C dX3_fails_104 2 rfl rfl ?_
  refine gV_iload (pc := 105) C dX3_fails_105 0 rfl ?_
  refine gV_aload_n (pc := 107) (x := o 0) C dX3_fails_107 2 rfl rfl ?_
  refine gV_callV (pc := 108) (As := []) (rest := [.int n, .ref (o 0)]) C ml_X3_92 gy_X3_freeFrames gv_X3_freeFrames (d_freeFrames (F := F) e1 (by omega)) ⟨0, 3, _, _, rfl, rfl, rfl⟩ rfl rfl ⟨by decide, by decide⟩ (Nat.le_of_ble_eq_true rfl) (by decide) (by decide) dX3_fails_108 ?_
  rintro _ _ ⟨rfl, rfl⟩
  rw [ff_sI]
  refine gV_isub (pc := 111) C dX3_fails_111 ?_
  refine gV_if_le (pc := 112) C 133 dX3_fails_112 (by decide) (fun c_1 => ?_) (fun c_1 => ?_)
  · skip
    refine gV_iconst (pc := 133) (v := 0) C dX3_fails_133 (by decide) ?_
    have et : t = 0 := by rw [← ht, pm_fl2, if_pos c_1]
    rw [← et]
    refine mp_thrown (pc := 134) C fl_X3_45 dX3_fails_134 ?_
    refine gV_aload_n (pc := 137) (x := o 0) C dX3_fails_137 2 rfl rfl ?_
    refine mg_thrown (pc := 138) C fl_X3_45 dX3_fails_138 ?_
    rw [show pm_I (pm_sI (pm_sI μ 0 1) 0 t) 0 = t from rfl]
    refine gV_if_le (pc := 141) C 148 dX3_fails_141 (by decide) (fun c_12 => ?_) (fun c_12 => ?_)
    · skip
      refine gV_iconst (pc := 148) (v := 0) C dX3_fails_148 (by decide) ?_
      refine gV_zret (pc := 149) C dX3_fails_149 (by decide) (by decide) (by decide) ?_
      exact ⟨by rw [pm_flR, if_pos c_12], by rw [sI_sI]⟩
    · skip
      refine gV_iconst (pc := 144) (v := 1) C dX3_fails_144 (by decide) ?_
      refine gV_goto (pc := 145) C 149 dX3_fails_145 (by decide) ?_
      refine gV_zret (pc := 149) C dX3_fails_149 (by decide) (by decide) (by decide) ?_
      exact ⟨by rw [pm_flR, if_neg c_12], by rw [sI_sI]⟩
  · skip
    refine gV_iload (pc := 115) C dX3_fails_115 0 rfl ?_
    refine gV_aload_n (pc := 117) (x := o 0) C dX3_fails_117 2 rfl rfl ?_
    refine gV_callV (pc := 118) (As := []) (rest := [.int n, .ref (o 0)]) C ml_X3_92 gy_X3_freeFrames gv_X3_freeFrames (d_freeFrames (F := F) e1 (by omega)) ⟨0, 3, _, _, rfl, rfl, rfl⟩ rfl rfl ⟨by decide, by decide⟩ (Nat.le_of_ble_eq_true rfl) (by decide) (by decide) dX3_fails_118 ?_
    rintro _ _ ⟨rfl, rfl⟩
    rw [ff_sI]
    refine gV_isub (pc := 121) C dX3_fails_121 ?_
    refine gV_aload_n (pc := 122) (x := o 0) C dX3_fails_122 2 rfl rfl ?_
    refine gV_callV (pc := 123) (As := []) (rest := [.int (n - (nI (pm_ff F μ))), .ref (o 0)]) C ml_X3_95 gy_X3_freeSectors gv_X3_freeSectors (d_freeSectors (S := S) e2 (by omega)) ⟨0, 3, _, _, rfl, rfl, rfl⟩ rfl rfl ⟨by decide, by decide⟩ (Nat.le_of_ble_eq_true rfl) (by decide) (by decide) dX3_fails_123 ?_
    rintro _ _ ⟨rfl, rfl⟩
    rw [fs_sI]
    refine gV_icmp_le (pc := 126) C 133 dX3_fails_126 (by decide) (fun c_13 => ?_) (fun c_13 => ?_)
    · skip
      refine gV_iconst (pc := 133) (v := 0) C dX3_fails_133 (by decide) ?_
      have et : t = 0 := by rw [← ht, pm_fl2, if_neg c_1, if_pos c_13]
      rw [← et]
      refine mp_thrown (pc := 134) C fl_X3_45 dX3_fails_134 ?_
      refine gV_aload_n (pc := 137) (x := o 0) C dX3_fails_137 2 rfl rfl ?_
      refine mg_thrown (pc := 138) C fl_X3_45 dX3_fails_138 ?_
      rw [show pm_I (pm_sI (pm_sI μ 0 1) 0 t) 0 = t from rfl]
      refine gV_if_le (pc := 141) C 148 dX3_fails_141 (by decide) (fun c_24 => ?_) (fun c_24 => ?_)
      · skip
        refine gV_iconst (pc := 148) (v := 0) C dX3_fails_148 (by decide) ?_
        refine gV_zret (pc := 149) C dX3_fails_149 (by decide) (by decide) (by decide) ?_
        exact ⟨by rw [pm_flR, if_pos c_24], by rw [sI_sI]⟩
      · skip
        refine gV_iconst (pc := 144) (v := 1) C dX3_fails_144 (by decide) ?_
        refine gV_goto (pc := 145) C 149 dX3_fails_145 (by decide) ?_
        refine gV_zret (pc := 149) C dX3_fails_149 (by decide) (by decide) (by decide) ?_
        exact ⟨by rw [pm_flR, if_neg c_24], by rw [sI_sI]⟩
    · skip
      refine gV_iconst (pc := 129) (v := 2) C dX3_fails_129 (by decide) ?_
      refine gV_goto (pc := 130) C 134 dX3_fails_130 (by decide) ?_
      have et : t = 2 := by rw [← ht, pm_fl2, if_neg c_1, if_neg c_13]
      rw [← et]
      refine mp_thrown (pc := 134) C fl_X3_45 dX3_fails_134 ?_
      refine gV_aload_n (pc := 137) (x := o 0) C dX3_fails_137 2 rfl rfl ?_
      refine mg_thrown (pc := 138) C fl_X3_45 dX3_fails_138 ?_
      rw [show pm_I (pm_sI (pm_sI μ 0 1) 0 t) 0 = t from rfl]
      refine gV_if_le (pc := 141) C 148 dX3_fails_141 (by decide) (fun c_35 => ?_) (fun c_35 => ?_)
      · skip
        refine gV_iconst (pc := 148) (v := 0) C dX3_fails_148 (by decide) ?_
        refine gV_zret (pc := 149) C dX3_fails_149 (by decide) (by decide) (by decide) ?_
        exact ⟨by rw [pm_flR, if_pos c_35], by rw [sI_sI]⟩
      · skip
        refine gV_iconst (pc := 144) (v := 1) C dX3_fails_144 (by decide) ?_
        refine gV_goto (pc := 145) C 149 dX3_fails_145 (by decide) ?_
        refine gV_zret (pc := 149) C dX3_fails_149 (by decide) (by decide) (by decide) ?_
        exact ⟨by rw [pm_flR, if_neg c_35], by rw [sI_sI]⟩
theorem nd1_eq {μ : pm_S} {b w : Int32} {x : Int32} (h : pm_nd1 μ b w = x) : pm_nd1 μ b w = x := h
set_option maxHeartbeats 4000000 in
set_option maxRecDepth 100000 in
/-- fails -/
theorem d_fails {D : va_G} {o : Nat → Nat} {ct : Nat → ClassId} {μ : pm_S} {F S : Nat} (p a y : Int32) (hok : pm_ok F S μ) : gM yX3_fails cX3_fails 6 (some .boolean) rm_X3_fails D (gt ct) (mw o ct μ) [.ref (o 0), .int p, .int a, .int y] (fun v w => v = some (.int (pm_flR (pm_flT F S μ p a y))) ∧ w = mw o ct (pm_sI μ 0 (pm_flT F S μ p a y))) := by
  refine gM_in RX3 rfl (by decide) (Nat.le_of_ble_eq_true rfl) (fun X C => ?_)
  obtain ⟨⟨hF2, hF16, hS64⟩, e1, e2, hhd, hpn, hbo⟩ := id hok
  refine gV_aload_n (pc := 0) (x := o 0) C dX3_fails_0 0 rfl rfl ?_
  refine gV_iconst (pc := 1) (v := 1) C dX3_fails_1 (by decide) ?_
  refine mp_thrown (pc := 2) C fl_X3_45 dX3_fails_2 ?_
  refine gV_aload_n (pc := 5) (x := o 0) C dX3_fails_5 0 rfl rfl ?_
  refine gV_iload_n (pc := 6) C dX3_fails_6 1 rfl rfl ?_
  refine gV_callV (pc := 7) (As := [.int p]) (rest := []) C ml_X3_48 gy_X3_isProcess gv_X3_isProcess (d_isProcess _) ⟨0, 3, _, _, rfl, rfl, rfl⟩ rfl rfl ⟨by decide, by decide⟩ (Nat.le_of_ble_eq_true rfl) (by decide) (by decide) dX3_fails_7 ?_
  rintro _ _ ⟨rfl, rfl⟩
  refine gV_if_eq (pc := 10) C 30 dX3_fails_10 (by decide) (fun c_1 => ?_) (fun c_1 => ?_)
  · skip
    refine gV_iconst (pc := 30) (v := 1) C dX3_fails_30 (by decide) ?_
    refine gV_zret (pc := 31) C dX3_fails_31 (by decide) (by decide) (by decide) ?_
    exact ⟨by rw [pm_flT, if_pos (by rw [← ip_sI μ 0 1]; exact c_1)]; rfl, by rw [pm_flT, if_pos (by rw [← ip_sI μ 0 1]; exact c_1)]⟩
  · skip
    refine gV_iload_n (pc := 13) C dX3_fails_13 2 rfl rfl ?_
    refine gV_if_lt (pc := 14) C 30 dX3_fails_14 (by decide) (fun c_2 => ?_) (fun c_2 => ?_)
    · skip
      refine gV_iconst (pc := 30) (v := 1) C dX3_fails_30 (by decide) ?_
      refine gV_zret (pc := 31) C dX3_fails_31 (by decide) (by decide) (by decide) ?_
      exact ⟨by rw [pm_flT, if_neg (by rw [← ip_sI μ 0 1]; exact c_1), if_pos c_2]; rfl, by rw [pm_flT, if_neg (by rw [← ip_sI μ 0 1]; exact c_1), if_pos c_2]⟩
    · skip
      refine gV_iload_n (pc := 17) C dX3_fails_17 2 rfl rfl ?_
      refine gV_bipush (pc := 18) (v := 16) C dX3_fails_18 (by decide) ?_
      refine gV_aload_n (pc := 20) (x := o 0) C dX3_fails_20 0 rfl rfl ?_
      refine mg_pages (pc := 21) C fl_X3_7 dX3_fails_21 ?_
      refine gV_iload_n (pc := 24) C dX3_fails_24 1 rfl rfl ?_
      refine ma_pages (pc := 25) C (pm_ip_vin c_1) dX3_fails_25 ?_
      refine gV_imul (pc := 26) C dX3_fails_26 ?_
      refine gV_icmp_lt (pc := 27) C 32 dX3_fails_27 (by decide) (fun c_3 => ?_) (fun c_3 => ?_)
      · skip
        obtain ⟨P, hP, rfl⟩ := vp_in_of (pm_ip_vin (c_1)) (by decide)
        obtain ⟨x, hx, rfl⟩ := nI_of c_2
        obtain ⟨m, hm, em⟩ := hpn P hP
        have eP : (nI P).toNatClampNeg = P := nI_clamp (by omega)
        have hlt : x < 16 * m := by
          have h9 : nI x < 16 * pm_A μ 0 (nI P).toNatClampNeg := c_3
          rw [eP, em, show (16 : Int32) = nI 16 from rfl, pk_mul] at h9
          exact Nat.lt_of_not_le (fun z => (nI_nlt z hx) h9)
        have es : (32 : Int32) * nI P + nI x / 16 = nI (32 * P + x / 16) := by rw [div16 hx, ix32]
        have hT : pm_flT F S μ (nI P) (nI x) y = pm_fl2 F S μ (pm_nd μ (pm_A μ 1 (32 * P + x / 16)) y) := by
          rw [pm_flT, if_neg (by rw [← ip_sI μ 0 1]; exact c_1), if_neg c_2, if_pos (show nI x < 16 * pm_A μ 0 (nI P).toNatClampNeg from c_3), es, nI_clamp (by omega)]
        rw [hT] at C
        refine gV_aload_n (pc := 32) (x := o 0) C dX3_fails_32 0 rfl rfl ?_
        refine mg_bodyOf (pc := 33) C fl_X3_13 dX3_fails_33 ?_
        refine gV_bipush (pc := 36) (v := 32) C dX3_fails_36 (by decide) ?_
        refine gV_iload_n (pc := 38) C dX3_fails_38 1 rfl rfl ?_
        refine gV_imul (pc := 39) C dX3_fails_39 ?_
        refine gV_iload_n (pc := 40) C dX3_fails_40 2 rfl rfl ?_
        refine gV_bipush (pc := 41) (v := 16) C dX3_fails_41 (by decide) ?_
        refine gV_idiv (pc := 43) C dX3_fails_43 (by decide) ?_
        refine gV_iadd (pc := 44) C dX3_fails_44 ?_
        rw [show (32 * (nI P)) + ((nI x) / 16) = nI (32 * P + x / 16) from es]
        refine ma_bodyOf (pc := 45) C (vp_in_nI (by omega) (by omega)) dX3_fails_45 ?_
        rw [nI_clamp (by omega)]
        rw [show pm_A (pm_sI μ 0 1) 1 (32 * P + x / 16) = pm_A μ 1 (32 * P + x / 16) from rfl]
        refine gV_istore (pc := 46) (lv' := [(4, .int (pm_A μ 1 (32 * P + x / 16))), (0, .ref (o 0)), (1, .int (nI P)), (2, .int (nI x)), (3, .int y)]) C dX3_fails_46 (by decide) rfl ?_
        refine gV_iload (pc := 48) C dX3_fails_48 0 rfl ?_
        refine gV_iconst (pc := 50) (v := (-1)) C dX3_fails_50 (by decide) ?_
        refine gV_icmp_ne (pc := 51) C 66 dX3_fails_51 (by decide) (fun c_24 => ?_) (fun c_24 => ?_)
        · skip
          refine gV_aload_n (pc := 66) (x := o 0) C dX3_fails_66 1 rfl rfl ?_
          refine mg_frameOf (pc := 67) C fl_X3_20 dX3_fails_67 ?_
          refine gV_iload (pc := 70) C dX3_fails_70 0 rfl ?_
          refine ma_frameOf (pc := 72) C (by rcases hbo (32 * P + x / 16) (by omega) with h | ⟨z, hz, e⟩; exact absurd h c_24; rw [e]; exact vp_in_nI hz (by omega)) dX3_fails_72 ?_
          refine gV_iconst (pc := 73) (v := (-1)) C dX3_fails_73 (by decide) ?_
          refine gV_icmp_ne (pc := 74) C 81 dX3_fails_74 (by decide) (fun c_25 => ?_) (fun c_25 => ?_)
          · skip
            refine gV_iconst (pc := 81) (v := 0) C dX3_fails_81 (by decide) ?_
            refine gV_iload_n (pc := 82) C dX3_fails_82 4 rfl rfl ?_
            refine gV_if_eq (pc := 83) C 100 dX3_fails_83 (by decide) (fun c_26 => ?_) (fun c_26 => ?_)
            · skip
              refine gV_iconst (pc := 100) (v := 0) C dX3_fails_100 (by decide) ?_
              refine gV_iadd (pc := 101) C dX3_fails_101 ?_
              exact mlp_fails2 hF16 hS64 e1 e2 (by congr 1; rw [pm_nd, if_neg c_24, if_neg (show ¬ pm_A μ 3 (pm_A μ 1 (32 * P + x / 16)).toNatClampNeg = -1 from c_25), pm_nd1, if_pos c_26]) C
            · skip
              refine gV_aload_n (pc := 86) (x := o 0) C dX3_fails_86 1 rfl rfl ?_
              refine gV_iload (pc := 87) C dX3_fails_87 0 rfl ?_
              refine gV_callV (pc := 89) (As := [.int (pm_A μ 1 (32 * P + x / 16))]) (rest := [.int 0]) C ml_X3_59 gy_X3_holders gv_X3_holders (d_holders _) ⟨0, 3, _, _, rfl, rfl, rfl⟩ rfl rfl ⟨by decide, by decide⟩ (Nat.le_of_ble_eq_true rfl) (by decide) (by decide) dX3_fails_89 ?_
              rintro _ _ ⟨rfl, rfl⟩
              refine gV_iconst (pc := 92) (v := 1) C dX3_fails_92 (by decide) ?_
              refine gV_icmp_le (pc := 93) C 100 dX3_fails_93 (by decide) (fun c_27 => ?_) (fun c_27 => ?_)
              · skip
                refine gV_iconst (pc := 100) (v := 0) C dX3_fails_100 (by decide) ?_
                refine gV_iadd (pc := 101) C dX3_fails_101 ?_
                exact mlp_fails2 hF16 hS64 e1 e2 (by congr 1; rw [pm_nd, if_neg c_24, if_neg (show ¬ pm_A μ 3 (pm_A μ 1 (32 * P + x / 16)).toNatClampNeg = -1 from c_25), pm_nd1, if_neg c_26, ← ho_sI μ 0 1, if_pos c_27]) C
              · skip
                refine gV_iconst (pc := 96) (v := 1) C dX3_fails_96 (by decide) ?_
                refine gV_goto (pc := 97) C 101 dX3_fails_97 (by decide) ?_
                refine gV_iadd (pc := 101) C dX3_fails_101 ?_
                exact mlp_fails2 hF16 hS64 e1 e2 (by congr 1; rw [pm_nd, if_neg c_24, if_neg (show ¬ pm_A μ 3 (pm_A μ 1 (32 * P + x / 16)).toNatClampNeg = -1 from c_25), pm_nd1, if_neg c_26, ← ho_sI μ 0 1, if_neg c_27]) C
          · skip
            refine gV_iconst (pc := 77) (v := 1) C dX3_fails_77 (by decide) ?_
            refine gV_goto (pc := 78) C 82 dX3_fails_78 (by decide) ?_
            refine gV_iload_n (pc := 82) C dX3_fails_82 4 rfl rfl ?_
            refine gV_if_eq (pc := 83) C 100 dX3_fails_83 (by decide) (fun c_28 => ?_) (fun c_28 => ?_)
            · skip
              refine gV_iconst (pc := 100) (v := 0) C dX3_fails_100 (by decide) ?_
              refine gV_iadd (pc := 101) C dX3_fails_101 ?_
              exact mlp_fails2 hF16 hS64 e1 e2 (by congr 1; rw [pm_nd, if_neg c_24, if_pos (show pm_A μ 3 (pm_A μ 1 (32 * P + x / 16)).toNatClampNeg = -1 from c_25), pm_nd1, if_pos c_28]) C
            · skip
              refine gV_aload_n (pc := 86) (x := o 0) C dX3_fails_86 1 rfl rfl ?_
              refine gV_iload (pc := 87) C dX3_fails_87 0 rfl ?_
              refine gV_callV (pc := 89) (As := [.int (pm_A μ 1 (32 * P + x / 16))]) (rest := [.int 1]) C ml_X3_59 gy_X3_holders gv_X3_holders (d_holders _) ⟨0, 3, _, _, rfl, rfl, rfl⟩ rfl rfl ⟨by decide, by decide⟩ (Nat.le_of_ble_eq_true rfl) (by decide) (by decide) dX3_fails_89 ?_
              rintro _ _ ⟨rfl, rfl⟩
              refine gV_iconst (pc := 92) (v := 1) C dX3_fails_92 (by decide) ?_
              refine gV_icmp_le (pc := 93) C 100 dX3_fails_93 (by decide) (fun c_29 => ?_) (fun c_29 => ?_)
              · skip
                refine gV_iconst (pc := 100) (v := 0) C dX3_fails_100 (by decide) ?_
                refine gV_iadd (pc := 101) C dX3_fails_101 ?_
                exact mlp_fails2 hF16 hS64 e1 e2 (by congr 1; rw [pm_nd, if_neg c_24, if_pos (show pm_A μ 3 (pm_A μ 1 (32 * P + x / 16)).toNatClampNeg = -1 from c_25), pm_nd1, if_neg c_28, ← ho_sI μ 0 1, if_pos c_29]) C
              · skip
                refine gV_iconst (pc := 96) (v := 1) C dX3_fails_96 (by decide) ?_
                refine gV_goto (pc := 97) C 101 dX3_fails_97 (by decide) ?_
                refine gV_iadd (pc := 101) C dX3_fails_101 ?_
                exact mlp_fails2 hF16 hS64 e1 e2 (by congr 1; rw [pm_nd, if_neg c_24, if_pos (show pm_A μ 3 (pm_A μ 1 (32 * P + x / 16)).toNatClampNeg = -1 from c_25), pm_nd1, if_neg c_28, ← ho_sI μ 0 1, if_neg c_29]) C
        · skip
          refine gV_iload_n (pc := 54) C dX3_fails_54 4 rfl rfl ?_
          refine gV_if_eq (pc := 55) C 62 dX3_fails_55 (by decide) (fun c_30 => ?_) (fun c_30 => ?_)
          · skip
            refine gV_iconst (pc := 62) (v := 0) C dX3_fails_62 (by decide) ?_
            refine gV_goto (pc := 63) C 102 dX3_fails_63 (by decide) ?_
            exact mlp_fails2 hF16 hS64 e1 e2 (by congr 1; rw [pm_nd, if_pos c_24, if_pos c_30]) C
          · skip
            refine gV_iconst (pc := 58) (v := 1) C dX3_fails_58 (by decide) ?_
            refine gV_goto (pc := 59) C 102 dX3_fails_59 (by decide) ?_
            exact mlp_fails2 hF16 hS64 e1 e2 (by congr 1; rw [pm_nd, if_pos c_24, if_neg c_30]) C
      · skip
        refine gV_iconst (pc := 30) (v := 1) C dX3_fails_30 (by decide) ?_
        refine gV_zret (pc := 31) C dX3_fails_31 (by decide) (by decide) (by decide) ?_
        exact ⟨by rw [pm_flT, if_neg (by rw [← ip_sI μ 0 1]; exact c_1), if_neg c_2, if_neg (show ¬ a < 16 * pm_A μ 0 p.toNatClampNeg from c_3)]; rfl, by rw [pm_flT, if_neg (by rw [← ip_sI μ 0 1]; exact c_1), if_neg c_2, if_neg (show ¬ a < 16 * pm_A μ 0 p.toNatClampNeg from c_3)]⟩
