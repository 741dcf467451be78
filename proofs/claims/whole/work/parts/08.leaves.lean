theorem gM_in {y : MethodName} {bytes : ByteArray} {maxL : Nat} {rt : Option FieldType} {rm : Room} {D : va_G} {tys : List (ClassId × FieldType)} {ws : va_W} {av : List Value} {post : Option Value → va_W → Prop} (own : String) (ho : y.cls = own)
    (hy : plainName own = true) (hav : (lg_sl av).length ≤ maxL) (h : ∀ X : gx_T, gC X bytes maxL own rm rt D tys post → gV X 0 0 ws 0 (lv_args 0 av) []) : gM y bytes maxL rt rm D tys ws av post := by
  subst ho
  exact gM_intro hy hav h
/-- what every state of the class keeps to -/
def ph_ok (F S : Nat) (σ : ph_S) : Prop :=
  (2 ≤ F ∧ F ≤ 16 ∧ S ≤ 64) ∧ (∀ k j a, ph_R σ k j = some a → a ∈ ph_L σ) ∧
  (∀ a, a ∈ ph_L σ → (ph_B σ 1 a = -1 ∨ ∃ f, f < F ∧ ph_B σ 1 a = nI f) ∧ (ph_B σ 2 a = -1 ∨ ∃ f, f < S ∧ ph_B σ 2 a = nI f) ∧ (∃ g, g < 32 ∧ ph_B σ 0 a = nI g) ∧ (ph_B σ 4 a = 0 ∨ ph_B σ 4 a = 1)) ∧
  (∃ h, h < F ∧ ph_I σ 0 = nI h) ∧ (∀ p, p < 8 → ∃ m, m ≤ 32 ∧ ph_A σ 3 p = nI m) ∧ (∀ f, ph_A σ 2 f = 0 ∨ ph_A σ 2 f = 1)
theorem ph_ok.F2 {F S : Nat} {σ : ph_S} (h : ph_ok F S σ) : 2 ≤ F := h.1.1
theorem ph_ok.F16 {F S : Nat} {σ : ph_S} (h : ph_ok F S σ) : F ≤ 16 := h.1.2.1
theorem ph_ok.S64 {F S : Nat} {σ : ph_S} (h : ph_ok F S σ) : S ≤ 64 := h.1.2.2
theorem ph_ok.refs {F S : Nat} {σ : ph_S} (h : ph_ok F S σ) : ∀ k j a, ph_R σ k j = some a → a ∈ ph_L σ := h.2.1
theorem ph_ok.fr {F S : Nat} {σ : ph_S} (h : ph_ok F S σ) {a : Nat} (ha : a ∈ ph_L σ) : ph_B σ 1 a = -1 ∨ ∃ f, f < F ∧ ph_B σ 1 a = nI f := (h.2.2.1 a ha).1
theorem ph_ok.se {F S : Nat} {σ : ph_S} (h : ph_ok F S σ) {a : Nat} (ha : a ∈ ph_L σ) : ph_B σ 2 a = -1 ∨ ∃ f, f < S ∧ ph_B σ 2 a = nI f := (h.2.2.1 a ha).2.1
theorem ph_ok.pg {F S : Nat} {σ : ph_S} (h : ph_ok F S σ) {a : Nat} (ha : a ∈ ph_L σ) : ∃ g, g < 32 ∧ ph_B σ 0 a = nI g := (h.2.2.1 a ha).2.2.1
theorem ph_ok.di {F S : Nat} {σ : ph_S} (h : ph_ok F S σ) {a : Nat} (ha : a ∈ ph_L σ) : ph_B σ 4 a = 0 ∨ ph_B σ 4 a = 1 := (h.2.2.1 a ha).2.2.2
theorem ph_ok.hand {F S : Nat} {σ : ph_S} (h : ph_ok F S σ) : ∃ j, j < F ∧ ph_I σ 0 = nI j := h.2.2.2.1
theorem ph_ok.pn {F S : Nat} {σ : ph_S} (h : ph_ok F S σ) {p : Nat} (hp : p < 8) : ∃ m, m ≤ 32 ∧ ph_A σ 3 p = nI m := h.2.2.2.2.1 p hp
theorem ph_ok.us {F S : Nat} {σ : ph_S} (h : ph_ok F S σ) (f : Nat) : ph_A σ 2 f = 0 ∨ ph_A σ 2 f = 1 := h.2.2.2.2.2 f
/-- an index by the two tests that stand ahead of it -/
theorem ix_cmp {x : Int32} {N : Nat} (hN : N < 2 ^ 31) (h1 : ¬ x < 0) (h2 : ¬ nI N ≤ x) : vp_in x N := by
  obtain ⟨j, hj, rfl⟩ := nI_of h1
  refine vp_in_nI (Nat.lt_of_not_le fun h => h2 (nI_le h hj)) hN
/-- how many of the first n -/
def ph_cN (f : Nat → Bool) : Nat → Nat
  | 0 => 0
  | n + 1 => ph_cN f n + (if f n = true then 1 else 0)
theorem ph_cN_le (f : Nat → Bool) : ∀ n, ph_cN f n ≤ n
  | 0 => Nat.le_refl 0
  | n + 1 => by
    have := ph_cN_le f n
    unfold ph_cN
    split <;> omega
theorem ph_cN_t {f : Nat → Bool} {n : Nat} (h : f n = true) : ph_cN f (n + 1) = ph_cN f n + 1 := by simp [ph_cN, h]
theorem ph_cN_f {f : Nat → Bool} {n : Nat} (h : f n = false) : ph_cN f (n + 1) = ph_cN f n := by simp [ph_cN, h]
def ph_has (N : Nat) (r : Int32) : Int32 := if r < 0 then 0 else if nI N ≤ r then 0 else 1
def ph_lfG (f : Nat → Option Nat) : Nat → Nat → Int32
  | 0, _ => -1
  | d + 1, i => match f i with
    | none => nI i
    | some _ => ph_lfG f d (i + 1)
def ph_lf (f : Nat → Option Nat) (N : Nat) : Int32 := ph_lfG f N 0
def ph_cf (f : Nat → Option Nat) (N : Nat) : Nat := ph_cN (fun i => (f i).isNone) N
def ph_lpG (σ : ph_S) : Nat → Nat → Int32
  | 0, _ => -1
  | d + 1, i => if ph_A σ 3 i = 0 then nI i else ph_lpG σ d (i + 1)
def ph_lp (σ : ph_S) : Int32 := ph_lpG σ 8 0
def ph_hp (σ : ph_S) (p : Int32) : Int32 := if p < 0 then 0 else if 8 ≤ p then 0 else if ph_A σ 3 p.toNatClampNeg ≤ 0 then 0 else 1
def ph_hg (σ : ph_S) (p g : Int32) : Int32 := if ph_hp σ p = 0 then 0 else if g < 0 then 0 else if ph_A σ 3 p.toNatClampNeg ≤ g then 0 else 1
theorem ph_hp_in {σ : ph_S} {p : Int32} (h : ¬ ph_hp σ p = 0) : ¬ p < 0 ∧ ¬ 8 ≤ p ∧ ¬ ph_A σ 3 p.toNatClampNeg ≤ 0 := by
  unfold ph_hp at h
  split at h
  · exact absurd rfl h
  · split at h
    · exact absurd rfl h
    · split at h
      · exact absurd rfl h
      · exact ⟨by assumption, by assumption, by assumption⟩
theorem ph_hp_vin {σ : ph_S} {p : Int32} (h : ¬ ph_hp σ p = 0) : vp_in p 8 := ix_cmp (N := 8) (by decide) (ph_hp_in h).1 (ph_hp_in h).2.1
theorem ph_hp_01 (σ : ph_S) (p : Int32) : ph_hp σ p = 0 ∨ ph_hp σ p = 1 := by
  unfold ph_hp
  split
  · exact Or.inl rfl
  · split
    · exact Or.inl rfl
    · split
      · exact Or.inl rfl
      · exact Or.inr rfl
def ph_tr (σ : ph_S) (r : Option Nat) : Int32 := match r with
  | none => 0
  | some a => if ph_B σ 1 a = -1 then 1 else 0
def ph_tw (σ : ph_S) (r : Option Nat) : Int32 := match r with
  | none => 1
  | some a => if ph_B σ 3 a ≤ 1 then ph_tr σ (some a) + 0 else ph_tr σ (some a) + 1
def ph_bh (F : Nat) (f : Int32) : Int32 := if nI F ≤ f + 1 then 0 else f + 1
abbrev rm_X1_has : Room := { frames := 0, cells := 0, slots := 0, locals := 0 }
set_option maxHeartbeats 4000000 in
set_option maxRecDepth 100000 in
/-- Rows.has -/
theorem c_has1 {D : va_G} {ad : Nat → Nat} {ct : Nat → ClassId} {F S : Nat} {σ : ph_S} (r : Int32) : gM yX1_has cX1_has 2 (some .boolean) rm_X1_has D (gt ct) (cw ad ct F S σ) [.ref (ad 1), .int r] (fun v w => v = some (.int (ph_has F r)) ∧ w = cw ad ct F S σ) := by
  refine gM_in RX1 rfl (by decide) (Nat.le_of_ble_eq_true rfl) (fun X C => ?_)
  refine gV_iload_n (pc := 0) C dX1_has_0 1 rfl rfl ?_
  refine gV_if_lt (pc := 1) C 17 dX1_has_1 (by decide) (fun c_1 => ?_) (fun c_1 => ?_)
  · skip
    refine gV_iconst (pc := 17) (v := 0) C dX1_has_17 (by decide) ?_
    refine gV_zret (pc := 18) C dX1_has_18 (by decide) (by decide) (by decide) ?_
    exact ⟨by rw [ph_has, if_pos c_1], rfl⟩
  · skip
    refine gV_iload_n (pc := 4) C dX1_has_4 1 rfl rfl ?_
    refine gV_aload_n (pc := 5) (x := ad 1) C dX1_has_5 0 rfl rfl ?_
    refine cg_content1 (pc := 6) C fl_X1_11 dX1_has_6 ?_
    refine cl_fc (pc := 9) C dX1_has_9 ?_
    refine gV_icmp_ge (pc := 10) C 17 dX1_has_10 (by decide) (fun c_2 => ?_) (fun c_2 => ?_)
    · skip
      refine gV_iconst (pc := 17) (v := 0) C dX1_has_17 (by decide) ?_
      refine gV_zret (pc := 18) C dX1_has_18 (by decide) (by decide) (by decide) ?_
      exact ⟨by rw [ph_has, if_neg c_1, if_pos c_2], rfl⟩
    · skip
      refine gV_iconst (pc := 13) (v := 1) C dX1_has_13 (by decide) ?_
      refine gV_goto (pc := 14) C 18 dX1_has_14 (by decide) ?_
      refine gV_zret (pc := 18) C dX1_has_18 (by decide) (by decide) (by decide) ?_
      exact ⟨by rw [ph_has, if_neg c_1, if_neg c_2], rfl⟩
set_option maxHeartbeats 4000000 in
set_option maxRecDepth 100000 in
/-- Rows.has -/
theorem c_has2 {D : va_G} {ad : Nat → Nat} {ct : Nat → ClassId} {F S : Nat} {σ : ph_S} (r : Int32) : gM yX1_has cX1_has 2 (some .boolean) rm_X1_has D (gt ct) (cw ad ct F S σ) [.ref (ad 2), .int r] (fun v w => v = some (.int (ph_has S r)) ∧ w = cw ad ct F S σ) := by
  refine gM_in RX1 rfl (by decide) (Nat.le_of_ble_eq_true rfl) (fun X C => ?_)
  refine gV_iload_n (pc := 0) C dX1_has_0 1 rfl rfl ?_
  refine gV_if_lt (pc := 1) C 17 dX1_has_1 (by decide) (fun c_1 => ?_) (fun c_1 => ?_)
  · skip
    refine gV_iconst (pc := 17) (v := 0) C dX1_has_17 (by decide) ?_
    refine gV_zret (pc := 18) C dX1_has_18 (by decide) (by decide) (by decide) ?_
    exact ⟨by rw [ph_has, if_pos c_1], rfl⟩
  · skip
    refine gV_iload_n (pc := 4) C dX1_has_4 1 rfl rfl ?_
    refine gV_aload_n (pc := 5) (x := ad 2) C dX1_has_5 0 rfl rfl ?_
    refine cg_content2 (pc := 6) C fl_X1_11 dX1_has_6 ?_
    refine cl_sc (pc := 9) C dX1_has_9 ?_
    refine gV_icmp_ge (pc := 10) C 17 dX1_has_10 (by decide) (fun c_2 => ?_) (fun c_2 => ?_)
    · skip
      refine gV_iconst (pc := 17) (v := 0) C dX1_has_17 (by decide) ?_
      refine gV_zret (pc := 18) C dX1_has_18 (by decide) (by decide) (by decide) ?_
      exact ⟨by rw [ph_has, if_neg c_1, if_pos c_2], rfl⟩
    · skip
      refine gV_iconst (pc := 13) (v := 1) C dX1_has_13 (by decide) ?_
      refine gV_goto (pc := 14) C 18 dX1_has_14 (by decide) ?_
      refine gV_zret (pc := 18) C dX1_has_18 (by decide) (by decide) (by decide) ?_
      exact ⟨by rw [ph_has, if_neg c_1, if_neg c_2], rfl⟩
abbrev rm_X1_leastFree : Room := { frames := 0, cells := 0, slots := 0, locals := 0 }
abbrev rm_X1_countFree : Room := { frames := 0, cells := 0, slots := 0, locals := 0 }
set_option maxHeartbeats 4000000 in
set_option maxRecDepth 100000 in
theorem lp_leastFree1 {X : gx_T} {D : va_G} {ad : Nat → Nat} {ct : Nat → ClassId} {F S : Nat} {σ : ph_S} (hN : F ≤ 64) (C : gC X cX1_leastFree 2 RX1 rm_X1_leastFree (some .int) D (gt ct) (fun v w => v = some (.int (ph_lf (ph_R σ 0) F)) ∧ w = cw ad ct F S σ)) : ∀ d i : Nat, i + d = F → ph_lfG (ph_R σ 0) d i = ph_lf (ph_R σ 0) F → gV X 0 0 (cw ad ct F S σ) 2 [(1, .int (nI i)), (0, .ref (ad 1))] [] := by
  intro d
  induction d with
  | zero =>
    intro i hi hr
    refine gV_iload_n (pc := 2) C dX1_leastFree_2 0 rfl rfl ?_
    refine gV_aload_n (pc := 3) (x := ad 1) C dX1_leastFree_3 1 rfl rfl ?_
    refine cg_content1 (pc := 4) C fl_X1_11 dX1_leastFree_4 ?_
    refine cl_fc (pc := 7) C dX1_leastFree_7 ?_
    refine gV_icmp_ge (pc := 8) C 28 dX1_leastFree_8 (by decide) (fun c_1 => ?_) (fun c_1 => ?_)
    · skip
      refine gV_iconst (pc := 28) (v := (-1)) C dX1_leastFree_28 (by decide) ?_
      refine gV_iret (pc := 29) C dX1_leastFree_29 (by decide) (by decide) ?_
      exact ⟨by rw [← hr]; rfl, rfl⟩
    · exact absurd (nI_le (by omega) (by omega)) c_1
  | succ d ih =>
    intro i hi hr
    refine gV_iload_n (pc := 2) C dX1_leastFree_2 0 rfl rfl ?_
    refine gV_aload_n (pc := 3) (x := ad 1) C dX1_leastFree_3 1 rfl rfl ?_
    refine cg_content1 (pc := 4) C fl_X1_11 dX1_leastFree_4 ?_
    refine cl_fc (pc := 7) C dX1_leastFree_7 ?_
    refine gV_icmp_ge (pc := 8) C 28 dX1_leastFree_8 (by decide) (fun c_1 => ?_) (fun c_1 => ?_)
    · exact absurd c_1 (nI_ge (by omega) (by omega))
    · skip
      refine gV_aload_n (pc := 11) (x := ad 1) C dX1_leastFree_11 1 rfl rfl ?_
      refine cg_content1 (pc := 12) C fl_X1_11 dX1_leastFree_12 ?_
      refine gV_iload_n (pc := 15) C dX1_leastFree_15 0 rfl rfl ?_
      refine ca_fc (pc := 16) C (vp_in_nI (by omega) (by omega)) dX1_leastFree_16 ?_
      rw [nI_clamp (by omega)]
      cases er_2 : ph_R σ 0 i with
      | none =>
        refine gV_ifnonnull (pc := 17) (r := none) C 22 dX1_leastFree_17 (by decide) (fun _ h => nomatch h) (fun _ => ?_)
        refine gV_iload_n (pc := 20) C dX1_leastFree_20 0 rfl rfl ?_
        refine gV_iret (pc := 21) C dX1_leastFree_21 (by decide) (by decide) ?_
        exact ⟨by rw [← hr, ph_lfG, er_2], rfl⟩
      | some a_2 =>
        refine gV_ifnonnull (pc := 17) (r := some a_2) C 22 dX1_leastFree_17 (by decide) (fun _ _ => ?_) (fun h => nomatch h)
        refine gV_iinc (pc := 22) (v := nI (i + 1)) (lv' := [(1, .int (nI (i + 1))), (0, .ref (ad 1))]) C dX1_leastFree_22 0 rfl (nI_1 _) (by decide) rfl ?_
        refine gV_goto (pc := 25) C 2 dX1_leastFree_25 (by decide) ?_
        exact ih (i + 1) (by omega) (by rw [← hr, ph_lfG, er_2])
set_option maxHeartbeats 4000000 in
set_option maxRecDepth 100000 in
/-- Rows.leastFree -/
theorem c_leastFree1 {D : va_G} {ad : Nat → Nat} {ct : Nat → ClassId} {F S : Nat} {σ : ph_S} (hN : F ≤ 64) : gM yX1_leastFree cX1_leastFree 2 (some .int) rm_X1_leastFree D (gt ct) (cw ad ct F S σ) [.ref (ad 1)] (fun v w => v = some (.int (ph_lf (ph_R σ 0) F)) ∧ w = cw ad ct F S σ) := by
  refine gM_in RX1 rfl (by decide) (Nat.le_of_ble_eq_true rfl) (fun X C => ?_)
  refine gV_iconst (pc := 0) (v := 0) C dX1_leastFree_0 (by decide) ?_
  refine gV_istore_n (pc := 1) (lv' := [(1, .int 0), (0, .ref (ad 1))]) C dX1_leastFree_1 rfl (by decide) rfl ?_
  exact lp_leastFree1 hN C F 0 (Nat.zero_add _) rfl
set_option maxHeartbeats 4000000 in
set_option maxRecDepth 100000 in
theorem lp_countFree1 {X : gx_T} {D : va_G} {ad : Nat → Nat} {ct : Nat → ClassId} {F S : Nat} {σ : ph_S} (hN : F ≤ 64) (C : gC X cX1_countFree 3 RX1 rm_X1_countFree (some .int) D (gt ct) (fun v w => v = some (.int (nI (ph_cf (ph_R σ 0) F))) ∧ w = cw ad ct F S σ)) : ∀ d i : Nat, i + d = F → gV X 0 0 (cw ad ct F S σ) 4 [(2, .int (nI i)), (1, .int (nI (ph_cN (fun i => (ph_R σ 0 i).isNone) i))), (0, .ref (ad 1))] [] := by
  intro d
  induction d with
  | zero =>
    intro i hi
    have e : i = F := by omega
    rw [e]
    refine gV_iload_n (pc := 4) C dX1_countFree_4 0 rfl rfl ?_
    refine gV_aload_n (pc := 5) (x := ad 1) C dX1_countFree_5 2 rfl rfl ?_
    refine cg_content1 (pc := 6) C fl_X1_11 dX1_countFree_6 ?_
    refine cl_fc (pc := 9) C dX1_countFree_9 ?_
    refine gV_icmp_ge (pc := 10) C 31 dX1_countFree_10 (by decide) (fun c_1 => ?_) (fun c_1 => ?_)
    · skip
      refine gV_iload_n (pc := 31) C dX1_countFree_31 1 rfl rfl ?_
      refine gV_iret (pc := 32) C dX1_countFree_32 (by decide) (by decide) ?_
      exact ⟨rfl, rfl⟩
    · exact absurd (nI_le (by omega) (by omega)) c_1
  | succ d ih =>
    intro i hi
    refine gV_iload_n (pc := 4) C dX1_countFree_4 0 rfl rfl ?_
    refine gV_aload_n (pc := 5) (x := ad 1) C dX1_countFree_5 2 rfl rfl ?_
    refine cg_content1 (pc := 6) C fl_X1_11 dX1_countFree_6 ?_
    refine cl_fc (pc := 9) C dX1_countFree_9 ?_
    refine gV_icmp_ge (pc := 10) C 31 dX1_countFree_10 (by decide) (fun c_1 => ?_) (fun c_1 => ?_)
    · exact absurd c_1 (nI_ge (by omega) (by omega))
    · skip
      refine gV_aload_n (pc := 13) (x := ad 1) C dX1_countFree_13 2 rfl rfl ?_
      refine cg_content1 (pc := 14) C fl_X1_11 dX1_countFree_14 ?_
      refine gV_iload_n (pc := 17) C dX1_countFree_17 0 rfl rfl ?_
      refine ca_fc (pc := 18) C (vp_in_nI (by omega) (by omega)) dX1_countFree_18 ?_
      rw [nI_clamp (by omega)]
      cases er_2 : ph_R σ 0 i with
      | none =>
        refine gV_ifnonnull (pc := 19) (r := none) C 25 dX1_countFree_19 (by decide) (fun _ h => nomatch h) (fun _ => ?_)
        refine gV_iinc (pc := 22) (v := nI (ph_cN (fun i => (ph_R σ 0 i).isNone) i + 1)) (lv' := [(1, .int (nI (ph_cN (fun i => (ph_R σ 0 i).isNone) i + 1))), (2, .int (nI i)), (0, .ref (ad 1))]) C dX1_countFree_22 1 rfl (nI_1 _) (by decide) rfl ?_
        refine gV_iinc (pc := 25) (v := nI (i + 1)) (lv' := [(2, .int (nI (i + 1))), (1, .int (nI (ph_cN (fun i => (ph_R σ 0 i).isNone) i + 1))), (0, .ref (ad 1))]) C dX1_countFree_25 1 rfl (nI_1 _) (by decide) rfl ?_
        refine gV_goto (pc := 28) C 4 dX1_countFree_28 (by decide) ?_
        refine gV_lv [0, 1, 2] rfl ?_
        have hh := ih (i + 1) (by omega)
        rw [ph_cN_t (f := fun i => (ph_R σ 0 i).isNone) (n := i) (by simp [er_2])] at hh
        exact hh
      | some a_2 =>
        refine gV_ifnonnull (pc := 19) (r := some a_2) C 25 dX1_countFree_19 (by decide) (fun _ _ => ?_) (fun h => nomatch h)
        refine gV_iinc (pc := 25) (v := nI (i + 1)) (lv' := [(2, .int (nI (i + 1))), (1, .int (nI (ph_cN (fun i => (ph_R σ 0 i).isNone) i))), (0, .ref (ad 1))]) C dX1_countFree_25 0 rfl (nI_1 _) (by decide) rfl ?_
        refine gV_goto (pc := 28) C 4 dX1_countFree_28 (by decide) ?_
        refine gV_lv [0, 1, 2] rfl ?_
        have hh := ih (i + 1) (by omega)
        rw [ph_cN_f (f := fun i => (ph_R σ 0 i).isNone) (n := i) (by simp [er_2])] at hh
        exact hh
set_option maxHeartbeats 4000000 in
set_option maxRecDepth 100000 in
/-- Rows.countFree -/
theorem c_countFree1 {D : va_G} {ad : Nat → Nat} {ct : Nat → ClassId} {F S : Nat} {σ : ph_S} (hN : F ≤ 64) : gM yX1_countFree cX1_countFree 3 (some .int) rm_X1_countFree D (gt ct) (cw ad ct F S σ) [.ref (ad 1)] (fun v w => v = some (.int (nI (ph_cf (ph_R σ 0) F))) ∧ w = cw ad ct F S σ) := by
  refine gM_in RX1 rfl (by decide) (Nat.le_of_ble_eq_true rfl) (fun X C => ?_)
  refine gV_iconst (pc := 0) (v := 0) C dX1_countFree_0 (by decide) ?_
  refine gV_istore_n (pc := 1) (lv' := [(1, .int 0), (0, .ref (ad 1))]) C dX1_countFree_1 rfl (by decide) rfl ?_
  refine gV_iconst (pc := 2) (v := 0) C dX1_countFree_2 (by decide) ?_
  refine gV_istore_n (pc := 3) (lv' := [(2, .int 0), (1, .int 0), (0, .ref (ad 1))]) C dX1_countFree_3 rfl (by decide) rfl ?_
  exact lp_countFree1 hN C F 0 (Nat.zero_add _)
set_option maxHeartbeats 4000000 in
set_option maxRecDepth 100000 in
theorem lp_leastFree2 {X : gx_T} {D : va_G} {ad : Nat → Nat} {ct : Nat → ClassId} {F S : Nat} {σ : ph_S} (hN : S ≤ 64) (C : gC X cX1_leastFree 2 RX1 rm_X1_leastFree (some .int) D (gt ct) (fun v w => v = some (.int (ph_lf (ph_R σ 1) S)) ∧ w = cw ad ct F S σ)) : ∀ d i : Nat, i + d = S → ph_lfG (ph_R σ 1) d i = ph_lf (ph_R σ 1) S → gV X 0 0 (cw ad ct F S σ) 2 [(1, .int (nI i)), (0, .ref (ad 2))] [] := by
  intro d
  induction d with
  | zero =>
    intro i hi hr
    refine gV_iload_n (pc := 2) C dX1_leastFree_2 0 rfl rfl ?_
    refine gV_aload_n (pc := 3) (x := ad 2) C dX1_leastFree_3 1 rfl rfl ?_
    refine cg_content2 (pc := 4) C fl_X1_11 dX1_leastFree_4 ?_
    refine cl_sc (pc := 7) C dX1_leastFree_7 ?_
    refine gV_icmp_ge (pc := 8) C 28 dX1_leastFree_8 (by decide) (fun c_1 => ?_) (fun c_1 => ?_)
    · skip
      refine gV_iconst (pc := 28) (v := (-1)) C dX1_leastFree_28 (by decide) ?_
      refine gV_iret (pc := 29) C dX1_leastFree_29 (by decide) (by decide) ?_
      exact ⟨by rw [← hr]; rfl, rfl⟩
    · exact absurd (nI_le (by omega) (by omega)) c_1
  | succ d ih =>
    intro i hi hr
    refine gV_iload_n (pc := 2) C dX1_leastFree_2 0 rfl rfl ?_
    refine gV_aload_n (pc := 3) (x := ad 2) C dX1_leastFree_3 1 rfl rfl ?_
    refine cg_content2 (pc := 4) C fl_X1_11 dX1_leastFree_4 ?_
    refine cl_sc (pc := 7) C dX1_leastFree_7 ?_
    refine gV_icmp_ge (pc := 8) C 28 dX1_leastFree_8 (by decide) (fun c_1 => ?_) (fun c_1 => ?_)
    · exact absurd c_1 (nI_ge (by omega) (by omega))
    · skip
      refine gV_aload_n (pc := 11) (x := ad 2) C dX1_leastFree_11 1 rfl rfl ?_
      refine cg_content2 (pc := 12) C fl_X1_11 dX1_leastFree_12 ?_
      refine gV_iload_n (pc := 15) C dX1_leastFree_15 0 rfl rfl ?_
      refine ca_sc (pc := 16) C (vp_in_nI (by omega) (by omega)) dX1_leastFree_16 ?_
      rw [nI_clamp (by omega)]
      cases er_2 : ph_R σ 1 i with
      | none =>
        refine gV_ifnonnull (pc := 17) (r := none) C 22 dX1_leastFree_17 (by decide) (fun _ h => nomatch h) (fun _ => ?_)
        refine gV_iload_n (pc := 20) C dX1_leastFree_20 0 rfl rfl ?_
        refine gV_iret (pc := 21) C dX1_leastFree_21 (by decide) (by decide) ?_
        exact ⟨by rw [← hr, ph_lfG, er_2], rfl⟩
      | some a_2 =>
        refine gV_ifnonnull (pc := 17) (r := some a_2) C 22 dX1_leastFree_17 (by decide) (fun _ _ => ?_) (fun h => nomatch h)
        refine gV_iinc (pc := 22) (v := nI (i + 1)) (lv' := [(1, .int (nI (i + 1))), (0, .ref (ad 2))]) C dX1_leastFree_22 0 rfl (nI_1 _) (by decide) rfl ?_
        refine gV_goto (pc := 25) C 2 dX1_leastFree_25 (by decide) ?_
        exact ih (i + 1) (by omega) (by rw [← hr, ph_lfG, er_2])
set_option maxHeartbeats 4000000 in
set_option maxRecDepth 100000 in
/-- Rows.leastFree -/
theorem c_leastFree2 {D : va_G} {ad : Nat → Nat} {ct : Nat → ClassId} {F S : Nat} {σ : ph_S} (hN : S ≤ 64) : gM yX1_leastFree cX1_leastFree 2 (some .int) rm_X1_leastFree D (gt ct) (cw ad ct F S σ) [.ref (ad 2)] (fun v w => v = some (.int (ph_lf (ph_R σ 1) S)) ∧ w = cw ad ct F S σ) := by
  refine gM_in RX1 rfl (by decide) (Nat.le_of_ble_eq_true rfl) (fun X C => ?_)
  refine gV_iconst (pc := 0) (v := 0) C dX1_leastFree_0 (by decide) ?_
  refine gV_istore_n (pc := 1) (lv' := [(1, .int 0), (0, .ref (ad 2))]) C dX1_leastFree_1 rfl (by decide) rfl ?_
  exact lp_leastFree2 hN C S 0 (Nat.zero_add _) rfl
set_option maxHeartbeats 4000000 in
set_option maxRecDepth 100000 in
theorem lp_countFree2 {X : gx_T} {D : va_G} {ad : Nat → Nat} {ct : Nat → ClassId} {F S : Nat} {σ : ph_S} (hN : S ≤ 64) (C : gC X cX1_countFree 3 RX1 rm_X1_countFree (some .int) D (gt ct) (fun v w => v = some (.int (nI (ph_cf (ph_R σ 1) S))) ∧ w = cw ad ct F S σ)) : ∀ d i : Nat, i + d = S → gV X 0 0 (cw ad ct F S σ) 4 [(2, .int (nI i)), (1, .int (nI (ph_cN (fun i => (ph_R σ 1 i).isNone) i))), (0, .ref (ad 2))] [] := by
  intro d
  induction d with
  | zero =>
    intro i hi
    have e : i = S := by omega
    rw [e]
    refine gV_iload_n (pc := 4) C dX1_countFree_4 0 rfl rfl ?_
    refine gV_aload_n (pc := 5) (x := ad 2) C dX1_countFree_5 2 rfl rfl ?_
    refine cg_content2 (pc := 6) C fl_X1_11 dX1_countFree_6 ?_
    refine cl_sc (pc := 9) C dX1_countFree_9 ?_
    refine gV_icmp_ge (pc := 10) C 31 dX1_countFree_10 (by decide) (fun c_1 => ?_) (fun c_1 => ?_)
    · skip
      refine gV_iload_n (pc := 31) C dX1_countFree_31 1 rfl rfl ?_
      refine gV_iret (pc := 32) C dX1_countFree_32 (by decide) (by decide) ?_
      exact ⟨rfl, rfl⟩
    · exact absurd (nI_le (by omega) (by omega)) c_1
  | succ d ih =>
    intro i hi
    refine gV_iload_n (pc := 4) C dX1_countFree_4 0 rfl rfl ?_
    refine gV_aload_n (pc := 5) (x := ad 2) C dX1_countFree_5 2 rfl rfl ?_
    refine cg_content2 (pc := 6) C fl_X1_11 dX1_countFree_6 ?_
    refine cl_sc (pc := 9) C dX1_countFree_9 ?_
    refine gV_icmp_ge (pc := 10) C 31 dX1_countFree_10 (by decide) (fun c_1 => ?_) (fun c_1 => ?_)
    · exact absurd c_1 (nI_ge (by omega) (by omega))
    · skip
      refine gV_aload_n (pc := 13) (x := ad 2) C dX1_countFree_13 2 rfl rfl ?_
      refine cg_content2 (pc := 14) C fl_X1_11 dX1_countFree_14 ?_
      refine gV_iload_n (pc := 17) C dX1_countFree_17 0 rfl rfl ?_
      refine ca_sc (pc := 18) C (vp_in_nI (by omega) (by omega)) dX1_countFree_18 ?_
      rw [nI_clamp (by omega)]
      cases er_2 : ph_R σ 1 i with
      | none =>
        refine gV_ifnonnull (pc := 19) (r := none) C 25 dX1_countFree_19 (by decide) (fun _ h => nomatch h) (fun _ => ?_)
        refine gV_iinc (pc := 22) (v := nI (ph_cN (fun i => (ph_R σ 1 i).isNone) i + 1)) (lv' := [(1, .int (nI (ph_cN (fun i => (ph_R σ 1 i).isNone) i + 1))), (2, .int (nI i)), (0, .ref (ad 2))]) C dX1_countFree_22 1 rfl (nI_1 _) (by decide) rfl ?_
        refine gV_iinc (pc := 25) (v := nI (i + 1)) (lv' := [(2, .int (nI (i + 1))), (1, .int (nI (ph_cN (fun i => (ph_R σ 1 i).isNone) i + 1))), (0, .ref (ad 2))]) C dX1_countFree_25 1 rfl (nI_1 _) (by decide) rfl ?_
        refine gV_goto (pc := 28) C 4 dX1_countFree_28 (by decide) ?_
        refine gV_lv [0, 1, 2] rfl ?_
        have hh := ih (i + 1) (by omega)
        rw [ph_cN_t (f := fun i => (ph_R σ 1 i).isNone) (n := i) (by simp [er_2])] at hh
        exact hh
      | some a_2 =>
        refine gV_ifnonnull (pc := 19) (r := some a_2) C 25 dX1_countFree_19 (by decide) (fun _ _ => ?_) (fun h => nomatch h)
        refine gV_iinc (pc := 25) (v := nI (i + 1)) (lv' := [(2, .int (nI (i + 1))), (1, .int (nI (ph_cN (fun i => (ph_R σ 1 i).isNone) i))), (0, .ref (ad 2))]) C dX1_countFree_25 0 rfl (nI_1 _) (by decide) rfl ?_
        refine gV_goto (pc := 28) C 4 dX1_countFree_28 (by decide) ?_
        refine gV_lv [0, 1, 2] rfl ?_
        have hh := ih (i + 1) (by omega)
        rw [ph_cN_f (f := fun i => (ph_R σ 1 i).isNone) (n := i) (by simp [er_2])] at hh
        exact hh
set_option maxHeartbeats 4000000 in
set_option maxRecDepth 100000 in
/-- Rows.countFree -/
theorem c_countFree2 {D : va_G} {ad : Nat → Nat} {ct : Nat → ClassId} {F S : Nat} {σ : ph_S} (hN : S ≤ 64) : gM yX1_countFree cX1_countFree 3 (some .int) rm_X1_countFree D (gt ct) (cw ad ct F S σ) [.ref (ad 2)] (fun v w => v = some (.int (nI (ph_cf (ph_R σ 1) S))) ∧ w = cw ad ct F S σ) := by
  refine gM_in RX1 rfl (by decide) (Nat.le_of_ble_eq_true rfl) (fun X C => ?_)
  refine gV_iconst (pc := 0) (v := 0) C dX1_countFree_0 (by decide) ?_
  refine gV_istore_n (pc := 1) (lv' := [(1, .int 0), (0, .ref (ad 2))]) C dX1_countFree_1 rfl (by decide) rfl ?_
  refine gV_iconst (pc := 2) (v := 0) C dX1_countFree_2 (by decide) ?_
  refine gV_istore_n (pc := 3) (lv' := [(2, .int 0), (1, .int 0), (0, .ref (ad 2))]) C dX1_countFree_3 rfl (by decide) rfl ?_
  exact lp_countFree2 hN C S 0 (Nat.zero_add _)
