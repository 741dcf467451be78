section RDWR
variable {F S : Nat} {c : Int32} {φ : Nat → Nat} {σ : ph_S} {μ : pm_S}
theorem A3_st (F S : Nat) (σ : ph_S) (a : Nat) : ph_A (ph_st F S σ a) 3 = ph_A σ 3 := by
  have h3 : ∀ τ : ph_S, ∀ s, ph_A (ph_st3 F S τ a s) 3 = ph_A τ 3 := fun τ s => by
    unfold ph_st3 ph_cpy
    split
    · rfl
    · split <;> rfl
  have h2 : ∀ s, ph_A (ph_st2 F S σ a s) 3 = ph_A σ 3 := fun s => by
    unfold ph_st2
    split
    · rfl
    · rw [h3]; rfl
  unfold ph_st
  split <;> exact h2 _
theorem A3_scG (F : Nat) (kept : Int32) : ∀ (n : Nat) (σ : ph_S), ph_A (ph_scG F kept n σ) 3 = ph_A σ 3
  | 0, _ => rfl
  | n + 1, σ => by
    unfold ph_scG
    split
    · rw [A3_scG F kept n]; rfl
    · split
      · rfl
      · rw [A3_scG F kept n]; rfl
theorem A3_vac (F S : Nat) (σ : ph_S) (f : Int32) : ph_A (ph_vac F S σ f) 3 = ph_A σ 3 := by
  unfold ph_vac
  split
  · rfl
  · split
    · rfl
    · exact A3_st F S σ _
theorem A3_tkS (F S : Nat) (kept : Int32) (σ : ph_S) : ph_A (ph_tkS F S kept σ) 3 = ph_A σ 3 := by
  unfold ph_tkS
  split
  · show ph_A (ph_vac F S (ph_scE F kept σ) _) 3 = _
    rw [A3_vac]
    exact A3_scG F kept _ σ
  · rfl
theorem A3_br (F S : Nat) (σ : ph_S) (a f : Nat) : ph_A (ph_br F S σ a f) 3 = ph_A σ 3 := by
  unfold ph_br ph_br2 ph_cpy
  split
  · rfl
  · split <;> rfl
theorem A3_own1 (F S : Nat) (σ : ph_S) (a : Nat) : ph_A (ph_own1 F S σ a) 3 = ph_A σ 3 := by
  unfold ph_own1
  split
  · rw [A3_br, A3_tkS]
  · rfl
theorem I0_st (S : Nat) (μ : pm_S) (b : Nat) : pm_I (pm_st S μ b) 0 = pm_I μ 0 := by
  have h : ∀ τ : pm_S, ∀ t f, pm_I (pm_st2 τ b t f) 0 = pm_I τ 0 := fun _ _ _ => rfl
  rw [pm_st, h, pm_st1]
  split <;> rfl
theorem I0_scG (kept : Int32) : ∀ (n : Nat) (μ : pm_S), pm_I (pm_scG kept n μ) 0 = pm_I μ 0
  | 0, _ => rfl
  | n + 1, μ => by
    unfold pm_scG
    split
    · rw [I0_scG kept n]; rfl
    · split
      · rfl
      · rw [I0_scG kept n]; rfl
theorem I0_tkS (F S : Nat) (kept : Int32) (μ : pm_S) : pm_I (pm_tkS F S kept μ) 0 = pm_I μ 0 := by
  unfold pm_tkS
  split
  · unfold pm_tkV
    split
    · show pm_I (pm_scG kept (2 * F) (pm_tk0 μ)) 0 = _
      rw [I0_scG]; rfl
    · show pm_I (pm_st S (pm_tkE F kept μ) _) 0 = _
      rw [I0_st]
      show pm_I (pm_scG kept (2 * F) (pm_tk0 μ)) 0 = _
      rw [I0_scG]; rfl
  · rfl
theorem I0_br (F S : Nat) (μ : pm_S) (b : Nat) : pm_I (pm_br F S μ b) 0 = pm_I μ 0 := by
  show pm_I (pm_tkS F S (-1) μ) 0 = _
  rw [I0_tkS]
theorem I0_in (F S : Nat) (μ : pm_S) (b : Nat) : pm_I (pm_in F S μ b) 0 = pm_I μ 0 := by
  unfold pm_in
  split
  · exact I0_br F S μ b
  · rfl
theorem I0_rd (F S : Nat) (μ : pm_S) (p a : Int32) : pm_I (pm_rdX F S μ p a) 0 = pm_flT F S μ p a 0 := by
  unfold pm_rdX
  split
  · unfold pm_rdW
    split
    · rfl
    · show pm_I (pm_in F S _ _) 0 = _
      rw [I0_in]; rfl
  · rfl
theorem I0_wr (F S : Nat) (μ : pm_S) (p a v : Int32) : pm_I (pm_wrX F S μ p a v) 0 = pm_flT F S μ p a 1 := by
  unfold pm_wrX
  split
  · show pm_I (pm_wrS F S _ p a) 0 = _
    unfold pm_wrS
    split
    · show pm_I (pm_tkS F S (-1) _) 0 = _
      rw [I0_tkS]; rfl
    · split
      · rw [I0_in]; rfl
      · show pm_I (pm_tkS F S _ _) 0 = _
        rw [I0_tkS, I0_in]; rfl
  · rfl
/-- room -/
theorem room_eq {n : Nat} (hn : n ≤ 2) {x y : Nat} (hx : x ≤ 16) (hy : y ≤ 64) : (nI n - nI x ≤ nI y ↔ n ≤ x + y) ∧ (nI n - nI x ≤ 0 → n ≤ x) := by
  have h1 := pk_sub_toInt (a := n) (b := x) (by omega) (by omega)
  constructor
  · rw [Int32.le_iff_toInt_le, h1, nI_toInt (by omega)]
    omega
  · rw [Int32.le_iff_toInt_le, h1]
    intro h
    have : (0 : Int32).toInt = 0 := by decide
    omega
theorem fl2_eq (h : pr_R F S c φ σ μ) (hok : ph_ok F S σ) {n : Nat} (hn : n ≤ 2) : pm_fl2 F S μ (nI n) = nI (if ph_cr F S σ (nI n) = 0 then 2 else 0) ∧ (¬ ph_cr F S σ (nI n) = 0 → n ≤ ph_cf (ph_R σ 0) F + ph_cf (ph_R σ 1) S) := by
  have hF := hok.F16
  have hS := hok.S64
  have b1 : ph_cf (ph_R σ 0) F ≤ F := ph_cN_le _ F
  have b2 : ph_cf (ph_R σ 1) S ≤ S := ph_cN_le _ S
  obtain ⟨r1, r2⟩ := room_eq hn (x := ph_cf (ph_R σ 0) F) (y := ph_cf (ph_R σ 1) S) (by omega) (by omega)
  unfold pm_fl2 ph_cr
  rw [R_ff h, R_fs h]
  by_cases c1 : nI n - nI (ph_cf (ph_R σ 0) F) ≤ nI (ph_cf (ph_R σ 1) S)
  · rw [if_pos c1, if_pos c1, if_neg (show ¬ (1 : Int32) = 0 by decide)]
    refine ⟨?_, fun _ => r1.mp c1⟩
    split <;> rfl
  · rw [if_neg c1, if_neg c1, if_pos rfl]
    refine ⟨?_, fun z => absurd rfl z⟩
    rw [if_neg (fun z => c1 (r1.mpr (by have := r2 z; omega)))]
    rfl
theorem nd_eq (h : pr_R F S c φ σ μ) {k : Nat} (hk : k < 256) : (pm_nd μ (pm_A μ 1 k) 0 = ph_tr σ (ph_R σ 2 k) ∧ pm_nd μ (pm_A μ 1 k) 1 = ph_tw σ (ph_R σ 2 k)) ∧ (∃ n, n ≤ 2 ∧ ph_tr σ (ph_R σ 2 k) = nI n) ∧ (∃ n, n ≤ 2 ∧ ph_tw σ (ph_R σ 2 k) = nI n) := by
  cases e : ph_R σ 2 k with
  | none =>
    rw [h.K.1 k hk e]
    exact ⟨⟨rfl, rfl⟩, ⟨0, by omega, rfl⟩, ⟨1, by omega, rfl⟩⟩
  | some a =>
    have la : pr_lv (ph_R σ 2) a := ⟨k, hk, e⟩
    obtain ⟨y1, y2, y3, y4, y5⟩ := h.K.2.1 k a hk e
    obtain ⟨v1, -⟩ := h.V a la
    have hne : ¬ nI (φ a) = -1 := nI_ne_m1 (by omega)
    unfold pm_nd pm_nd1 ph_tw ph_tr
    rw [y2, if_neg hne, if_neg hne, nI_clamp (by omega), v1, R_ho h la, ← y5, if_pos rfl, if_neg (show ¬ (1 : Int32) = 0 by decide)]
    by_cases z : ph_B σ 1 a = -1
    · simp only [if_pos z]
      by_cases w : ph_B σ 3 a ≤ 1
      · simp only [if_pos w]; exact ⟨⟨by first | trivial | rfl, by first | trivial | rfl⟩, ⟨1, by omega, rfl⟩, ⟨1, by omega, rfl⟩⟩
      · simp only [if_neg w]; exact ⟨⟨by first | trivial | rfl, by first | trivial | rfl⟩, ⟨1, by omega, rfl⟩, ⟨2, by omega, rfl⟩⟩
    · simp only [if_neg z]
      by_cases w : ph_B σ 3 a ≤ 1
      · simp only [if_pos w]; exact ⟨⟨by first | trivial | rfl, by first | trivial | rfl⟩, ⟨0, by omega, rfl⟩, ⟨0, by omega, rfl⟩⟩
      · simp only [if_neg w]; exact ⟨⟨by first | trivial | rfl, by first | trivial | rfl⟩, ⟨0, by omega, rfl⟩, ⟨1, by omega, rfl⟩⟩
/-- an address is right in both, or in neither -/
theorem adr_eq (h : pr_R F S c φ σ μ) (hok : ph_ok F S σ) (p a y : Int32) : (ph_ca σ p a = 0 ∧ pm_flT F S μ p a y = 1) ∨ (¬ ph_ca σ p a = 0 ∧ ∃ P x m, P < 8 ∧ x < 16 * m ∧ m ≤ 32 ∧ p = nI P ∧ a = nI x ∧ ph_A σ 3 P = nI m ∧ pm_flT F S μ p a y = pm_fl2 F S μ (pm_nd μ (pm_A μ 1 (32 * P + x / 16)) y)) := by
  unfold ph_ca pm_flT ph_hg
  rw [R_ip h]
  by_cases h1 : ph_hp σ p = 0
  · left
    rw [if_pos h1, if_pos h1, if_pos rfl]
    refine ⟨?_, rfl⟩
    split <;> rfl
  · rw [if_neg h1, if_neg h1]
    by_cases h2 : a < 0
    · left
      rw [if_pos h2, if_pos h2]; exact ⟨rfl, rfl⟩
    · rw [if_neg h2, if_neg h2]
      obtain ⟨P, hP, rfl⟩ := vp_in_of (ph_hp_vin h1) (by decide)
      obtain ⟨x, hx, rfl⟩ := nI_of h2
      obtain ⟨m, hm, em⟩ := hok.pn hP
      rw [nI_clamp (by omega), h.P.1 P hP, em, div16 hx, if_neg (show ¬ nI (x / 16) < 0 from nI_nlt (a := x / 16) (b := 0) (by omega) (by omega)), show (16 : Int32) = nI 16 from rfl, pk_mul]
      by_cases h3 : x < 16 * m
      · right
        rw [if_neg (nI_ge (a := x / 16) (b := m) (by omega) (by omega)), if_neg (show ¬ (1 : Int32) = 0 by decide), if_pos (nI_lt h3 (by omega))]
        refine ⟨by decide, P, x, m, hP, h3, hm, rfl, rfl, em, ?_⟩
        rw [ix32, nI_clamp (by omega)]
      · left
        rw [if_pos (nI_le (a := m) (b := x / 16) (by omega) (by omega)), if_pos rfl, if_neg (nI_nlt (by omega) hx)]
        exact ⟨rfl, rfl⟩
theorem R_acc (h : pr_R F S c φ σ μ) (p a y : Int32) : pr_R F S c φ (ph_acc σ) (pm_rw F S μ p a y) := by
  obtain ⟨n1, n2, n3, n4, n5⟩ := h.N
  exact ⟨⟨n1, n2, n3, congrArg (· + 1) n4, n5⟩, h.2⟩
theorem R_own1 (h : pr_R F S 0 φ σ μ) (hok : ph_ok F S σ) {a : Nat} (la : pr_lv (ph_R σ 2) a) (hroom : ph_B σ 1 a = -1 → 1 ≤ ph_cf (ph_R σ 0) F + ph_cf (ph_R σ 1) S) :
    pm_inOK F S μ (φ a) ∧ pr_R F S 0 φ (ph_own1 F S σ a) (pm_in F S μ (φ a)) ∧ (∃ f, f < F ∧ ph_B (ph_own1 F S σ a) 1 a = nI f) ∧ ph_R (ph_own1 F S σ a) 2 = ph_R σ 2 ∧ ph_B (ph_own1 F S σ a) 3 = ph_B σ 3 ∧
    (ph_cf (ph_R σ 0) F + ph_cf (ph_R σ 1) S ≤ ph_cf (ph_R (ph_own1 F S σ a) 0) F + ph_cf (ph_R (ph_own1 F S σ a) 1) S + (if ph_B σ 1 a = -1 then 1 else 0)) ∧ ph_I (ph_own1 F S σ a) 2 = ph_I σ 2 + (if ph_B σ 1 a = -1 then 1 else 0) := by
  have hF := hok.F16
  have hS := hok.S64
  obtain ⟨v1, v2, v3, v4, -⟩ := h.V a la
  unfold ph_own1 pm_in pm_inOK pm_in
  by_cases z : ph_B σ 1 a = -1
  · have z' : pm_A μ 3 (φ a) = -1 := v1.trans z
    simp only [if_pos z, if_pos z']
    obtain ⟨t1, t2, t3, t4, t5, t6, t7, t8, ⟨f1, f2, f3, f4, f5⟩, t9⟩ := R_take h hok (kept := -1) (Or.inl rfl) (hroom z)
    have la1 : pr_lv (ph_R (ph_tkS F S (-1) σ) 2) a := by rw [f1]; exact la
    have z1 : ph_B (ph_tkS F S (-1) σ) 1 a = -1 := (f4 a (Or.inl z)).1.trans z
    obtain ⟨⟨t, ht, g1, g2, g3⟩, g4, g5, g6, g7, g8, g9, g10⟩ := R_bring t3 (ok_tkS hok) t4 t5 t7 la1 z1
    have eM : pm_br F S μ (φ a) = pm_br1 (pm_tkS F S (-1) μ) (φ a) (ph_tkN F S (-1) σ) t := by
      rw [pm_br, g2, nI_clamp (by omega), ← t2]
    have hR : pr_R F S 0 φ (ph_br F S (ph_tkS F S (-1) σ) a (ph_tkN F S (-1) σ)) (pm_br F S μ (φ a)) := by rw [eM]; exact g3
    have eB : ph_B (ph_br F S (ph_tkS F S (-1) σ) a (ph_tkN F S (-1) σ)) 1 a = nI (ph_tkN F S (-1) σ) := by rw [g4, up_eq]
    refine ⟨⟨fun _ => ⟨t1, t, by omega, g2⟩, ph_tkN F S (-1) σ, by omega, ?_⟩, hR, ⟨_, t4, eB⟩, g7.trans f1, g9.trans f3, ?_, ?_⟩
    · exact (hR.V a (by rw [g7]; exact la1)).1.trans eB
    · have := cf_up (ph_R (ph_tkS F S (-1) σ) 0) t4 (some a)
      rw [if_pos t5, if_neg (by simp : ¬ some a = none)] at this
      rw [g5, g6]
      omega
    · rw [g10]; exact t9
  · have z' : ¬ pm_A μ 3 (φ a) = -1 := by rw [v1]; exact z
    simp only [if_neg z, if_neg z']
    rcases v4 with v4 | ⟨f, hf, v4⟩
    · exact absurd v4 z
    · exact ⟨⟨fun y => absurd y z', f, by omega, v1.trans v4⟩, h, ⟨f, hf, v4⟩, by first | trivial | rfl, by first | trivial | rfl, by omega, by rw [Int32.add_zero]⟩
theorem S_rdT (h : pr_R F S c φ σ μ) (hok : ph_ok F S σ) (p a : Int32) : pm_flT F S μ p a 0 = nI (ph_rdT F S σ p a) := by
  unfold ph_rdT
  rcases adr_eq h hok p a 0 with ⟨h1, h2⟩ | ⟨h1, P, x, m, hP, hx, hm, rfl, rfl, em, h2⟩
  · rw [if_pos h1, h2]; rfl
  · rw [if_neg h1, h2]
    have hk : 32 * P + x / 16 < 256 := by omega
    have ebo : ph_bo σ (nI P) (nI x) = ph_R σ 2 (32 * P + x / 16) := by
      rw [ph_bo, div16 (by omega), slot_eq, nI_clamp (by omega), show P * 32 + x / 16 = 32 * P + x / 16 by omega]
    obtain ⟨⟨e1, -⟩, ⟨n, hn, en⟩, -⟩ := nd_eq h hk
    rw [ebo, e1, en]
    exact (fl2_eq h hok hn).1
theorem S_wrT (h : pr_R F S c φ σ μ) (hok : ph_ok F S σ) (p a : Int32) : pm_flT F S μ p a 1 = nI (ph_wrT F S σ p a) := by
  unfold ph_wrT
  rcases adr_eq h hok p a 1 with ⟨h1, h2⟩ | ⟨h1, P, x, m, hP, hx, hm, rfl, rfl, em, h2⟩
  · rw [if_pos h1, h2]; rfl
  · rw [if_neg h1, h2]
    have hk : 32 * P + x / 16 < 256 := by omega
    have ebo : ph_bo σ (nI P) (nI x) = ph_R σ 2 (32 * P + x / 16) := by
      rw [ph_bo, div16 (by omega), slot_eq, nI_clamp (by omega), show P * 32 + x / 16 = 32 * P + x / 16 by omega]
    obtain ⟨⟨-, e1⟩, -, ⟨n, hn, en⟩⟩ := nd_eq h hk
    rw [ebo, e1, en]
    exact (fl2_eq h hok hn).1
/-- what a reading that goes through rests on -/
theorem rd_0 (h : pr_R F S c φ σ μ) (hok : ph_ok F S σ) {p a : Int32} (h0 : ph_rdT F S σ p a = 0) : ∃ P x m, P < 8 ∧ x < 16 * m ∧ m ≤ 32 ∧ p = nI P ∧ a = nI x ∧ ph_A σ 3 P = nI m ∧ ph_bo σ p a = ph_R σ 2 (32 * P + x / 16) ∧ pm_k p a = 32 * P + x / 16 ∧ ∃ n, n ≤ 2 ∧ ph_tr σ (ph_R σ 2 (32 * P + x / 16)) = nI n ∧ n ≤ ph_cf (ph_R σ 0) F + ph_cf (ph_R σ 1) S := by
  unfold ph_rdT at h0
  rcases adr_eq h hok p a 0 with ⟨h1, h2⟩ | ⟨h1, P, x, m, hP, hx, hm, rfl, rfl, em, h2⟩
  · rw [if_pos h1] at h0; exact absurd h0 (by decide)
  · rw [if_neg h1] at h0
    have hk : 32 * P + x / 16 < 256 := by omega
    have ebo : ph_bo σ (nI P) (nI x) = ph_R σ 2 (32 * P + x / 16) := by
      rw [ph_bo, div16 (by omega), slot_eq, nI_clamp (by omega), show P * 32 + x / 16 = 32 * P + x / 16 by omega]
    obtain ⟨-, ⟨n, hn, en⟩, -⟩ := nd_eq h hk
    refine ⟨P, x, m, hP, hx, hm, rfl, rfl, em, ebo, by rw [pm_k, div16 (by omega), ix32, nI_clamp (by omega)], n, hn, en, (fl2_eq h hok hn).2 (fun z => ?_)⟩
    rw [ebo, en, if_pos z] at h0
    exact absurd h0 (by decide)
theorem wr_0 (h : pr_R F S c φ σ μ) (hok : ph_ok F S σ) {p a : Int32} (h0 : ph_wrT F S σ p a = 0) : ∃ P x m, P < 8 ∧ x < 16 * m ∧ m ≤ 32 ∧ p = nI P ∧ a = nI x ∧ ph_A σ 3 P = nI m ∧ ph_bo σ p a = ph_R σ 2 (32 * P + x / 16) ∧ pm_k p a = 32 * P + x / 16 ∧ ∃ n, n ≤ 2 ∧ ph_tw σ (ph_R σ 2 (32 * P + x / 16)) = nI n ∧ n ≤ ph_cf (ph_R σ 0) F + ph_cf (ph_R σ 1) S := by
  unfold ph_wrT at h0
  rcases adr_eq h hok p a 1 with ⟨h1, h2⟩ | ⟨h1, P, x, m, hP, hx, hm, rfl, rfl, em, h2⟩
  · rw [if_pos h1] at h0; exact absurd h0 (by decide)
  · rw [if_neg h1] at h0
    have hk : 32 * P + x / 16 < 256 := by omega
    have ebo : ph_bo σ (nI P) (nI x) = ph_R σ 2 (32 * P + x / 16) := by
      rw [ph_bo, div16 (by omega), slot_eq, nI_clamp (by omega), show P * 32 + x / 16 = 32 * P + x / 16 by omega]
    obtain ⟨-, -, ⟨n, hn, en⟩⟩ := nd_eq h hk
    refine ⟨P, x, m, hP, hx, hm, rfl, rfl, em, ebo, by rw [pm_k, div16 (by omega), ix32, nI_clamp (by omega)], n, hn, en, (fl2_eq h hok hn).2 (fun z => ?_)⟩
    rw [ebo, en, if_pos z] at h0
    exact absurd h0 (by decide)
theorem flR_0 {t : Nat} (ht : t < 2 ^ 31) : pm_flR (nI t) = 0 ↔ t = 0 := by
  unfold pm_flR
  by_cases h : t = 0
  · subst h; exact ⟨fun _ => rfl, fun _ => rfl⟩
  · rw [if_neg (show ¬ nI t ≤ 0 from nI_ge (a := 0) (b := t) (by omega) ht)]
    exact ⟨fun z => absurd z (by decide), fun z => absurd z h⟩
theorem rdT_le (F S : Nat) (σ : ph_S) (p a : Int32) : ph_rdT F S σ p a ≤ 2 := by
  unfold ph_rdT
  split
  · omega
  · split <;> omega
theorem wrT_le (F S : Nat) (σ : ph_S) (p a : Int32) : ph_wrT F S σ p a ≤ 2 := by
  unfold ph_wrT
  split
  · omega
  · split <;> omega
theorem S_read (h : pr_R F S 0 φ σ μ) (hok : ph_ok F S σ) (p a : Int32) :
    (pm_flR (pm_flT F S μ p a 0) = 0 → ¬ pm_A μ 1 (pm_k p a) = -1 → pm_inOK F S (pm_rw F S μ p a 0) (pm_A μ 1 (pm_k p a)).toNatClampNeg) ∧
    (ph_rdT F S σ p a = 0 → pm_rdR F S μ p a = ph_rdV F S (ph_acc σ) (ph_bo σ p a) a ∧ pr_R F S 0 φ (ph_rdW F S (ph_acc σ) (ph_bo σ p a)) (pm_rdX F S μ p a) ∧ ph_ok F S (ph_rdW F S (ph_acc σ) (ph_bo σ p a))) ∧
    (¬ ph_rdT F S σ p a = 0 → pr_R F S 0 φ σ (pm_rdX F S μ p a)) := by
  have hF := hok.F16
  have hT := S_rdT h hok p a
  have hle := rdT_le F S σ p a
  have h1 := R_acc h p a 0
  have hok1 : ph_ok F S (ph_acc σ) := ok_sI hok _ (by decide)
  by_cases h0 : ph_rdT F S σ p a = 0
  · obtain ⟨P, x, m, hP, hx, hm, rfl, rfl, em, ebo, ek, n, hn, en, hroom⟩ := rd_0 h hok h0
    have hk : 32 * P + x / 16 < 256 := by omega
    have hfl : pm_flR (pm_flT F S μ (nI P) (nI x) 0) = 0 := by rw [hT, h0]; rfl
    rw [ek, ebo]
    unfold pm_rdR pm_rdX
    rw [if_pos hfl, if_pos hfl]
    unfold pm_rdV pm_rdW
    rw [ek]
    generalize hτ : pm_rw F S μ (nI P) (nI x) 0 = τ at h1 ⊢
    have e1 : pm_A τ 1 = pm_A μ 1 := by rw [← hτ]; rfl
    rw [e1]
    cases e : ph_R σ 2 (32 * P + x / 16) with
    | none =>
      rw [h.K.1 _ hk e]
      simp only [if_pos]
      exact ⟨fun _ z => absurd trivial z, fun _ => ⟨rfl, h1, hok1⟩, fun z => absurd h0 z⟩
    | some b =>
      have lb : pr_lv (ph_R σ 2) b := ⟨_, hk, e⟩
      have lb1 : pr_lv (ph_R (ph_acc σ) 2) b := lb
      obtain ⟨y1, y2, -⟩ := h.K.2.1 _ b hk e
      have hne : ¬ nI (φ b) = -1 := nI_ne_m1 (by omega)
      rw [y2, if_neg hne, if_neg hne, nI_clamp (by omega)]
      obtain ⟨o1, o2, ⟨f, hf, o3⟩, o4, -⟩ := R_own1 h1 hok1 lb1 (fun z => by
        rw [e] at en
        have : ph_tr σ (some b) = 1 := by
          show (if ph_B σ 1 b = -1 then (1 : Int32) else 0) = 1
          exact if_pos z
        rw [this] at en
        have := (nI_eq (a := 1) (b := n) (by omega) (by omega)).mp en
        show 1 ≤ ph_cf (ph_R σ 0) F + ph_cf (ph_R σ 1) S
        omega)
      have lb2 : pr_lv (ph_R (ph_own1 F S (ph_acc σ) b) 2) b := by rw [o4]; exact lb1
      have v1 : pm_A (pm_in F S τ (φ b)) 3 (φ b) = nI f := (o2.V b lb2).1.trans o3
      refine ⟨fun _ _ => o1, fun _ => ⟨?_, ?_, ?_⟩, fun z => absurd h0 z⟩
      · rw [pm_wd, v1, nI_clamp (by omega), mod16 (by omega), nI_clamp (by omega)]
        show _ = ph_A (ph_rd2 F S (ph_acc σ) b) 0 (ph_B (ph_rd2 F S (ph_acc σ) b) 1 b * 16 + (nI x - nI x / 16 * 16)).toNatClampNeg
        rw [show ph_B (ph_rd2 F S (ph_acc σ) b) 1 b = nI f from o3, mod16 (by omega), mul16, nI_add, nI_clamp (by omega)]
        show _ = ph_A (ph_own1 F S (ph_acc σ) b) 0 (16 * f + x % 16)
        exact o2.W.1 _ (by omega)
      · show pr_R F S 0 φ (ph_rd2 F S (ph_acc σ) b) _
        rw [ph_rd2, o3, pm_us, v1, nI_clamp (by omega)]
        exact R_used o2 hf ((o2.Cf f b hf).mpr ⟨lb2, o3⟩)
      · show ph_ok F S (ph_rd2 F S (ph_acc σ) b)
        exact ok_us (ok_own1 hok1 (hok.refs 2 _ b e)) _ (Or.inr rfl)
  · have hfl : ¬ pm_flR (pm_flT F S μ p a 0) = 0 := by
      rw [hT, flR_0 (by omega)]; exact h0
    refine ⟨fun z => absurd z hfl, fun z => absurd z h0, fun _ => ?_⟩
    rw [pm_rdX, if_neg hfl]
    exact R_thrown h _
end RDWR
