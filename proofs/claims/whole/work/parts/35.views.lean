section VIEWS
variable {F S : Nat} {c : Int32} {φ : Nat → Nat} {σ : ph_S} {μ : pm_S}
theorem whG_spec (μ : pm_S) (b : Int32) : ∀ d i, (∃ k, i ≤ k ∧ k < i + d ∧ pm_A μ 1 k = b) → i ≤ pm_whG μ b d i ∧ pm_whG μ b d i < i + d ∧ pm_A μ 1 (pm_whG μ b d i) = b ∧ ∀ k, i ≤ k → k < pm_whG μ b d i → ¬ pm_A μ 1 k = b
  | 0, i, ⟨k, h1, h2, _⟩ => absurd h1 (by omega)
  | d + 1, i, ⟨k, h1, h2, h3⟩ => by
    unfold pm_whG
    by_cases h0 : pm_A μ 1 i = b
    · rw [if_pos h0]; exact ⟨by omega, by omega, h0, fun k a1 a2 => absurd a1 (by omega)⟩
    · rw [if_neg h0]
      have hk : ¬ k = i := fun e => h0 (by rw [← e]; exact h3)
      obtain ⟨a1, a2, a3, a4⟩ := whG_spec μ b d (i + 1) ⟨k, by omega, by omega, h3⟩
      refine ⟨by omega, by omega, a3, fun j b1 b2 => ?_⟩
      by_cases hj : j = i
      · rw [hj]; exact h0
      · exact a4 j (by omega) b2
theorem wh_spec {b : Int32} (h : ∃ k, k < 256 ∧ pm_A μ 1 k = b) : pm_wh μ b < 256 ∧ pm_A μ 1 (pm_wh μ b) = b ∧ ∀ k, k < pm_wh μ b → ¬ pm_A μ 1 k = b := by
  obtain ⟨k, h1, h2⟩ := h
  obtain ⟨-, a2, a3, a4⟩ := whG_spec μ b 256 0 ⟨k, by omega, by omega, h2⟩
  exact ⟨by unfold pm_wh; omega, a3, fun k hk => a4 k (by omega) hk⟩
theorem R_wh (h : pr_R F S c φ σ μ) : ∀ f, ¬ pm_bi μ f = -1 → pm_wh μ (pm_bi μ f) < 256 := by
  intro f hf
  rcases biG_spec μ f 300 0 with ⟨b, -, hb, e, h1, h2⟩ | ⟨h1, -⟩
  · obtain ⟨a, ⟨k, hk, ek⟩, rfl⟩ := h.K.2.2.1 b (by omega) h1
    have e' : pm_bi μ f = nI (φ a) := e
    rw [e']
    exact (wh_spec ⟨k, hk, (h.K.2.1 k a hk ek).2.1⟩).1
  · exact absurd h1 hf
theorem lh_eq {a g P : Nat} (h0 : ph_B σ 0 a = nI g) (hg : g < 32) (hP : P < 8) (h1 : ph_R σ 2 (32 * P + g) = some a) (h2 : ∀ p, p < P → ¬ ph_R σ 2 (32 * p + g) = some a) : ph_lh σ a = nI P := by
  have key : ∀ d i, i + d = 8 → i ≤ P → ph_lhG σ a d i = nI P := by
    intro d
    induction d with
    | zero => intro i hi hp; exact absurd hp (by omega)
    | succ d ih =>
      intro i hi hp
      unfold ph_lhG
      rw [h0, slot_eq, nI_clamp (by omega), show i * 32 + g = 32 * i + g by omega]
      by_cases e : i = P
      · rw [e, if_pos h1]
      · rw [if_neg (h2 i (by omega))]; exact ih (i + 1) (by omega) (by omega)
  exact key 8 0 rfl (by omega)
theorem S_frame3 (h : pr_R F S c φ σ μ) (hok : ph_ok F S σ) {f : Nat} (hf : f < F) (x : Int32) : pm_fr3 μ (nI f) x = ph_fr2 σ (nI f) x := by
  have hF := hok.F16
  unfold pm_fr3 ph_fr2
  rw [nI_clamp (by omega)]
  cases e : ph_R σ 0 f with
  | none =>
    have hu := (h.U f hf).1 e
    rw [R_bi_n h hf e, if_pos rfl, if_pos rfl]
    show _ = if x = 0 then (if ph_A σ 2 (nI f).toNatClampNeg = 0 then (0 : Int32) else 1) else if x = 1 then -1 else if x = 2 then -1 else -1
    rw [nI_clamp (by omega), if_pos hu]
    by_cases h0 : x = 0
    · rw [if_pos h0, if_pos h0]
    · rw [if_neg h0, if_neg h0]
      split
      · rfl
      · split <;> rfl
  | some a =>
    obtain ⟨la, e1⟩ := (h.Cf f a hf).mp e
    have hb := (h.is1 la).1
    have hne : ¬ nI (φ a) = -1 := nI_ne_m1 (by omega)
    rw [R_bi_s h hf e, if_neg hne, if_neg hne, (h.U f hf).2 (by rw [e]; simp)]
    show _ = if x = 0 then (if ph_A σ 2 (nI f).toNatClampNeg = 0 then (0 : Int32) else 1) else if x = 1 then ph_lh σ a else if x = 2 then ph_B σ 0 a else -1
    rw [nI_clamp (by omega)]
    by_cases h0 : x = 0
    · rw [if_pos h0, if_pos h0]
    · rw [if_neg h0, if_neg h0]
      obtain ⟨k, hk, ek⟩ := la
      obtain ⟨w1, w2, w3⟩ := wh_spec (μ := μ) (b := nI (φ a)) ⟨k, hk, (h.K.2.1 k a hk ek).2.1⟩
      generalize pm_wh μ (nI (φ a)) = w at w1 w2 w3 ⊢
      have ew : ph_R σ 2 w = some a := by
        cases z : ph_R σ 2 w with
        | none => rw [h.K.1 w w1 z] at w2; exact absurd w2.symm hne
        | some y =>
          obtain ⟨y1, y2, -⟩ := h.K.2.1 w y w1 z
          rw [y2] at w2
          rw [h.inj ⟨w, w1, z⟩ ⟨k, hk, ek⟩ ((nI_eq (by omega) (by omega)).mp w2)]
      obtain ⟨-, -, -, z4, -⟩ := h.K.2.1 w a w1 ew
      have e32 : nI w / 32 = nI (w / 32) := pk_div (d := 32) (by omega) (by omega) (by omega)
      have r32 : nI w - nI w / 32 * 32 = nI (w % 32) := pk_rem (d := 32) (by omega) (by omega) (by omega)
      have hl : ph_lh σ a = nI (w / 32) := lh_eq z4 (by omega) (by omega) (by rw [show 32 * (w / 32) + w % 32 = w by omega]; exact ew) (fun p hp z => by
        have := w3 (32 * p + w % 32) (by omega)
        exact this (h.K.2.1 _ a (by omega) z).2.1)
      rw [hl, z4, e32]
      rw [e32] at r32
      by_cases n0 : x < 0
      · have a1 : ¬ x = 1 := fun z => by rw [z] at n0; exact absurd n0 (by decide)
        have a2 : ¬ x = 2 := fun z => by rw [z] at n0; exact absurd n0 (by decide)
        rw [if_pos n0, if_neg a1, if_neg a2]
      · rw [if_neg n0]
        by_cases n2 : x ≤ 2
        · rw [if_pos n2]
          obtain ⟨y, hy, rfl⟩ := nI_of n0
          have hy2 := (nI_leI hy (by omega : 2 < 2 ^ 31)).mp n2
          have hy0 : ¬ y = 0 := fun z => h0 (by rw [z]; rfl)
          rcases (by omega : y = 1 ∨ y = 2) with rfl | rfl
          · rw [if_pos (by rfl), if_pos (by rfl)]
          · rw [if_neg (by decide), if_neg (by decide), if_pos (by rfl)]; exact r32
        · have a1 : ¬ x = 1 := fun z => by rw [z] at n2; exact absurd (by decide) n2
          have a2 : ¬ x = 2 := fun z => by rw [z] at n2; exact absurd (by decide) n2
          rw [if_neg n2, if_neg a1, if_neg a2]
theorem S_frame (h : pr_R F S c φ σ μ) (hok : ph_ok F S σ) (f x : Int32) : pm_frV F μ f x = ph_frV F σ f x := by
  have hF := hok.F16
  unfold pm_frV ph_frV ph_has
  by_cases h1 : f < 0
  · rw [if_pos h1, if_pos h1, if_pos rfl]
  · rw [if_neg h1, if_neg h1]
    by_cases h2 : f < nI F
    · rw [if_pos h2, if_neg (Int32.not_le.mpr h2), if_neg (show ¬ (1 : Int32) = 0 by decide)]
      obtain ⟨a, ha, rfl⟩ := nI_of h1
      have hf : a < F := Nat.lt_of_not_le fun z => (nI_nlt z ha) h2
      rw [S_frame3 h hok hf]
      by_cases h3 : x < 16
      · rw [if_pos h3, if_pos h3]
      · rw [if_neg h3, if_neg h3]
        by_cases h4 : 32 ≤ x
        · rw [if_pos h4, if_pos h4]
        · rw [if_neg h4, if_neg h4]
          obtain ⟨j, hj, rfl, e⟩ := wd_in (by omega : F ≤ 64) hf h3 h4
          rw [e, ix16, show (16 : Int32) = nI 16 from rfl, pk_sub (by omega), nI_clamp (by omega), nI_clamp (by omega), show 16 * a + (16 + j) - 16 = 16 * a + j by omega]
          exact h.W.1 _ (by omega)
    · rw [if_neg h2, if_pos (Int32.not_lt.mp h2), if_pos rfl]
theorem S_sdT (s i : Int32) : pm_sdT S s i = nI (ph_sdT S s i) := by
  unfold pm_sdT ph_sdT ph_has
  by_cases h1 : s < 0
  · rw [if_pos h1, if_pos h1, if_pos rfl]; rfl
  · rw [if_neg h1, if_neg h1]
    by_cases h2 : nI S ≤ s
    · rw [if_pos h2, if_pos h2, if_pos rfl]; rfl
    · rw [if_neg h2, if_neg h2, if_neg (show ¬ (1 : Int32) = 0 by decide)]
      by_cases h3 : i < 0
      · rw [if_pos h3, if_pos h3]; rfl
      · rw [if_neg h3, if_neg h3]
        obtain ⟨a, ha, rfl⟩ := nI_of h3
        by_cases h4 : a < 16
        · rw [if_pos (show nI a ≤ 15 from nI_le (a := a) (b := 15) (by omega) (by omega)), if_pos (show nI a < 16 from nI_lt (a := a) (b := 16) h4 (by omega))]; rfl
        · rw [if_neg (show ¬ nI a ≤ 15 from nI_ge (a := 15) (b := a) (by omega) ha), if_neg (show ¬ nI a < 16 from nI_nlt (a := a) (b := 16) (by omega) ha)]; rfl
theorem S_stored (h : pr_R F S c φ σ μ) (hok : ph_ok F S σ) (s i : Int32) (h0 : ph_sdT S s i = 0) : pm_sdV S μ s i = ph_sdV σ s i := by
  have hS := hok.S64
  have hT := S_sdT (S := S) s i
  rw [h0] at hT
  unfold pm_sdV ph_sdV
  rw [hT, if_pos (by decide)]
  unfold ph_sdT at h0
  split at h0
  · exact absurd h0 (by decide)
  · rename_i h1
    split at h0
    · exact absurd h0 (by decide)
    · rename_i h2
      split at h0
      · rename_i h3
        obtain ⟨a, ha, rfl⟩ := ph_has_in h1 (by omega)
        obtain ⟨b, hb, rfl⟩ := nI_of h2
        have hb2 : b < 16 := Nat.lt_of_not_le fun z => (nI_nlt (a := b) (b := 16) z hb) h3
        rw [ix16, mul16, nI_add, nI_clamp (by omega)]
        exact h.W.2 _ (by omega)
      · exact absurd h0 (by decide)
/-- bodies counted by the rows that they lie in -/
theorem bij_rows (h : pr_R F S c φ σ μ) {N : Nat} (hN : N < 2 ^ 31) {bx mo : Nat → Int32} {row : Nat → Option Nat} (hC : pr_C N (ph_R σ 2) bx row) (hmo : ∀ a, pr_lv (ph_R σ 2) a → mo (φ a) = bx a) (hr : ∀ a, pr_lv (ph_R σ 2) a → bx a = -1 ∨ ∃ f, f < N ∧ bx a = nI f) {P Q : Nat → Bool}
    (hP : ∀ b, b < 300 → P b = true → ¬ pm_A μ 2 b = 0 ∧ ¬ mo b = -1) (hQ : ∀ f, f < N → row f = none → Q f = false) (hPQ : ∀ f a, f < N → row f = some a → Q f = P (φ a)) : ph_cN P 300 = ph_cN Q N := by
  have find : ∀ b, b < 300 → P b = true → ∃ a f, pr_lv (ph_R σ 2) a ∧ φ a = b ∧ f < N ∧ bx a = nI f := by
    intro b hb hp
    obtain ⟨h1, h2⟩ := hP b hb hp
    obtain ⟨a, la, rfl⟩ := h.K.2.2.1 b hb h1
    rcases hr a la with e | ⟨f, hf, e⟩
    · exact absurd ((hmo a la).trans e) h2
    · exact ⟨a, f, la, rfl, hf, e⟩
  refine cN_bij (fun b f => mo b = nI f) ?_ ?_ ?_ ?_
  · intro b hb hp
    obtain ⟨a, f, la, rfl, hf, e⟩ := find b hb hp
    exact ⟨f, hf, by rw [hPQ f a hf ((hC f a hf).mpr ⟨la, e⟩)]; exact hp, (hmo a la).trans e⟩
  · intro f hf hq
    cases e : row f with
    | none => rw [hQ f hf e] at hq; exact absurd hq (by decide)
    | some a =>
      obtain ⟨la, e1⟩ := (hC f a hf).mp e
      exact ⟨φ a, (h.is1 la).1, by rw [← hPQ f a hf e]; exact hq, (hmo a la).trans e1⟩
  · intro b b' f hb hb' hp hp' e e'
    obtain ⟨a, g, la, rfl, hg, eg⟩ := find b hb hp
    obtain ⟨a', g', la', rfl, hg', eg'⟩ := find b' hb' hp'
    have e2 : bx a = bx a' := (hmo a la).symm.trans (e.trans (e'.symm.trans (hmo a' la')))
    have z1 := (hC g a hg).mpr ⟨la, eg⟩
    have z2 := (hC g a' hg).mpr ⟨la', e2.symm.trans eg⟩
    rw [z1] at z2
    rw [Option.some.inj z2]
  · intro b f f' hf hf' e e'
    exact (nI_eq (by omega) (by omega)).mp (e.symm.trans e')
theorem n_occ (r : Nat → Option Nat) (N : Nat) : ph_cN (fun f => !(r f).isNone) N = N - ph_cf r N := by
  have := cN_not (fun f => (r f).isNone) N
  unfold ph_cf
  omega
theorem R_dirty (h : pr_R F S c φ σ μ) (hok : ph_ok F S σ) : ph_cN (pm_diB μ) 300 = ph_cN (ph_cdB σ) F := by
  have hF := hok.F16
  refine bij_rows h (by omega) h.Cf (fun a la => (h.V a la).1) (fun a la => (h.V a la).2.2.2.1) ?_ ?_ ?_
  · intro b hb hp
    unfold pm_diB at hp
    split at hp
    · exact absurd hp (by decide)
    · split at hp
      · exact absurd hp (by decide)
      · exact ⟨by assumption, by assumption⟩
  · intro f hf e
    unfold ph_cdB; rw [e]
  · intro f a hf e
    obtain ⟨la, e1⟩ := (h.Cf f a hf).mp e
    obtain ⟨v1, v2, v3, -⟩ := h.V a la
    unfold ph_cdB pm_diB
    rw [e, (h.is1 la).2.1, if_neg (by decide), v1, e1, if_neg (nI_ne_m1 (by omega)), v3]
theorem R_without (h : pr_R F S c φ σ μ) (hok : ph_ok F S σ) : ph_cN (pm_wsB μ) 300 = ph_cN (ph_csB σ) F := by
  have hF := hok.F16
  refine bij_rows h (by omega) h.Cf (fun a la => (h.V a la).1) (fun a la => (h.V a la).2.2.2.1) ?_ ?_ ?_
  · intro b hb hp
    unfold pm_wsB at hp
    have hp2 := (Bool.and_eq_true _ _ ▸ hp : pm_diB μ b = true ∧ _).1
    unfold pm_diB at hp2
    split at hp2
    · exact absurd hp2 (by decide)
    · split at hp2
      · exact absurd hp2 (by decide)
      · exact ⟨by assumption, by assumption⟩
  · intro f hf e
    unfold ph_csB; rw [e]
  · intro f a hf e
    obtain ⟨la, e1⟩ := (h.Cf f a hf).mp e
    obtain ⟨v1, v2, v3, -, -, -, v7⟩ := h.V a la
    unfold ph_csB pm_wsB pm_diB
    rw [e, (h.is1 la).2.1, if_neg (by decide), v1, e1, if_neg (nI_ne_m1 (by omega)), v3, v2]
    show decide (ph_B σ 2 a = -1) = _
    by_cases z : ph_B σ 2 a = -1
    · have := v7 (by rw [e1]; exact nI_ne_m1 (by omega)) z
      simp [z, this]
    · simp [z]
theorem R_bodies (h : pr_R F S c φ σ μ) (hok : ph_ok F S σ) : nI (ph_cN (pm_isB μ) 300) = ph_cb F S σ := by
  have hF := hok.F16
  have hS := hok.S64
  unfold ph_cb
  congr 1
  rw [cN_split (pm_isB μ) (fun b => decide (¬ pm_A μ 3 b = -1)) 300, ← n_occ]
  congr 1
  · refine bij_rows h (by omega) h.Cf (fun a la => (h.V a la).1) (fun a la => (h.V a la).2.2.2.1) ?_ ?_ ?_
    · intro b hb hp
      simp only [pm_isB, Bool.and_eq_true, decide_eq_true_eq] at hp
      exact hp
    · intro f hf e
      rw [e]; rfl
    · intro f a hf e
      obtain ⟨la, e1⟩ := (h.Cf f a hf).mp e
      obtain ⟨v1, -⟩ := h.V a la
      have hne : ¬ nI f = -1 := nI_ne_m1 (by omega)
      simp only [pm_isB]
      rw [e, (h.is1 la).2.1, v1, e1]
      simp [hne]
  · refine bij_rows h (by omega) h.Cs (fun a la => (h.V a la).2.1) (fun a la => (h.V a la).2.2.2.2.1) ?_ ?_ ?_
    · intro b hb hp
      simp only [pm_isB, Bool.and_eq_true, Bool.not_eq_true', decide_eq_true_eq, decide_eq_false_iff_not, Decidable.not_not] at hp
      refine ⟨hp.1, ?_⟩
      obtain ⟨a, la, rfl⟩ := h.K.2.2.1 b hb hp.1
      obtain ⟨v1, v2, -, -, -, v6, -⟩ := h.V a la
      rw [v2]
      exact (v6 (by rw [← v1]; exact hp.2)).2
    · intro s hs e
      unfold ph_cbB; rw [e]
    · intro s a hs e
      obtain ⟨la, e1⟩ := (h.Cs s a hs).mp e
      obtain ⟨v1, -⟩ := h.V a la
      simp only [pm_isB, ph_cbB]
      rw [e, (h.is1 la).2.1, v1]
      by_cases z : ph_B σ 1 a = -1 <;> simp [z]
theorem R_procs (h : pr_R F S c φ σ μ) : nI (ph_cN (fun p => decide (¬ pm_A μ 0 p ≤ 0)) 8) = ph_cp σ := by
  unfold ph_cp
  congr 1
  refine cN_congr 8 (fun p hp => ?_)
  unfold ph_hp
  rw [if_neg (show ¬ nI p < 0 from nI_nlt (a := p) (b := 0) (by omega) (by omega)), if_neg (show ¬ (8 : Int32) ≤ nI p from nI_ge (a := p) (b := 8) hp (by omega)), nI_clamp (by omega), h.P.1 p hp]
  by_cases z : ph_A σ 3 p ≤ 0
  · rw [if_pos z]; simp [z]
  · rw [if_neg z]; simp [z]
theorem S_look (h : pr_R F S 0 φ σ μ) (hok : ph_ok F S σ) (x : Int32) : pm_lkV F S μ x = ph_lkV F S σ x := by
  obtain ⟨n1, n2, n3, n4, n5, n6, n7, n8⟩ := h.N
  rw [Int32.add_zero] at n5
  unfold pm_lkV ph_lkV
  rw [R_procs h, R_ff h, R_fs h, n3, R_bodies h hok, R_dirty h hok, n4, n5, n6, n7, n8]
  rfl
def ph_cR (f : Nat → Bool) : Nat → Nat → Nat
  | 0, _ => 0
  | d + 1, i => (if f i = true then 1 else 0) + ph_cR f d (i + 1)
theorem cR_congr {f g : Nat → Bool} : ∀ d i, (∀ j, i ≤ j → j < i + d → f j = g j) → ph_cR f d i = ph_cR g d i
  | 0, _, _ => rfl
  | d + 1, i, h => by
    unfold ph_cR
    rw [h i (by omega) (by omega), cR_congr d (i + 1) (fun j a b => h j (by omega) (by omega))]
theorem cR_cN (f : Nat → Bool) : ∀ d i, ph_cN f i + ph_cR f d i = ph_cN f (i + d)
  | 0, i => rfl
  | d + 1, i => by
    have := cR_cN f d (i + 1)
    rw [show i + (d + 1) = i + 1 + d by omega, ← this]
    rw [show ph_cR f (d + 1) i = (if f i = true then 1 else 0) + ph_cR f d (i + 1) from rfl, show ph_cN f (i + 1) = ph_cN f i + (if f i = true then 1 else 0) from rfl]
    omega
theorem flush_loop : ∀ (d i : Nat) (σ : ph_S) (μ : pm_S), i + d = F → pr_R F S c φ σ μ → ph_ok F S σ → ph_cR (ph_csB σ) d i ≤ ph_cf (ph_R σ 1) S →
    pr_R F S c φ (ph_flG F S d i σ) (pm_flG S d i μ) ∧ ph_ok F S (ph_flG F S d i σ) ∧ pm_flK S d i μ ∧ ph_flN F S d i σ = ph_cR (ph_cdB σ) d i := by
  intro d
  induction d with
  | zero => intro i σ μ _ hR hok _; exact ⟨hR, hok, trivial, rfl⟩
  | succ d ih =>
    intro i σ μ hi hR hok hc
    have hF := hok.F16
    unfold ph_flG pm_flG pm_flK ph_flN
    rw [show ph_cR (ph_cdB σ) (d + 1) i = (if ph_cdB σ i = true then 1 else 0) + ph_cR (ph_cdB σ) d (i + 1) from rfl]
    rw [show ph_cR (ph_csB σ) (d + 1) i = (if ph_csB σ i = true then 1 else 0) + ph_cR (ph_csB σ) d (i + 1) from rfl] at hc
    cases e : ph_R σ 0 i with
    | none =>
      have ebi := R_bi_n hR (by omega) e
      have ec : ph_cdB σ i = false := by unfold ph_cdB; rw [e]
      obtain ⟨t1, t2, t3, t4⟩ := ih (i + 1) σ μ (by omega) hR hok (by omega)
      have eS : pm_flS S μ i = μ := by rw [pm_flS, if_pos ebi]
      rw [eS, ec]
      exact ⟨t1, t2, ⟨fun z => absurd ebi z, t3⟩, by rw [t4]; simp⟩
    | some a =>
      obtain ⟨la, e1⟩ := (hR.Cf i a (by omega)).mp e
      have hb := (hR.is1 la).1
      have ebi := R_bi_s hR (by omega) e
      have hne : ¬ nI (φ a) = -1 := nI_ne_m1 (by omega)
      obtain ⟨v1, v2, v3, v4, v5, v6, v7⟩ := hR.V a la
      have ecd : ph_cdB σ i = decide (¬ ph_B σ 4 a = 0) := by unfold ph_cdB; rw [e]
      have ecs : ph_csB σ i = decide (ph_B σ 2 a = -1) := by unfold ph_csB; rw [e]
      rw [ebi, nI_clamp (by omega), v3, ecd]
      rw [ecs] at hc
      by_cases h4 : ph_B σ 4 a = 0
      · have eS : pm_flS S μ i = μ := by rw [pm_flS, ebi, if_neg hne, nI_clamp (by omega), v3, if_pos h4]
        obtain ⟨t1, t2, t3, t4⟩ := ih (i + 1) σ μ (by omega) hR hok (by omega)
        simp only [if_pos h4]
        rw [eS]
        exact ⟨t1, t2, ⟨fun _ z => absurd h4 z, t3⟩, by rw [t4]; simp [h4]⟩
      · have eS : pm_flS S μ i = pm_st S μ (φ a) := by rw [pm_flS, ebi, if_neg hne, nI_clamp (by omega), v3, if_neg h4]
        obtain ⟨q1, q2, q3⟩ := R_store hR hok la (by omega) e1 (fun z => by
          refine cf_free ?_
          simp only [z, decide_true, if_true] at hc
          omega)
        obtain ⟨s1, s2, s3, s4, s5, s6, ⟨t, ht, s7⟩, s8, s9, s10, s11⟩ := q3
        have other : ∀ j, i + 1 ≤ j → j < i + 1 + d → ∀ x, ph_R σ 0 j = some x → ¬ x = a := by
          intro j hj1 hj2 x ex z
          have := ((hR.Cf j x (by omega)).mp ex).2
          rw [z, e1] at this
          have := (nI_eq (by omega) (by omega)).mp this
          omega
        have c1 : ph_cR (ph_csB (ph_st F S σ a)) d (i + 1) = ph_cR (ph_csB σ) d (i + 1) := cR_congr _ _ (fun j hj1 hj2 => by
          unfold ph_csB
          rw [s1]
          cases ex : ph_R σ 0 j with
          | none => rfl
          | some x => show decide (ph_B (ph_st F S σ a) 2 x = -1) = decide (ph_B σ 2 x = -1); rw [s7, up_ne _ _ (other j hj1 hj2 x ex)])
        have c2 : ph_cR (ph_cdB (ph_st F S σ a)) d (i + 1) = ph_cR (ph_cdB σ) d (i + 1) := cR_congr _ _ (fun j hj1 hj2 => by
          unfold ph_cdB
          rw [s1]
          cases ex : ph_R σ 0 j with
          | none => rfl
          | some x => show decide (¬ ph_B (ph_st F S σ a) 4 x = 0) = decide (¬ ph_B σ 4 x = 0); rw [s6, up_ne _ _ (other j hj1 hj2 x ex)])
        obtain ⟨t1, t2, t3, t4⟩ := ih (i + 1) (ph_st F S σ a) (pm_st S μ (φ a)) (by omega) q2 (ok_st hok (hok.refs 0 i a e)) (by
          rw [c1]
          by_cases z : ph_B σ 2 a = -1
          · rw [if_pos z] at s11
            simp only [z, decide_true, if_true] at hc
            omega
          · rw [if_neg z] at s11
            omega)
        simp only [if_neg h4]
        rw [eS]
        exact ⟨t1, t2, ⟨fun _ _ => q1, t3⟩, by rw [t4, c2]; simp [h4]; omega⟩
theorem S_flush (h : pr_R F S c φ σ μ) (hok : ph_ok F S σ) : pm_flV S μ = ph_flV F S σ ∧ pr_R F S c φ (ph_flW F S σ) (pm_flW F S μ) ∧ ph_ok F S (ph_flW F S σ) ∧ (nI (ph_cN (pm_wsB μ) 300) ≤ nI (pm_fs S μ) → pm_flK S F 0 μ) := by
  have hF := hok.F16
  have hS := hok.S64
  unfold pm_flV ph_flV ph_flW pm_flW ph_cs
  rw [R_without h hok, R_dirty h hok, R_fs h]
  have b1 := ph_cN_le (ph_csB σ) F
  have b2 : ph_cf (ph_R σ 1) S ≤ S := ph_cN_le _ S
  by_cases hc : nI (ph_cN (ph_csB σ) F) ≤ nI (ph_cf (ph_R σ 1) S)
  · simp only [if_pos hc]
    have hc2 := (nI_leI (by omega) (by omega)).mp hc
    have z1 := cR_cN (ph_csB σ) F 0
    have z2 := cR_cN (ph_cdB σ) F 0
    rw [Nat.zero_add] at z1 z2
    have z0 : ∀ f : Nat → Bool, ph_cN f 0 = 0 := fun _ => rfl
    rw [z0, Nat.zero_add] at z1 z2
    obtain ⟨t1, t2, t3, t4⟩ := flush_loop F 0 σ μ (by omega) h hok (by rw [z1]; exact hc2)
    exact ⟨by rw [t4, z2], t1, t2, fun _ => t3⟩
  · simp only [if_neg hc]
    exact ⟨trivial, h, hok, fun z => absurd z hc⟩
end VIEWS
