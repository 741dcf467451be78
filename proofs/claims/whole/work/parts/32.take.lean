section TAKE
variable {F S : Nat} {c : Int32} {φ : Nat → Nat} {σ : ph_S} {μ : pm_S}
theorem lf_none {r : Nat → Option Nat} {N : Nat} (hN : N < 2 ^ 31) (h : ph_lf r N = -1) : ∀ f, f < N → ¬ r f = none := by
  rcases lfG_spec r N 0 (by omega) with ⟨j, -, hj, e, -⟩ | ⟨-, h2⟩
  · exact absurd (e.symm.trans h) (nI_ne_m1 (by omega))
  · exact fun f hf => h2 f (by omega) (by omega)
theorem lf_some {r : Nat → Option Nat} {N : Nat} (hN : N < 2 ^ 31) (h : ¬ ph_lf r N = -1) : ∃ f, f < N ∧ ph_lf r N = nI f ∧ r f = none := by
  rcases lfG_spec r N 0 (by omega) with ⟨j, -, hj, e, e2⟩ | ⟨h1, -⟩
  · exact ⟨j, by omega, e, e2⟩
  · exact absurd h1 h
theorem cf_zero {r : Nat → Option Nat} {N : Nat} (h : ∀ f, f < N → ¬ r f = none) : ph_cf r N = 0 := by
  by_cases h0 : ph_cf r N = 0
  · exact h0
  · obtain ⟨i, hi, e⟩ := cN_pos (f := fun i => (r i).isNone) (n := N) (by unfold ph_cf at h0; omega)
    exact absurd (Option.isNone_iff_eq_none.mp e) (h i hi)
theorem cf_free {r : Nat → Option Nat} {N : Nat} (h : 1 ≤ ph_cf r N) : ∃ s, s < N ∧ r s = none := by
  obtain ⟨i, hi, e⟩ := cN_pos (f := fun i => (r i).isNone) (n := N) h
  exact ⟨i, hi, Option.isNone_iff_eq_none.mp e⟩
/-- what a taking keeps -/
def tk_eff (F S : Nat) (kept : Int32) (σ σ' : ph_S) : Prop :=
  ph_R σ' 2 = ph_R σ 2 ∧ ph_B σ' 0 = ph_B σ 0 ∧ ph_B σ' 3 = ph_B σ 3 ∧ (∀ a, ph_B σ 1 a = -1 ∨ ph_B σ 1 a = kept → ph_B σ' 1 a = ph_B σ 1 a ∧ ph_B σ' 2 a = ph_B σ 2 a) ∧
  ph_cf (ph_R σ 0) F + ph_cf (ph_R σ 1) S ≤ ph_cf (ph_R σ' 0) F + ph_cf (ph_R σ' 1) S
theorem R_take (h : pr_R F S 0 φ σ μ) (hok : ph_ok F S σ) {kept : Int32} (hkept : kept = -1 ∨ ∃ g, g < F ∧ kept = nI g ∧ ¬ ph_R σ 0 g = none) (hroom : 1 ≤ ph_cf (ph_R σ 0) F + ph_cf (ph_R σ 1) S) :
    pm_tkOK F S kept μ ∧ ph_tkN F S kept σ = pm_tkN F S kept μ ∧ pr_R F S 0 φ (ph_tkS F S kept σ) (pm_tkS F S kept μ) ∧ ph_tkN F S kept σ < F ∧
    ph_R (ph_tkS F S kept σ) 0 (ph_tkN F S kept σ) = none ∧ ph_A (ph_tkS F S kept σ) 2 (ph_tkN F S kept σ) = 0 ∧ pm_A (pm_tkS F S kept μ) 8 (ph_tkN F S kept σ) = 0 ∧ ¬ nI (ph_tkN F S kept σ) = kept ∧ tk_eff F S kept σ (ph_tkS F S kept σ) ∧ ph_I (ph_tkS F S kept σ) 2 = ph_I σ 2 + 1 := by
  have hF := hok.F16
  have hF2 := hok.F2
  have hS := hok.S64
  obtain ⟨n1, n2, n3, n4, n5, n6⟩ := h.N
  have h1 : pr_R F S 1 φ σ (pm_tk0 μ) := ⟨⟨n1, n2, n3, n4, by
    show pm_I μ 5 + 1 = ph_I σ 2 + 1
    rw [n5, Int32.add_zero], n6⟩, h.2⟩
  have key : ∀ {X : ph_S} {Y : pm_S}, pr_R F S 1 φ X Y → pr_R F S 0 φ (ph_tk1 X) Y := fun {X Y} hx => by
    obtain ⟨a1, a2, a3, a4, a5, a6⟩ := hx.N
    exact ⟨⟨a1, a2, a3, a4, by rw [a5]; show _ = (ph_I X 2 + 1) + 0; rw [Int32.add_zero], a6⟩, hx.2⟩
  have efr := R_fr h
  obtain ⟨j, hj, ej⟩ := hok.hand
  by_cases hfull : ph_lf (ph_R σ 0) F = -1
  · -- none is free
    have hall := lf_none (by omega) hfull
    have hfs : 1 ≤ ph_cf (ph_R σ 1) S := by have := cf_zero hall; omega
    obtain ⟨r1, r2, r3, r4⟩ := R_scG (kept := kept) (2 * F) h1 hok hall
    have okT : ph_ok F S (ph_scT F kept σ) := ok_scT hok
    have hx : pm_scX kept (pm_scT F kept μ) := scX_C hF2 hF (μ := pm_tk0 μ) n1 (n3.trans ej) hj
    obtain ⟨f, hf, ef⟩ := okT.hand
    have ef' : pm_I (pm_scT F kept μ) 3 = nI f := by
      have := r1.N.2.2.1
      exact this.trans ef
    obtain ⟨x1, x2⟩ := hx
    rw [ef'] at x1 x2
    rw [nI_clamp (by omega)] at x2
    have hRT : ph_R (ph_scT F kept σ) = ph_R σ := r2
    have hBT : ph_B (ph_scT F kept σ) = ph_B σ := r3
    obtain ⟨a, ea⟩ : ∃ a, ph_R σ 0 f = some a := by
      cases z : ph_R σ 0 f with
      | none => exact absurd z (hall f hf)
      | some a => exact ⟨a, rfl⟩
    have ha := ((h.Cf f a hf).mp ea)
    have hE : pr_R F S 1 φ (ph_scE F kept σ) (pm_tkE F kept μ) := R_scS r1 okT
    have okE : ph_ok F S (ph_scE F kept σ) := ok_scE hok
    have hRE : ph_R (ph_scE F kept σ) = ph_R σ := r2
    have hBE : ph_B (ph_scE F kept σ) = ph_B σ := r3
    have eaE : ph_R (ph_scE F kept σ) 0 f = some a := by rw [hRE]; exact ea
    have haE : pr_lv (ph_R (ph_scE F kept σ) 2) a := by rw [hRE]; exact ha.1
    have e1E : ph_B (ph_scE F kept σ) 1 a = nI f := by rw [hBE]; exact ha.2
    have huE : ph_A (ph_scE F kept σ) 2 f = 0 := by
      have := (hE.U f hf).2 (by rw [eaE]; simp)
      exact this.symm.trans x2
    have hb := (h.is1 ha.1).1
    have ebi : pm_bi (pm_tkE F kept μ) (nI f) = nI (φ a) := R_bi_s hE hf eaE
    have hfree : ph_B (ph_scE F kept σ) 2 a = -1 → ∃ s, s < S ∧ ph_R (ph_scE F kept σ) 1 s = none := fun _ => by rw [hRE]; exact cf_free hfs
    obtain ⟨q1, q2, q3⟩ := R_store hE okE haE hf e1E hfree
    have hdi : pm_A (pm_tkE F kept μ) 5 (φ a) = ph_B (ph_scE F kept σ) 4 a := (hE.V a haE).2.2.1
    have etk : pm_tkOK F S kept μ := ⟨hok.1, n1, ⟨j, hj, n3.trans ej⟩, fun _ => ⟨⟨by rw [ef']; exact x1, by rw [ef', nI_clamp (by omega)]; exact x2⟩, φ a, hb, by rw [ef']; exact ebi, fun _ => q1⟩⟩
    have eB : pm_tkB F kept μ = φ a := by rw [pm_tkB, ef', ebi, nI_clamp (by omega)]
    have eNc : ph_tkN F S kept σ = f := by rw [ph_tkN, ph_tkF, if_pos hfull, ef, nI_clamp (by omega)]
    have eNm : pm_tkN F S kept μ = f := by rw [pm_tkN, pm_tkF, efr, if_pos hfull, ef', nI_clamp (by omega)]
    have eSc : ph_tkS F S kept σ = ph_tk1 (if ph_B (ph_scE F kept σ) 4 a = 0 then ph_vac2 (ph_scE F kept σ) a (nI f) else ph_vac2 (ph_st F S (ph_scE F kept σ) a) a (nI f)) := by
      rw [ph_tkS, if_pos hfull, ef, ph_vac, nI_clamp (by omega), eaE]
    have eSm : pm_tkS F S kept μ = if ph_B (ph_scE F kept σ) 4 a = 0 then pm_sA (pm_tkE F kept μ) 3 (φ a) (-1) else pm_sA (pm_st S (pm_tkE F kept μ) (φ a)) 3 (φ a) (-1) := by
      rw [pm_tkS, efr, if_pos hfull, eB, pm_tkV, hdi]
    have hcl : (nI f).toNatClampNeg = f := nI_clamp (by omega)
    have hne1 : ¬ nI f = -1 := nI_ne_m1 (by omega)
    have hcf : ph_cf (va_up (ph_R σ 0) f none) F = ph_cf (ph_R σ 0) F + 1 := by
      have := cf_up (ph_R σ 0) hf none
      rw [if_neg (hall f hf), if_pos rfl] at this
      omega
    rw [eNc, eNm, eSc, eSm]
    refine ⟨etk, rfl, ?_, hf, ?_⟩
    · refine key ?_
      split
      · rename_i h4
        exact R_evict hE hF hf eaE h4 huE
      · obtain ⟨s1, s2, s3, s4, s5, s6, s7, s8, -⟩ := q3
        exact R_evict q2 hF hf (by rw [s1]; exact eaE) (by rw [s6, up_eq]) (by rw [s8]; exact huE)
    · have hi2 : ph_I (ph_scE F kept σ) 2 = ph_I σ 2 := r4
      split
      · rename_i h4
        refine ⟨?_, huE, ?_, x1, ⟨?_, ?_, ?_, ?_, ?_⟩, ?_⟩
        · rw [ph_vac2, hcl]
          show va_up (ph_R (ph_scE F kept σ) 0) f none f = none
          rw [up_eq]
        · show pm_A (pm_tkE F kept μ) 8 f = 0
          exact x2
        · show ph_R (ph_scE F kept σ) 2 = _
          rw [hRE]
        · show ph_B (ph_scE F kept σ) 0 = _
          rw [hBE]
        · show ph_B (ph_scE F kept σ) 3 = _
          rw [hBE]
        · intro b hb
          show va_up (ph_B (ph_scE F kept σ) 1) a (-1) b = _ ∧ ph_B (ph_scE F kept σ) 2 b = _
          rw [hBE]
          refine ⟨up_ne _ _ (fun z => ?_), rfl⟩
          rw [z, ha.2] at hb
          rcases hb with hb | hb
          · exact hne1 hb
          · exact x1 hb
        · rw [ph_vac2, hcl]
          show _ ≤ ph_cf (va_up (ph_R (ph_scE F kept σ) 0) f none) F + ph_cf (ph_R (ph_scE F kept σ) 1) S
          rw [hRE, hcf]; omega
        · show ph_I (ph_scE F kept σ) 2 + 1 = _
          rw [hi2]
      · obtain ⟨s1, s2, s3, s4, s5, s6, ⟨t, ht, s7⟩, s8, s9, s10, s11⟩ := q3
        refine ⟨?_, ?_, ?_, x1, ⟨?_, ?_, ?_, ?_, ?_⟩, ?_⟩
        · rw [ph_vac2, hcl]
          show va_up (ph_R (ph_st F S (ph_scE F kept σ) a) 0) f none f = none
          rw [up_eq]
        · show ph_A (ph_st F S (ph_scE F kept σ) a) 2 f = 0
          rw [s8]; exact huE
        · show pm_A (pm_st S (pm_tkE F kept μ) (φ a)) 8 f = 0
          have := (q2.U f hf).2 (by rw [s1, eaE]; simp)
          rw [this, s8]; exact huE
        · show ph_R (ph_st F S (ph_scE F kept σ) a) 2 = _
          rw [s2, hRE]
        · show ph_B (ph_st F S (ph_scE F kept σ) a) 0 = _
          rw [s3, hBE]
        · show ph_B (ph_st F S (ph_scE F kept σ) a) 3 = _
          rw [s5, hBE]
        · intro b hb
          show va_up (ph_B (ph_st F S (ph_scE F kept σ) a) 1) a (-1) b = _ ∧ ph_B (ph_st F S (ph_scE F kept σ) a) 2 b = _
          have hba : ¬ b = a := fun z => by
            rw [z, ha.2] at hb
            rcases hb with hb | hb
            · exact hne1 hb
            · exact x1 hb
          rw [up_ne _ _ hba, s4, s7, up_ne _ _ hba, hBE]
          exact ⟨rfl, rfl⟩
        · rw [ph_vac2, hcl]
          show _ ≤ ph_cf (va_up (ph_R (ph_st F S (ph_scE F kept σ) a) 0) f none) F + ph_cf (ph_R (ph_st F S (ph_scE F kept σ) a) 1) S
          rw [hRE] at s1 s11
          rw [s1, hcf]
          split at s11 <;> omega
        · show ph_I (ph_st F S (ph_scE F kept σ) a) 2 + 1 = _
          rw [s10, hi2]
  · obtain ⟨f, hf, ef, efn⟩ := lf_some (by omega) hfull
    have hne : ¬ pm_fr F (pm_tk0 μ) = -1 := by rw [efr]; exact hfull
    have eNc : ph_tkN F S kept σ = f := by rw [ph_tkN, ph_tkF, if_neg hfull, ef, nI_clamp (by omega)]
    have eNm : pm_tkN F S kept μ = f := by rw [pm_tkN, pm_tkF, if_neg hne, efr, ef, nI_clamp (by omega)]
    have eSc : ph_tkS F S kept σ = ph_tk1 σ := by rw [ph_tkS, if_neg hfull]
    have eSm : pm_tkS F S kept μ = pm_sA (pm_tk0 μ) 8 f 0 := by rw [pm_tkS, if_neg hne, efr, ef, nI_clamp (by omega)]
    have hu := (h.U f hf).1 efn
    rw [eNc, eNm, eSc, eSm]
    refine ⟨⟨hok.1, n1, ⟨j, hj, n3.trans ej⟩, fun z => absurd z hne⟩, rfl, ?_, hf, efn, hu, ?_, ?_, ⟨rfl, rfl, rfl, fun _ _ => ⟨rfl, rfl⟩, Nat.le_refl _⟩, rfl⟩
    · refine key ⟨h1.N, h1.P, h1.W, ?_, h1.K, h1.V, h1.Cf, h1.Cs⟩
      show pr_U F (ph_A σ 2) (va_up (pm_A μ 8) f 0) (ph_R σ 0)
      intro g hg
      by_cases eg : g = f
      · subst eg; exact ⟨fun _ => hu, fun z => absurd efn z⟩
      · rw [up_ne _ _ eg]; exact h.U g hg
    · show va_up (pm_A μ 8) f 0 f = 0
      rw [up_eq]
    · rcases hkept with hk | ⟨g, hg, hk, hgn⟩
      · rw [hk]; exact nI_ne_m1 (by omega)
      · intro z
        rw [hk] at z
        have := (nI_eq (by omega) (by omega)).mp z
        rw [this] at efn
        exact hgn efn
theorem R_bring (h : pr_R F S c φ σ μ) (hok : ph_ok F S σ) {a f : Nat} (hf : f < F) (efn : ph_R σ 0 f = none) (hu : pm_A μ 8 f = 0) (ha : pr_lv (ph_R σ 2) a) (h1 : ph_B σ 1 a = -1) :
    (∃ t, t < S ∧ ph_B σ 2 a = nI t ∧ pm_A μ 4 (φ a) = nI t ∧ pr_R F S c φ (ph_br F S σ a f) (pm_br1 μ (φ a) f t)) ∧ ph_B (ph_br F S σ a f) 1 = va_up (ph_B σ 1) a (nI f) ∧ ph_R (ph_br F S σ a f) 0 = va_up (ph_R σ 0) f (some a) ∧ ph_R (ph_br F S σ a f) 1 = ph_R σ 1 ∧ ph_R (ph_br F S σ a f) 2 = ph_R σ 2 ∧ ph_B (ph_br F S σ a f) 0 = ph_B σ 0 ∧ ph_B (ph_br F S σ a f) 3 = ph_B σ 3 ∧ ph_I (ph_br F S σ a f) 2 = ph_I σ 2 := by
  have hF := hok.F16
  have hS := hok.S64
  obtain ⟨v1, v2, v3, v4, v5, v6, v7⟩ := h.V a ha
  obtain ⟨h4, h2⟩ := v6 h1
  rcases v5 with v5 | ⟨t, ht, et⟩
  · exact absurd v5 h2
  have eC : ph_br F S σ a f = ph_br2 (ph_fA (ph_lay σ a f) 0 (va_cpy (ph_A σ 1) (ph_A σ 0) (16 * t) (16 * f) 16)) := by
    have h1 : ph_has S (nI t) = 1 := ph_has_t ht (by omega)
    have h2 : ph_has F (nI f) = 1 := ph_has_t hf (by omega)
    rw [ph_br, ph_cpy, h2, if_neg (by decide), show ph_B (ph_lay σ a f) 2 a = nI t from et, h1, if_neg (by decide), mul16, mul16, nI_clamp (by omega), nI_clamp (by omega)]
    rfl
  have hus : ph_A σ 2 f = 0 := (h.U f hf).1 efn
  rw [eC]
  refine ⟨⟨t, ht, et, v2.trans et, ?_⟩, rfl, rfl, rfl, rfl, rfl, rfl, rfl⟩
  obtain ⟨n1, n2, n3, n4, n5, n6, n7⟩ := h.N
  refine ⟨⟨n1, n2, n3, n4, n5, congrArg (· + 1) n6, n7⟩, h.P, ⟨?_, h.W.2⟩, ?_, h.K, ?_, ?_, h.Cs⟩
  · show ∀ j, j < 16 * F → va_cpy (pm_A μ 7) (pm_A μ 6) (16 * t) (16 * f) 16 j = va_cpy (ph_A σ 1) (ph_A σ 0) (16 * t) (16 * f) 16 j
    exact cpy_eq h.W.2 h.W.1 ht
  · show pr_U F (ph_A σ 2) (pm_A μ 8) (va_up (ph_R σ 0) f (some a))
    intro g hg
    by_cases eg : g = f
    · subst eg; rw [up_eq]; exact ⟨fun z => absurd z (by simp), fun _ => hu.trans hus.symm⟩
    · rw [up_ne _ _ eg]; exact h.U g hg
  · show pr_V F S φ (ph_R σ 2) (va_up (ph_B σ 1) a (nI f)) (ph_B σ 2) (ph_B σ 4) (va_up (pm_A μ 3) (φ a) (nI f)) (pm_A μ 4) (va_up (pm_A μ 5) (φ a) 0)
    intro a' ha'
    by_cases ea : a' = a
    · subst ea
      rw [up_eq, up_eq, up_eq]
      have hne : ¬ nI f = -1 := nI_ne_m1 (by omega)
      exact ⟨rfl, v2, h4.symm, Or.inr ⟨f, hf, rfl⟩, Or.inr ⟨t, ht, et⟩, fun z => absurd z hne, fun _ z => absurd z h2⟩
    · have hn : ¬ φ a' = φ a := fun z => ea (h.inj ha' ha z)
      rw [up_ne _ _ ea, up_ne _ _ hn, up_ne _ _ hn]
      exact h.V a' ha'
  · show pr_C F (ph_R σ 2) (va_up (ph_B σ 1) a (nI f)) (va_up (ph_R σ 0) f (some a))
    intro g a' hg
    by_cases eg : g = f
    · subst eg
      rw [up_eq]
      constructor
      · intro z
        rw [← Option.some.inj z, up_eq]; exact ⟨ha, rfl⟩
      · rintro ⟨z1, z2⟩
        by_cases ea : a' = a
        · rw [ea]
        · rw [up_ne _ _ ea] at z2
          have := (h.Cf g a' hg).mpr ⟨z1, z2⟩
          rw [efn] at this; exact absurd this (by simp)
    · rw [up_ne _ _ eg, h.Cf g a' hg]
      by_cases ea : a' = a
      · subst ea
        rw [up_eq]
        constructor
        · rintro ⟨-, z2⟩
          rw [h1] at z2; exact absurd z2.symm (nI_ne_m1 (by omega))
        · rintro ⟨-, z2⟩
          exact absurd ((nI_eq (by omega) (by omega)).mp z2).symm eg
      · rw [up_ne _ _ ea]
end TAKE
