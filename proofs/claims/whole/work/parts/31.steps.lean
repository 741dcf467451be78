theorem up_eq {α : Type} (f : Nat → α) (k : Nat) (v : α) : va_up f k v k = v := by simp [va_up]
theorem up_ne {α : Type} (f : Nat → α) {k j : Nat} (v : α) (h : ¬ j = k) : va_up f k v j = f j := by simp [va_up, h]
theorem cpy_eq {α : Type} {A A' D D' : Nat → α} {N M f t : Nat} (hA : ∀ j, j < 16 * N → A j = A' j) (hD : ∀ j, j < M → D j = D' j) (hf : f < N) : ∀ j, j < M → va_cpy A D (16 * f) (16 * t) 16 j = va_cpy A' D' (16 * f) (16 * t) 16 j := by
  intro j hj
  simp only [va_cpy]
  split
  · exact hA _ (by omega)
  · exact hD _ hj
theorem cf_up (r : Nat → Option Nat) {t N : Nat} (ht : t < N) (v : Option Nat) : ph_cf (va_up r t v) N + (if r t = none then 1 else 0) = ph_cf r N + (if v = none then 1 else 0) := by
  have h := cN_at (f := fun i => (va_up r t v i).isNone) (g := fun i => (r i).isNone) (k := t) (fun i hi => by simp [va_up, hi]) N
  simp only [ht, true_and, up_eq, Option.isNone_iff_eq_none] at h
  exact h
section STEPS
variable {F S : Nat} {c : Int32} {φ : Nat → Nat} {σ : ph_S} {μ : pm_S}
theorem st_case (h : pr_R F S c φ σ μ) (hok : ph_ok F S σ) {a f : Nat} (ha : pr_lv (ph_R σ 2) a) (hf : f < F) (e1 : ph_B σ 1 a = nI f) (hfree : ph_B σ 2 a = -1 → ∃ s, s < S ∧ ph_R σ 1 s = none) :
    pm_stOK S μ (φ a) ∧ ∃ t τ, t < S ∧ ((ph_R σ 1 t = none ∧ ph_B σ 2 a = -1) ∨ (ph_R σ 1 t = some a ∧ ph_B σ 2 a = nI t)) ∧
      ph_st F S σ a = ph_st4 (ph_fA (ph_sR (ph_sB σ 2 a (nI t)) 1 t (some a)) 1 (va_cpy (ph_A σ 0) (ph_A σ 1) (16 * f) (16 * t) 16)) a ∧
      pm_st S μ (φ a) = pm_st3 (pm_fA τ 7 (va_cpy (pm_A τ 6) (pm_A τ 7) (16 * f) (16 * t) 16)) (φ a) ∧ pm_I τ = pm_I μ ∧ (∀ k, k ≠ 4 → pm_A τ k = pm_A μ k) ∧ (∀ j, pm_A τ 4 j = if j = φ a then nI t else pm_A μ 4 j) := by
  have hF := hok.F16
  have hS := hok.S64
  obtain ⟨v1, v2, v3, -⟩ := h.V a ha
  have cls : ∀ t, t < S → ph_st2 F S σ a (nI t) = ph_st4 (ph_fA (ph_sR (ph_sB σ 2 a (nI t)) 1 t (some a)) 1 (va_cpy (ph_A σ 0) (ph_A σ 1) (16 * f) (16 * t) 16)) a := by
    intro t ht
    have h1 : ph_has S (nI t) = 1 := ph_has_t ht (by omega)
    have h2 : ph_has F (nI f) = 1 := ph_has_t hf (by omega)
    rw [ph_st2, h1, if_neg (by decide), nI_clamp (by omega), ph_st3, ph_cpy, h1, if_neg (by decide)]
    rw [show ph_B (ph_sR (ph_sB σ 2 a (nI t)) 1 t (some a)) 1 a = nI f from e1, h2, if_neg (by decide), mul16, mul16, nI_clamp (by omega), nI_clamp (by omega)]
    rfl
  by_cases h2 : ph_B σ 2 a = -1
  · obtain ⟨s, hs, es⟩ := hfree h2
    obtain ⟨n1, n2, n3⟩ := R_ns h hS hs es
    have m2 : pm_A μ 4 (φ a) = -1 := v2.trans h2
    refine ⟨⟨⟨f, by omega, v1.trans e1⟩, Or.inl ⟨m2, n1, R_sf_n h n1 n3⟩⟩, pm_ns S μ, pm_sA μ 4 (φ a) (nI (pm_ns S μ)), n1, Or.inl ⟨n3, h2⟩, ?_, ?_, rfl, ?_, ?_⟩
    · rw [ph_st, if_pos h2, n2]; exact cls _ n1
    · rw [pm_st, pm_st1, if_pos m2, pm_stT, if_pos m2, v1.trans e1, nI_clamp (by omega)]; rfl
    · intro k hk
      funext j
      rw [pA_sA, if_neg (by omega)]
    · intro j
      rw [pA_sA]; simp
  · rcases hok.se (hok.refs 2 _ a ha.choose_spec.2) with h3 | ⟨t, ht, h3⟩
    · exact absurd h3 h2
    · have m2 : pm_A μ 4 (φ a) = nI t := v2.trans h3
      have m3 : ¬ pm_A μ 4 (φ a) = -1 := by rw [m2]; exact nI_ne_m1 (by omega)
      refine ⟨⟨⟨f, by omega, v1.trans e1⟩, Or.inr ⟨t, by omega, m2⟩⟩, t, μ, ht, Or.inr ⟨(h.Cs t a ht).mpr ⟨ha, h3⟩, h3⟩, ?_, ?_, rfl, fun k _ => rfl, ?_⟩
      · rw [ph_st, if_neg h2, h3]; exact cls _ ht
      · rw [pm_st, pm_st1, if_neg m3, pm_stT, if_neg m3, v1.trans e1, m2, nI_clamp (by omega), nI_clamp (by omega)]; rfl
      · intro j
        by_cases hj : j = φ a
        · rw [if_pos hj, hj, m2]
        · rw [if_neg hj]
/-- what a storing changes in the class -/
def st_eff (F S : Nat) (σ σ' : ph_S) (a : Nat) : Prop :=
  ph_R σ' 0 = ph_R σ 0 ∧ ph_R σ' 2 = ph_R σ 2 ∧ ph_B σ' 0 = ph_B σ 0 ∧ ph_B σ' 1 = ph_B σ 1 ∧ ph_B σ' 3 = ph_B σ 3 ∧ ph_B σ' 4 = va_up (ph_B σ 4) a 0 ∧ (∃ t, t < S ∧ ph_B σ' 2 = va_up (ph_B σ 2) a (nI t)) ∧
  ph_A σ' 2 = ph_A σ 2 ∧ ph_I σ' 0 = ph_I σ 0 ∧ ph_I σ' 2 = ph_I σ 2 ∧ ph_cf (ph_R σ' 1) S + (if ph_B σ 2 a = -1 then 1 else 0) = ph_cf (ph_R σ 1) S
theorem R_store (h : pr_R F S c φ σ μ) (hok : ph_ok F S σ) {a f : Nat} (ha : pr_lv (ph_R σ 2) a) (hf : f < F) (e1 : ph_B σ 1 a = nI f) (hfree : ph_B σ 2 a = -1 → ∃ s, s < S ∧ ph_R σ 1 s = none) :
    pm_stOK S μ (φ a) ∧ pr_R F S c φ (ph_st F S σ a) (pm_st S μ (φ a)) ∧ st_eff F S σ (ph_st F S σ a) a := by
  have hF := hok.F16
  have hS := hok.S64
  obtain ⟨hst, t, τ, ht, hsc, eC, eM, hI, hA, h4⟩ := st_case h hok ha hf e1 hfree
  refine ⟨hst, ?_, ?_⟩
  · rw [eC, eM]
    obtain ⟨n1, n2, n3, n4, n5, n6, n7, n8⟩ := h.N
    refine ⟨⟨(congrFun hI 1).trans n1, (congrFun hI 2).trans n2, (congrFun hI 3).trans n3, (congrFun hI 4).trans n4, (congrFun hI 5).trans n5, (congrFun hI 6).trans n6, ?_, (congrFun hI 8).trans n8⟩, ?_, ⟨?_, ?_⟩, ?_, ?_, ?_, ?_, ?_⟩
    · exact congrArg (· + 1) ((congrFun hI 7).trans n7)
    · show pr_P (ph_A σ 3) (pm_A τ 0) (ph_R σ 2)
      rw [hA 0 (by decide)]; exact h.P
    · intro j hj
      exact (congrFun (hA 6 (by decide)) j).trans (h.W.1 j hj)
    · show ∀ j, j < 16 * S → va_cpy (pm_A τ 6) (pm_A τ 7) (16 * f) (16 * t) 16 j = va_cpy (ph_A σ 0) (ph_A σ 1) (16 * f) (16 * t) 16 j
      rw [hA 6 (by decide), hA 7 (by decide)]
      exact cpy_eq h.W.1 h.W.2 hf
    · show pr_U F (ph_A σ 2) (pm_A τ 8) (ph_R σ 0)
      rw [hA 8 (by decide)]; exact h.U
    · show pr_K φ (ph_R σ 2) (ph_B σ 0) (ph_B σ 3) (pm_A τ 1) (pm_A τ 2)
      rw [hA 1 (by decide), hA 2 (by decide)]; exact h.K
    · show pr_V F S φ (ph_R σ 2) (ph_B σ 1) (va_up (ph_B σ 2) a (nI t)) (va_up (ph_B σ 4) a 0) (pm_A τ 3) (pm_A τ 4) (va_up (pm_A τ 5) (φ a) 0)
      rw [hA 3 (by decide), hA 5 (by decide)]
      intro a' ha'
      obtain ⟨v1, v2, v3, v4, v5, v6, v7⟩ := h.V a' ha'
      by_cases e : a' = a
      · subst e
        rw [up_eq, up_eq, up_eq, h4, if_pos rfl]
        have hne : ¬ nI t = -1 := nI_ne_m1 (by omega)
        exact ⟨v1, rfl, rfl, v4, Or.inr ⟨t, ht, rfl⟩, fun z => ⟨rfl, hne⟩, fun _ z => absurd z hne⟩
      · have hn : ¬ φ a' = φ a := fun z => e (h.inj ha' ha z)
        rw [up_ne _ _ e, up_ne _ _ e, up_ne _ _ hn, h4, if_neg hn]
        exact ⟨v1, v2, v3, v4, v5, v6, v7⟩
    · exact h.Cf
    · show pr_C S (ph_R σ 2) (va_up (ph_B σ 2) a (nI t)) (va_up (ph_R σ 1) t (some a))
      intro s a' hs
      by_cases es : s = t
      · subst es
        rw [up_eq]
        constructor
        · intro z
          rw [← Option.some.inj z, up_eq]; exact ⟨ha, rfl⟩
        · rintro ⟨z1, z2⟩
          by_cases e : a' = a
          · rw [e]
          · rw [up_ne _ _ e] at z2
            have := (h.Cs s a' hs).mpr ⟨z1, z2⟩
            rcases hsc with ⟨y, -⟩ | ⟨y, -⟩
            · rw [y] at this; exact absurd this (by simp)
            · rw [y] at this; exact this
      · rw [up_ne _ _ es, h.Cs s a' hs]
        by_cases e : a' = a
        · subst e
          rw [up_eq]
          constructor
          · rintro ⟨z1, z2⟩
            rcases hsc with ⟨-, y⟩ | ⟨-, y⟩
            · rw [y] at z2; exact absurd z2.symm (nI_ne_m1 (by omega))
            · rw [y] at z2; exact absurd ((nI_eq (by omega) (by omega)).mp z2).symm es
          · rintro ⟨z1, z2⟩
            exact absurd ((nI_eq (by omega) (by omega)).mp z2).symm es
        · rw [up_ne _ _ e]
  · rw [eC]
    refine ⟨rfl, rfl, rfl, rfl, rfl, rfl, ⟨t, ht, rfl⟩, rfl, rfl, rfl, ?_⟩
    have hc := cf_up (ph_R σ 1) ht (some a)
    rw [if_neg (by simp : ¬ some a = none), Nat.add_zero] at hc
    rw [← hc]
    show ph_cf (va_up (ph_R σ 1) t (some a)) S + _ = _
    rcases hsc with ⟨y, y2⟩ | ⟨y, y2⟩
    · rw [if_pos y2, if_pos y]
    · rw [if_neg (by rw [y2]; exact nI_ne_m1 (by omega)), if_neg (by rw [y]; simp)]
/-- the second chance -/
theorem hn_bh (hF2 : 2 ≤ F) (hF : F ≤ 16) {j : Nat} (e1 : pm_I μ 1 = nI F) (e3 : pm_I μ 3 = nI j) (hj : j < F) : pm_hn μ = ph_bh F (nI j) := by
  unfold pm_hn ph_bh
  rw [e1, e3, nI_1, pk_rem (by omega) (by omega) (by omega)]
  by_cases h : F ≤ j + 1
  · rw [if_pos (nI_le h (by omega))]
    have : j + 1 = F := by omega
    rw [this, Nat.mod_self]; rfl
  · rw [if_neg (nI_ge (by omega) (by omega)), Nat.mod_eq_of_lt (by omega)]
theorem R_scS (h : pr_R F S c φ σ μ) (hok : ph_ok F S σ) : pr_R F S c φ (ph_scS F σ) (pm_scS μ) := by
  obtain ⟨n1, n2, n3, n4⟩ := h.N
  obtain ⟨j, hj, ej⟩ := hok.hand
  have e : pm_hn μ = ph_bh F (ph_I σ 0) := by rw [ej]; exact hn_bh hok.F2 hok.F16 n1 (n3.trans ej) hj
  exact ⟨⟨n1, n2, e, n4⟩, h.2⟩
theorem R_sc0 (h : pr_R F S c φ σ μ) (j : Nat) : pr_R F S c φ (ph_sA σ 2 j 0) (pm_sA μ 8 j 0) := by
  refine ⟨h.N, h.P, h.W, ?_, h.K, h.V, h.Cf, h.Cs⟩
  show pr_U F (va_up (ph_A σ 2) j 0) (va_up (pm_A μ 8) j 0) (ph_R σ 0)
  intro f hf
  by_cases e : f = j
  · subst e; rw [up_eq, up_eq]; exact ⟨fun _ => rfl, fun _ => rfl⟩
  · rw [up_ne _ _ e, up_ne _ _ e]; exact h.U f hf
theorem R_scG {kept : Int32} : ∀ (n : Nat) {σ : ph_S} {μ : pm_S}, pr_R F S c φ σ μ → ph_ok F S σ → (∀ f, f < F → ¬ ph_R σ 0 f = none) → pr_R F S c φ (ph_scG F kept n σ) (pm_scG kept n μ) ∧ ph_R (ph_scG F kept n σ) = ph_R σ ∧ ph_B (ph_scG F kept n σ) = ph_B σ ∧ ph_I (ph_scG F kept n σ) 2 = ph_I σ 2
  | 0, σ, μ, h, _, _ => ⟨h, rfl, rfl, rfl⟩
  | n + 1, σ, μ, h, hok, hfull => by
    obtain ⟨n1, n2, n3, n4⟩ := h.N
    obtain ⟨j, hj, ej⟩ := hok.hand
    have hF := hok.F16
    have hu := (h.U j hj).2 (hfull j hj)
    unfold ph_scG pm_scG
    rw [n3, ej, nI_clamp (by omega), hu]
    by_cases h1 : nI j = kept
    · rw [if_pos h1, if_pos h1]
      exact R_scG n (R_scS h hok) (ok_scS hok) hfull
    · rw [if_neg h1, if_neg h1]
      by_cases h2 : ph_A σ 2 j = 0
      · rw [if_pos h2, if_pos h2]; exact ⟨h, rfl, rfl, rfl⟩
      · rw [if_neg h2, if_neg h2]
        exact R_scG n (R_scS (R_sc0 h j) (ok_us hok j (Or.inl rfl))) (ok_scS (ok_us hok j (Or.inl rfl))) hfull
theorem hn_nx (hF2 : 2 ≤ F) (hF : F ≤ 16) {j : Nat} (e1 : pm_I μ 1 = nI F) (e3 : pm_I μ 3 = nI j) (hj : j < F) : pm_hn μ = nI (if j + 1 = F then 0 else j + 1) := by
  rw [hn_bh hF2 hF e1 e3 hj]
  unfold ph_bh
  rw [nI_1]
  by_cases h : j + 1 = F
  · rw [if_pos h, if_pos (by rw [h]; exact nI_le (Nat.le_refl _) (by omega))]; rfl
  · rw [if_neg h, if_neg (nI_ge (by omega) (by omega))]
theorem scX_A (hF2 : 2 ≤ F) (hF : F ≤ 16) {kept : Int32} : ∀ (n d : Nat) {μ : pm_S} {j t : Nat}, pm_I μ 1 = nI F → pm_I μ 3 = nI j → j < F → t < F → d ≤ n → (j + d = t ∨ j + d = t + F) → ¬ nI t = kept → pm_A μ 8 t = 0 → pm_scX kept (pm_scG kept n μ)
  | 0, d, μ, j, t, e1, e3, hj, ht, hd, hjt, hk, hu => by
    have : j = t := by omega
    subst this
    exact ⟨by rw [pm_scG, e3]; exact hk, by rw [pm_scG, e3, nI_clamp (by omega)]; exact hu⟩
  | n + 1, d, μ, j, t, e1, e3, hj, ht, hd, hjt, hk, hu => by
    unfold pm_scG
    rw [e3, nI_clamp (by omega)]
    by_cases hjt0 : j = t
    · subst hjt0
      rw [if_neg hk, if_pos hu]
      exact ⟨by rw [e3]; exact hk, by rw [e3, nI_clamp (by omega)]; exact hu⟩
    · have hd1 : ∃ d', d = d' + 1 := ⟨d - 1, by omega⟩
      obtain ⟨d', rfl⟩ := hd1
      have hx : ∀ τ : pm_S, pm_I τ 1 = nI F → pm_I τ 3 = nI j → pm_A τ 8 t = 0 → pm_scX kept (pm_scG kept n (pm_scS τ)) := by
        intro τ t1 t3 tu
        by_cases hw : j + 1 = F
        · refine scX_A hF2 hF n d' (μ := pm_scS τ) (j := 0) (t := t) t1 ?_ (by omega) ht (by omega) (by omega) hk tu
          show pm_hn τ = nI 0
          rw [hn_nx hF2 hF t1 t3 hj, if_pos hw]
        · refine scX_A hF2 hF n d' (μ := pm_scS τ) (j := j + 1) (t := t) t1 ?_ (by omega) ht (by omega) (by omega) hk tu
          show pm_hn τ = nI (j + 1)
          rw [hn_nx hF2 hF t1 t3 hj, if_neg hw]
      by_cases h1 : nI j = kept
      · rw [if_pos h1]; exact hx μ e1 e3 hu
      · rw [if_neg h1]
        by_cases h2 : pm_A μ 8 j = 0
        · rw [if_pos h2]; exact ⟨by rw [e3]; exact h1, by rw [e3, nI_clamp (by omega)]; exact h2⟩
        · rw [if_neg h2]
          exact hx (pm_sA μ 8 j 0) e1 e3 (by rw [pA_sA]; split; rfl; exact hu)
theorem scX_B (hF2 : 2 ≤ F) (hF : F ≤ 16) {kept : Int32} {n : Nat} {j : Nat} (e1 : pm_I μ 1 = nI F) (e3 : pm_I μ 3 = nI j) (hj : j < F) (hn : F ≤ n) (hk : ¬ nI j = kept) : pm_scX kept (pm_scG kept n μ) := by
  obtain ⟨n', rfl⟩ : ∃ n', n = n' + 1 := ⟨n - 1, by omega⟩
  unfold pm_scG
  rw [e3, nI_clamp (by omega), if_neg hk]
  by_cases h2 : pm_A μ 8 j = 0
  · rw [if_pos h2]; exact ⟨by rw [e3]; exact hk, by rw [e3, nI_clamp (by omega)]; exact h2⟩
  · rw [if_neg h2]
    have hu : pm_A (pm_sA μ 8 j 0) 8 j = 0 := by rw [pA_sA, if_pos ⟨rfl, rfl⟩]
    by_cases hw : j + 1 = F
    · refine scX_A hF2 hF n' (F - 1) (μ := pm_scS (pm_sA μ 8 j 0)) (j := 0) (t := j) e1 ?_ (by omega) hj (by omega) (by omega) hk hu
      show pm_hn (pm_sA μ 8 j 0) = nI 0
      rw [hn_nx hF2 hF (μ := pm_sA μ 8 j 0) e1 e3 hj, if_pos hw]
    · refine scX_A hF2 hF n' (F - 1) (μ := pm_scS (pm_sA μ 8 j 0)) (j := j + 1) (t := j) e1 ?_ (by omega) hj (by omega) (by omega) hk hu
      show pm_hn (pm_sA μ 8 j 0) = nI (j + 1)
      rw [hn_nx hF2 hF (μ := pm_sA μ 8 j 0) e1 e3 hj, if_neg hw]
theorem scX_C (hF2 : 2 ≤ F) (hF : F ≤ 16) {kept : Int32} {j : Nat} (e1 : pm_I μ 1 = nI F) (e3 : pm_I μ 3 = nI j) (hj : j < F) : pm_scX kept (pm_scG kept (2 * F) μ) := by
  by_cases hk : nI j = kept
  · obtain ⟨n', hn⟩ : ∃ n', 2 * F = n' + 1 := ⟨2 * F - 1, by omega⟩
    rw [hn]
    unfold pm_scG
    rw [e3, if_pos hk]
    by_cases hw : j + 1 = F
    · refine scX_B hF2 hF (μ := pm_scS μ) (j := 0) e1 ?_ (by omega) (by omega) ?_
      · show pm_hn μ = nI 0
        rw [hn_nx hF2 hF e1 e3 hj, if_pos hw]
      · rw [← hk]; intro z
        have := (nI_eq (by omega) (by omega)).mp z
        omega
    · refine scX_B hF2 hF (μ := pm_scS μ) (j := j + 1) e1 ?_ (by omega) (by omega) ?_
      · show pm_hn μ = nI (j + 1)
        rw [hn_nx hF2 hF e1 e3 hj, if_neg hw]
      · rw [← hk]; intro z
        have := (nI_eq (by omega) (by omega)).mp z
        omega
  · exact scX_B hF2 hF e1 e3 hj (by omega) hk
theorem R_evict (h : pr_R F S c φ σ μ) (hF : F ≤ 16) {a f : Nat} (hf : f < F) (e : ph_R σ 0 f = some a) (h4 : ph_B σ 4 a = 0) (hu : ph_A σ 2 f = 0) : pr_R F S c φ (ph_vac2 σ a (nI f)) (pm_sA μ 3 (φ a) (-1)) := by
  obtain ⟨ha, e1⟩ := (h.Cf f a hf).mp e
  have hc : (nI f).toNatClampNeg = f := nI_clamp (by omega)
  rw [ph_vac2, hc]
  refine ⟨h.N, h.P, h.W, ?_, h.K, ?_, ?_, h.Cs⟩
  · show pr_U F (ph_A σ 2) (pm_A μ 8) (va_up (ph_R σ 0) f none)
    intro g hg
    by_cases eg : g = f
    · subst eg; rw [up_eq]; exact ⟨fun _ => hu, fun z => absurd rfl z⟩
    · rw [up_ne _ _ eg]; exact h.U g hg
  · show pr_V F S φ (ph_R σ 2) (va_up (ph_B σ 1) a (-1)) (ph_B σ 2) (ph_B σ 4) (va_up (pm_A μ 3) (φ a) (-1)) (pm_A μ 4) (pm_A μ 5)
    intro a' ha'
    obtain ⟨v1, v2, v3, v4, v5, v6, v7⟩ := h.V a' ha'
    by_cases ea : a' = a
    · subst ea
      rw [up_eq, up_eq]
      refine ⟨rfl, v2, v3, Or.inl rfl, v5, fun _ => ⟨h4, fun z => ?_⟩, fun z => absurd rfl z⟩
      exact v7 (by rw [e1]; exact nI_ne_m1 (by omega)) z h4
    · have hn : ¬ φ a' = φ a := fun z => ea (h.inj ha' ha z)
      rw [up_ne _ _ ea, up_ne _ _ hn]
      exact ⟨v1, v2, v3, v4, v5, v6, v7⟩
  · show pr_C F (ph_R σ 2) (va_up (ph_B σ 1) a (-1)) (va_up (ph_R σ 0) f none)
    intro g a' hg
    by_cases ea : a' = a
    · subst ea
      rw [up_eq]
      constructor
      · intro z
        by_cases eg : g = f
        · subst eg; rw [up_eq] at z; exact absurd z (by simp)
        · rw [up_ne _ _ eg] at z
          have := ((h.Cf g a' hg).mp z).2
          rw [e1] at this
          exact absurd ((nI_eq (by omega) (by omega)).mp this).symm eg
      · rintro ⟨-, z⟩
        exact absurd z.symm (nI_ne_m1 (by omega))
    · rw [up_ne _ _ ea]
      by_cases eg : g = f
      · subst eg
        rw [up_eq]
        constructor
        · intro z; exact absurd z (by simp)
        · intro z
          have := (h.Cf g a' hg).mpr z
          rw [e] at this
          exact absurd (Option.some.inj this).symm ea
      · rw [up_ne _ _ eg]; exact h.Cf g a' hg
end STEPS
