section CALLS
variable {F S : Nat} {c : Int32} {φ : Nat → Nat} {σ : ph_S} {μ : pm_S}
theorem sR_self {k j : Nat} {v : Option Nat} (h : ph_R σ k j = v) : ph_sR σ k j v = σ := by
  obtain ⟨a, b, d⟩ := σ
  refine congrArg (fun z => (a, z, d)) ?_
  funext x
  simp only [va_up]
  by_cases hx : x = k
  · subst hx
    rw [if_pos rfl]
    funext y
    by_cases hy : y = j
    · subst hy; rw [up_eq]; exact h.symm
    · rw [up_ne _ _ hy]
  · rw [if_neg hx]
theorem R_bo (h : pr_R F S c φ σ μ) {f : Nat → Int32} (hf : ∀ k, k < 256 → f k = pm_A μ 1 k) : pr_R F S c φ σ (pm_fA μ 1 f) := by
  refine ⟨h.N, h.P, h.W, h.U, ?_, h.V, h.Cf, h.Cs⟩
  show pr_K φ (ph_R σ 2) (ph_B σ 0) (ph_B σ 3) f (pm_A μ 2)
  refine ⟨fun k hk e => (hf k hk).trans (h.K.1 k hk e), fun k a hk e => ?_, h.K.2.2⟩
  obtain ⟨y1, y2, y3⟩ := h.K.2.1 k a hk e
  exact ⟨y1, (hf k hk).trans y2, y3⟩
theorem R_setpn (h : pr_R F S c φ σ μ) {j : Nat} (v : Int32) (hs : ∀ g, g < 32 → ph_R σ 2 (32 * j + g) = none) : pr_R F S c φ (ph_sA σ 3 j v) (pm_sA μ 0 j v) := by
  refine ⟨h.N, ?_, h.W, h.U, h.K, h.V, h.Cf, h.Cs⟩
  show pr_P (va_up (ph_A σ 3) j v) (va_up (pm_A μ 0) j v) (ph_R σ 2)
  refine ⟨fun p hp => ?_, fun p g m hp hg hm e => ?_⟩
  · by_cases ep : p = j
    · subst ep; rw [up_eq, up_eq]
    · rw [up_ne _ _ ep, up_ne _ _ ep]; exact h.P.1 p hp
  · by_cases ep : p = j
    · subst ep; exact hs g hg
    · rw [up_ne _ _ ep] at e; exact h.P.2 p g m hp hg hm e
theorem free_slots (h : pr_R F S c φ σ μ) {j : Nat} (hj : j < 8) (e : ph_A σ 3 j = 0) : ∀ g, g < 32 → ph_R σ 2 (32 * j + g) = none := fun g hg => h.P.2 j g 0 hj hg (by omega) (e.trans rfl)
theorem S_begin (h : pr_R F S c φ σ μ) (hok : ph_ok F S σ) (m : Int32) : pm_bgV μ m = ph_bgV σ m ∧ pr_R F S c φ (ph_bgW σ m) (pm_bgW μ m) ∧ ph_ok F S (ph_bgW σ m) := by
  unfold pm_bgV ph_bgV ph_bgW pm_bgW
  rw [R_lp h]
  by_cases h0 : ph_lp σ = -1
  · simp only [if_pos h0]
    refine ⟨?_, ?_, hok⟩
    · split
      · rfl
      · split <;> rfl
    · split
      · exact h
      · split <;> exact h
  · simp only [if_neg h0]
    by_cases h1 : m < 1
    · simp only [if_pos h1]; exact ⟨trivial, h, hok⟩
    · simp only [if_neg h1]
      by_cases h2 : m ≤ 32
      · simp only [if_neg (Int32.not_lt.mpr h2), if_pos h2]
        obtain ⟨j, hj, ej⟩ := lp_in h0
        rw [ej, nI_clamp (by omega)]
        refine ⟨trivial, R_setpn h m (free_slots h hj (lp_zero ej hj)), ok_pn hok j ?_⟩
        obtain ⟨x, hx, rfl⟩ := nI_of (fun z => h1 (Int32.lt_trans z (by decide)) : ¬ m < 0)
        exact ⟨x, (nI_leI hx (by omega)).mp h2, rfl⟩
      · simp only [if_pos (Int32.not_le.mp h2), if_neg h2]; exact ⟨trivial, h, hok⟩
theorem ok_fkS (hok : ph_ok F S σ) (P Q i : Nat) : ph_ok F S (ph_fkS P Q σ i) := by
  unfold ph_fkS
  split
  · exact ok_sRn hok _ _
  · rename_i a e
    exact ok_ho (ok_sR hok _ _ (hok.refs _ _ _ e)) _ _
theorem fork_loop {τ : pm_S} {P Q m : Nat} (hP : P < 8) (hQ : Q < 8) (hPQ : ¬ P = Q) (hm : m ≤ 32) : ∀ (d i : Nat) (σ : ph_S), i + d = m → pr_R F S c φ σ (pm_fA τ 1 (va_cpy (pm_A τ 1) (pm_A τ 1) (32 * P) (32 * Q) i)) → ph_ok F S σ → (∀ g, i ≤ g → g < 32 → ph_R σ 2 (32 * Q + g) = none) → ph_A σ 3 Q = nI m →
    pr_R F S c φ (ph_fkG P Q d i σ) (pm_fA τ 1 (va_cpy (pm_A τ 1) (pm_A τ 1) (32 * P) (32 * Q) m)) ∧ ph_ok F S (ph_fkG P Q d i σ) ∧ (∀ g, m ≤ g → g < 32 → ph_R (ph_fkG P Q d i σ) 2 (32 * Q + g) = none) ∧ (∀ k, ¬ k / 32 = Q → ph_R (ph_fkG P Q d i σ) 2 k = ph_R σ 2 k) ∧ ph_A (ph_fkG P Q d i σ) 3 = ph_A σ 3 := by
  intro d
  induction d with
  | zero =>
    intro i σ hi hR hok hq hn
    have e : i = m := by omega
    subst e
    exact ⟨hR, hok, hq, fun _ _ => rfl, rfl⟩
  | succ d ih =>
    intro i σ hi hR hok hq hn
    have e1 : P * 32 + i = 32 * P + i := by omega
    have e2 : Q * 32 + i = 32 * Q + i := by omega
    have hv : pm_A (pm_fA τ 1 (va_cpy (pm_A τ 1) (pm_A τ 1) (32 * P) (32 * Q) i)) 1 (32 * P + i) = pm_A τ 1 (32 * P + i) := by
      rw [pA_fA, if_pos rfl, va_cpy, if_neg (by omega)]
    have step : pr_R F S c φ (ph_fkS P Q σ i) (pm_fA τ 1 (va_cpy (pm_A τ 1) (pm_A τ 1) (32 * P) (32 * Q) (i + 1))) ∧ (∀ k, ¬ k = 32 * Q + i → ph_R (ph_fkS P Q σ i) 2 k = ph_R σ 2 k) ∧ ph_A (ph_fkS P Q σ i) 3 = ph_A σ 3 := by
      rw [← cpy_s, ← pm_sA_fA]
      unfold ph_fkS
      rw [e1, e2]
      have hq0 := hq i (by omega) (by omega)
      cases e : ph_R σ 2 (32 * P + i) with
      | none =>
        have := hR.K.1 _ (by omega) e
        rw [hv] at this
        rw [this]
        show pr_R F S c φ (ph_sR σ 2 (32 * Q + i) none) _ ∧ _
        rw [sR_self hq0]
        exact ⟨R_nop hR (by omega) hq0, fun _ _ => rfl, rfl⟩
      | some a =>
        obtain ⟨y1, y2, y3, y4, y5⟩ := hR.K.2.1 _ a (by omega) e
        rw [hv] at y2
        rw [y2]
        refine ⟨R_share hR (by omega) hq0 ⟨_, by omega, e⟩ ?_ ?_, ?_, rfl⟩
        · rw [y4]; congr 1; omega
        · intro m' e' hm'
          rw [show (32 * Q + i) / 32 = Q by omega, hn] at e'
          have := (nI_eq (by omega) (by omega)).mp e'
          omega
        · intro k hk
          show va_up (ph_R σ 2) (32 * Q + i) (some a) k = _
          rw [up_ne _ _ hk]
    obtain ⟨s1, s2, s3⟩ := step
    obtain ⟨t1, t2, t3, t4, t5⟩ := ih (i + 1) (ph_fkS P Q σ i) (by omega) s1 (ok_fkS hok P Q i) (fun g h1 h2 => by rw [s2 _ (by omega)]; exact hq g (by omega) h2) (by rw [s3]; exact hn)
    refine ⟨t1, t2, t3, fun k hk => ?_, t5.trans s3⟩
    rw [show ph_fkG P Q (d + 1) i σ = ph_fkG P Q d (i + 1) (ph_fkS P Q σ i) from rfl, t4 k hk, s2 k (by omega)]
theorem S_fork (h : pr_R F S c φ σ μ) (hok : ph_ok F S σ) (p : Int32) : pm_fkV μ p = ph_fkV σ p ∧ pr_R F S c φ (ph_fkW σ p) (pm_fkW μ p) ∧ ph_ok F S (ph_fkW σ p) := by
  unfold pm_fkV ph_fkV ph_fkW pm_fkW
  rw [R_lp h, R_ip h]
  by_cases h0 : ph_lp σ = -1
  · simp only [if_pos h0]
    refine ⟨?_, ?_, hok⟩
    · split <;> rfl
    · split <;> exact h
  · simp only [if_neg h0]
    by_cases h1 : ph_hp σ p = 0
    · simp only [if_pos h1]; exact ⟨trivial, h, hok⟩
    · simp only [if_neg h1]
      refine ⟨trivial, ?_⟩
      obtain ⟨Q, hQ, eQ⟩ := lp_in h0
      obtain ⟨P, hP, rfl⟩ := vp_in_of (ph_hp_vin h1) (by decide)
      obtain ⟨m, hm, em⟩ := hok.pn hP
      have hz := lp_zero eQ hQ
      have hPQ : ¬ P = Q := fun e => by
        have := (ph_hp_in h1).2.2
        rw [nI_clamp (by omega), e, hz] at this
        exact this (by decide)
      rw [eQ, nI_clamp (by omega), nI_clamp (by omega), em, nI_clamp (by omega), h.P.1 P hP, em]
      have hfs := free_slots h hQ hz
      have hR := R_setpn h (nI m) hfs
      have hok2 : ph_ok F S (ph_sA σ 3 Q (nI m)) := ok_pn hok Q ⟨m, hm, rfl⟩
      have hn : ph_A (ph_sA σ 3 Q (nI m)) 3 Q = nI m := by
        show va_up (ph_A σ 3) Q (nI m) Q = nI m
        rw [up_eq]
      obtain ⟨t1, t2, t3, t4, t5⟩ := fork_loop (τ := pm_sA μ 0 Q (nI m)) hP hQ hPQ hm m 0 (ph_sA σ 3 Q (nI m)) (by omega) (by rw [cpy_0, pm_fA_self]; exact hR) hok2 (fun g _ hg => hfs g hg) hn
      refine ⟨?_, t2⟩
      have hP2 : ph_A (ph_fkG P Q m 0 (ph_sA σ 3 Q (nI m))) 3 P = nI m := by
        rw [t5]
        show va_up (ph_A σ 3) Q (nI m) P = nI m
        rw [up_ne _ _ hPQ, em]
      have := R_bo t1 (f := va_cpy (pm_A (pm_sA μ 0 Q (nI m)) 1) (pm_A (pm_sA μ 0 Q (nI m)) 1) (32 * P) (32 * Q) 32) (fun k hk => by
        rw [pA_fA, if_pos rfl]
        simp only [va_cpy]
        by_cases c1 : 32 * Q ≤ k ∧ k < 32 * Q + m
        · rw [if_pos (by omega), if_pos c1]
        · rw [if_neg c1]
          by_cases c2 : 32 * Q ≤ k ∧ k < 32 * Q + 32
          · rw [if_pos c2]
            have a1 := t1.K.1 (32 * P + (k - 32 * Q)) (by omega) (t1.P.2 P (k - 32 * Q) m hP (by omega) (by omega) hP2)
            have a2 := t1.K.1 k hk (by
              have := t3 (k - 32 * Q) (by omega) (by omega)
              rw [show 32 * Q + (k - 32 * Q) = k by omega] at this
              exact this)
            rw [pA_fA, if_pos rfl] at a1 a2
            simp only [va_cpy] at a1 a2
            rw [if_neg (by omega)] at a1 a2
            rw [a1, a2]
          · rw [if_neg c2])
      have e9 : pm_fA (pm_fA (pm_sA μ 0 Q (nI m)) 1 (va_cpy (pm_A (pm_sA μ 0 Q (nI m)) 1) (pm_A (pm_sA μ 0 Q (nI m)) 1) (32 * P) (32 * Q) m)) 1 (va_cpy (pm_A (pm_sA μ 0 Q (nI m)) 1) (pm_A (pm_sA μ 0 Q (nI m)) 1) (32 * P) (32 * Q) 32) = pm_fk2 (pm_sA μ 0 Q (nI m)) P Q := by
        refine congrArg (fun z => (_, z)) ?_
        funext x
        simp only [va_up, pm_fA]
        by_cases hx : x = 1 <;> simp [hx]
      rw [e9] at this
      exact this
theorem em_eff (F S : Nat) (σ : ph_S) (k : Nat) : ph_R (ph_em F S σ k) 2 = va_up (ph_R σ 2) k none ∧ ph_A (ph_em F S σ k) 3 = ph_A σ 3 := by
  have r2 : ∀ τ : ph_S, ∀ a, ph_R (ph_rel2 S τ a) 2 = ph_R τ 2 ∧ ph_A (ph_rel2 S τ a) 3 = ph_A τ 3 := fun τ a => by
    unfold ph_rel2; split <;> exact ⟨rfl, rfl⟩
  have r1 : ∀ τ : ph_S, ∀ a, ph_R (ph_rel F S τ a) 2 = ph_R τ 2 ∧ ph_A (ph_rel F S τ a) 3 = ph_A τ 3 := fun τ a => by
    unfold ph_rel; split
    · exact r2 τ a
    · exact r2 (ph_rel1 τ a) a
  cases e : ph_R σ 2 k with
  | none =>
    rw [ph_em, e]
    refine ⟨?_, rfl⟩
    funext j
    by_cases hj : j = k
    · rw [hj, up_eq]; exact e
    · rw [up_ne _ _ hj]
  | some a =>
    rw [ph_em, e]
    show ph_R (ph_em2 F S (ph_em1 σ k a) a) 2 = _ ∧ ph_A (ph_em2 F S (ph_em1 σ k a) a) 3 = _
    unfold ph_em2; split
    · exact r1 (ph_em1 σ k a) a
    · exact ⟨rfl, rfl⟩
theorem end_loop {P m : Nat} (hP : P < 8) (hm : m ≤ 32) : ∀ (d i : Nat) (σ : ph_S) (μ : pm_S), i + d = m → pr_R F S c φ σ μ → ph_ok F S σ → (∀ g, g < i → ph_R σ 2 (32 * P + g) = none) →
    pr_R F S c φ (ph_enG F S P d i σ) (pm_enG P d i μ) ∧ ph_ok F S (ph_enG F S P d i σ) ∧ (∀ g, g < m → ph_R (ph_enG F S P d i σ) 2 (32 * P + g) = none) ∧ ph_A (ph_enG F S P d i σ) 3 = ph_A σ 3 := by
  intro d
  induction d with
  | zero =>
    intro i σ μ hi hR hok hs
    have e : i = m := by omega
    subst e
    exact ⟨hR, hok, hs, rfl⟩
  | succ d ih =>
    intro i σ μ hi hR hok hs
    obtain ⟨f1, f2⟩ := em_eff F S σ (32 * P + i)
    obtain ⟨t1, t2, t3, t4⟩ := ih (i + 1) (ph_em F S σ (32 * P + i)) (pm_lv μ (32 * P + i)) (by omega) (R_empty hR hok (by omega)) (ok_em hok) (fun g hg => by
      rw [f1]
      by_cases eg : g = i
      · rw [eg, up_eq]
      · rw [up_ne _ _ (by omega)]; exact hs g (by omega))
    have e1 : P * 32 + i = 32 * P + i := by omega
    refine ⟨?_, ?_, ?_, ?_⟩ <;> unfold ph_enG <;> rw [e1]
    · exact t1
    · exact t2
    · exact t3
    · exact t4.trans f2
theorem end_rest {P : Nat} (hP : P < 8) : ∀ (d i : Nat) (μ : pm_S), i + d = 32 → pr_R F S c φ σ μ → (∀ g, g < 32 → ph_R σ 2 (32 * P + g) = none) → pr_R F S c φ σ (pm_enG P d i μ) := by
  intro d
  induction d with
  | zero => intro i μ _ hR _; exact hR
  | succ d ih =>
    intro i μ hi hR hs
    unfold pm_enG
    have e := hs i (by omega)
    refine ih (i + 1) _ (by omega) ?_ hs
    rw [pm_lv, if_pos (hR.K.1 _ (by omega) e)]
    exact R_nop hR (by omega) e
theorem enG_add (P : Nat) : ∀ (d d' i : Nat) (μ : pm_S), pm_enG P (d + d') i μ = pm_enG P d' (i + d) (pm_enG P d i μ)
  | 0, d', i, μ => by rw [Nat.zero_add, Nat.add_zero]; rfl
  | d + 1, d', i, μ => by
    rw [show d + 1 + d' = (d + d') + 1 by omega, show pm_enG P (d + d' + 1) i μ = pm_enG P (d + d') (i + 1) (pm_lv μ (32 * P + i)) from rfl, enG_add P d d' (i + 1), show i + 1 + d = i + (d + 1) by omega]
    rfl
theorem S_end (h : pr_R F S c φ σ μ) (hok : ph_ok F S σ) (p : Int32) : pm_enV μ p = ph_enV σ p ∧ pr_R F S c φ (ph_enW F S σ p) (pm_enW μ p) ∧ ph_ok F S (ph_enW F S σ p) := by
  unfold pm_enV ph_enV ph_enW pm_enW
  rw [R_ip h]
  by_cases h1 : ph_hp σ p = 0
  · simp only [if_pos h1]; exact ⟨trivial, h, hok⟩
  · simp only [if_neg h1]
    refine ⟨trivial, ?_⟩
    obtain ⟨P, hP, rfl⟩ := vp_in_of (ph_hp_vin h1) (by decide)
    obtain ⟨m, hm, em⟩ := hok.pn hP
    rw [nI_clamp (by omega), em, nI_clamp (by omega)]
    obtain ⟨t1, t2, t3, t4⟩ := end_loop hP hm m 0 σ μ (by omega) h hok (fun g hg => absurd hg (by omega))
    have hall : ∀ g, g < 32 → ph_R (ph_enG F S P m 0 σ) 2 (32 * P + g) = none := by
      intro g hg
      by_cases hgm : g < m
      · exact t3 g hgm
      · exact t1.P.2 P g m hP hg (by omega) (by rw [t4]; exact em)
    refine ⟨?_, ok_pn t2 P ⟨0, by omega, rfl⟩⟩
    have h32 := end_rest hP (32 - m) m _ (by omega) t1 hall
    have e := enG_add P m (32 - m) 0 μ
    rw [show m + (32 - m) = 32 by omega, Nat.zero_add] at e
    rw [e]
    exact R_setpn h32 0 hall
theorem S_drop (h : pr_R F S c φ σ μ) (hok : ph_ok F S σ) (p g : Int32) : pm_drV μ p g = ph_drV σ p g ∧ pr_R F S c φ (ph_drW F S σ p g) (pm_drW μ p g) ∧ ph_ok F S (ph_drW F S σ p g) := by
  unfold pm_drV ph_drV ph_drW pm_drW
  by_cases h1 : pm_ig μ p g = 0
  · have h2 := h1
    rw [R_ig h] at h2
    simp only [if_pos h1, if_pos h2]; exact ⟨trivial, h, hok⟩
  · have h2 := h1
    rw [R_ig h] at h2
    simp only [if_neg h1, if_neg h2]
    obtain ⟨P, G, m, hP, hG, hm, rfl, rfl, em⟩ := ig_nat (R_mok h hok) h1
    have es : pm_sl (nI P) (nI G) = 32 * P + G := by rw [pm_sl, ix32, nI_clamp (by omega)]
    have ec : (nI P * 32 + nI G).toNatClampNeg = 32 * P + G := by rw [slot_eq, nI_clamp (by omega)]; omega
    rw [es, ec]
    have hk : 32 * P + G < 256 := by omega
    cases e : ph_R σ 2 (32 * P + G) with
    | none =>
      rw [h.K.1 _ hk e, if_pos rfl, if_pos rfl, ph_emV, ph_em, e]
      exact ⟨rfl, h, hok⟩
    | some a =>
      obtain ⟨y1, y2, -⟩ := h.K.2.1 _ a hk e
      have hne : ¬ pm_A μ 1 (32 * P + G) = -1 := by rw [y2]; exact nI_ne_m1 (by omega)
      rw [if_neg hne, if_neg hne, ph_emV, e]
      exact ⟨rfl, R_empty h hok hk, ok_em hok⟩
theorem S_page (h : pr_R F S c φ σ μ) (hok : ph_ok F S σ) (p g x : Int32) : pm_pgV μ p g x = ph_pgV σ p g x := by
  unfold pm_pgV ph_pgV
  by_cases h1 : pm_ig μ p g = 0
  · have h2 := h1
    rw [R_ig h] at h2
    rw [if_pos h1, if_pos h2]
  · have h2 := h1
    rw [R_ig h] at h2
    rw [if_neg h1, if_neg h2]
    obtain ⟨P, G, m, hP, hG, hm, rfl, rfl, em⟩ := ig_nat (R_mok h hok) h1
    have es : pm_sl (nI P) (nI G) = 32 * P + G := by rw [pm_sl, ix32, nI_clamp (by omega)]
    have ec : (nI P * 32 + nI G).toNatClampNeg = 32 * P + G := by rw [slot_eq, nI_clamp (by omega)]; omega
    rw [es, ec]
    have hk : 32 * P + G < 256 := by omega
    have hx : x < 0 ∨ ¬ x ≤ 3 ∨ x = 0 ∨ x = 1 ∨ x = 2 ∨ x = 3 := by
      by_cases a1 : x < 0
      · exact Or.inl a1
      · by_cases a2 : x ≤ 3
        · obtain ⟨y, hy, rfl⟩ := nI_of a1
          have := (nI_leI hy (by omega : 3 < 2 ^ 31)).mp a2
          rcases (by omega : y = 0 ∨ y = 1 ∨ y = 2 ∨ y = 3) with rfl | rfl | rfl | rfl <;> simp [nI]
        · exact Or.inr (Or.inl a2)
    have hx2 : ∀ r, x < 0 ∨ ¬ x ≤ 3 → ph_pg2 σ r x = -1 := by
      intro r hr
      have a0 : ¬ x = 0 := fun e => by rw [e] at hr; revert hr; decide
      have a1 : ¬ x = 1 := fun e => by rw [e] at hr; revert hr; decide
      have a2 : ¬ x = 2 := fun e => by rw [e] at hr; revert hr; decide
      have a3 : ¬ x = 3 := fun e => by rw [e] at hr; revert hr; decide
      cases r <;> simp [ph_pg2, a0, a1, a2, a3]
    rcases hx with hx | hx | hx
    · rw [if_pos hx, hx2 _ (Or.inl hx)]
    · rw [hx2 _ (Or.inr hx)]
      split
      · rfl
      · rfl
    · have a1 : ¬ x < 0 := by rcases hx with rfl | rfl | rfl | rfl <;> decide
      have a2 : x ≤ 3 := by rcases hx with rfl | rfl | rfl | rfl <;> decide
      rw [if_neg a1, if_pos a2]
      cases e : ph_R σ 2 (32 * P + G) with
      | none =>
        rw [h.K.1 _ hk e, if_pos rfl]
        rcases hx with rfl | rfl | rfl | rfl <;> rfl
      | some a =>
        obtain ⟨y1, y2, y3, y4, y5⟩ := h.K.2.1 _ a hk e
        have la : pr_lv (ph_R σ 2) a := ⟨_, hk, e⟩
        obtain ⟨v1, v2, v3, v4, v5, v6, v7⟩ := h.V a la
        rw [y2, if_neg (nI_ne_m1 (by omega)), nI_clamp (by omega), v1, v2, v3, R_ho h la, ← y5]
        rcases hx with rfl | rfl | rfl | rfl
        · rfl
        · rfl
        · rfl
        · show (if (3 : Int32) = 0 then _ else _) = _
          rw [if_neg (by decide), if_neg (by decide), if_neg (by decide)]
          show _ = if ph_B σ 4 a = 0 then 0 else 1
          by_cases z : ph_B σ 1 a = -1
          · rw [if_pos z, if_pos (v6 z).1]
          · rw [if_neg z]
end CALLS
