section SLOTS
variable {F S : Nat} {c : Int32} {φ : Nat → Nat} {σ : ph_S} {μ : pm_S}
theorem fill_eq {D D' : Nat → Int32} {M a b : Nat} {v : Int32} (hD : ∀ j, j < M → D j = D' j) : ∀ j, j < M → ph_fill D a b v j = ph_fill D' a b v j := by
  intro j hj
  simp only [ph_fill]
  split
  · rfl
  · exact hD _ hj
theorem C_live {N : Nat} {sl sl' : Nat → Option Nat} {bx : Nat → Int32} {row : Nat → Option Nat} (h : pr_C N sl bx row) (hl : ∀ x, pr_lv sl' x ↔ pr_lv sl x) : pr_C N sl' bx row := by
  intro f a hf
  rw [h f a hf, hl]
theorem C_drop {N : Nat} {sl sl' : Nat → Option Nat} {bx : Nat → Int32} {row : Nat → Option Nat} {a : Nat} (hN : N < 2 ^ 31) (h : pr_C N sl bx row) (ha : pr_lv sl a) (hl : ∀ x, pr_lv sl' x ↔ pr_lv sl x ∧ x ≠ a) :
    (bx a = -1 → pr_C N sl' bx row) ∧ ∀ f, f < N → bx a = nI f → pr_C N sl' bx (va_up row f none) := by
  constructor
  · intro e g x hg
    rw [h g x hg, hl]
    constructor
    · rintro ⟨z1, z2⟩
      exact ⟨⟨z1, fun z => by rw [z, e] at z2; exact nI_ne_m1 (by omega) z2.symm⟩, z2⟩
    · rintro ⟨z1, z2⟩
      exact ⟨z1.1, z2⟩
  · intro f hf e g x hg
    rw [hl]
    by_cases eg : g = f
    · subst eg
      rw [up_eq]
      constructor
      · intro z; exact absurd z (by simp)
      · rintro ⟨⟨z1, z3⟩, z2⟩
        have h1 := (h g x hg).mpr ⟨z1, z2⟩
        rw [(h g a hg).mpr ⟨ha, e⟩] at h1
        exact absurd (Option.some.inj h1).symm z3
    · rw [up_ne _ _ eg, h g x hg]
      constructor
      · rintro ⟨z1, z2⟩
        exact ⟨⟨z1, fun z => by rw [z, e] at z2; exact eg ((nI_eq (by omega) (by omega)).mp z2).symm⟩, z2⟩
      · rintro ⟨z1, z2⟩
        exact ⟨z1.1, z2⟩
/-- a body more, at slot k, in frame f -/
theorem R_add (h : pr_R F S 0 φ σ μ) (hok : ph_ok F S σ) {k q f : Nat} {σ' : ph_S} {μ' : pm_S} (hk : k < 256) (hq : ¬ pr_lv (ph_R σ 2) q) (hf : f < F) (efn : ph_R σ 0 f = none) (hu : pm_A μ 8 f = 0)
    (hin : ∀ m, ph_A σ 3 (k / 32) = nI m → m ≤ 32 → k % 32 < m) (hs2 : ∀ a, ph_R σ 2 k = some a → 2 ≤ pr_cnt (ph_R σ 2) a)
    (hN : pr_N F S 0 (ph_I σ') (pm_I μ')) (A3 : ph_A σ' 3 = ph_A σ 3) (m0 : pm_A μ' 0 = pm_A μ 0) (hW : pr_W F S (ph_A σ' 0) (ph_A σ' 1) (pm_A μ' 6) (pm_A μ' 7)) (A2 : ph_A σ' 2 = ph_A σ 2) (m8 : pm_A μ' 8 = pm_A μ 8)
    (R0 : ph_R σ' 0 = va_up (ph_R σ 0) f (some q)) (R1 : ph_R σ' 1 = ph_R σ 1) (R2 : ph_R σ' 2 = va_up (ph_R σ 2) k (some q))
    (Bq : ph_B σ' 0 q = nI (k % 32) ∧ ph_B σ' 1 q = nI f ∧ ph_B σ' 2 q = -1 ∧ ph_B σ' 3 q = 1 ∧ ph_B σ' 4 q = 1)
    (Bo : ∀ j a, a ≠ q → j ≠ 3 → ph_B σ' j a = ph_B σ j a) (B3 : ∀ a, a ≠ q → ph_B σ' 3 a = if ph_R σ 2 k = some a then ph_B σ 3 a - 1 else ph_B σ 3 a)
    (m1 : pm_A μ' 1 = va_up (pm_A μ 1) k (nI (pm_nf μ))) (m2 : pm_A μ' 2 = va_up (pm_A μ 2) (pm_nf μ) 1) (m3 : pm_A μ' 3 = va_up (pm_A μ 3) (pm_nf μ) (nI f)) (m4 : pm_A μ' 4 = va_up (pm_A μ 4) (pm_nf μ) (-1)) (m5 : pm_A μ' 5 = va_up (pm_A μ 5) (pm_nf μ) 1) :
    pr_R F S 0 (va_up φ q (pm_nf μ)) σ' μ' := by
  have hF := hok.F16
  have hS := hok.S64
  obtain ⟨hn0, his0⟩ := R_nf h
  obtain ⟨q0, q1, q2, q3, q4⟩ := Bq
  have hus : ph_A σ 2 f = 0 := (h.U f hf).1 efn
  -- who lives now
  have fwd : ∀ x, x ≠ q → pr_lv (va_up (ph_R σ 2) k (some q)) x → pr_lv (ph_R σ 2) x := by
    rintro x hx ⟨k', hk', e⟩
    by_cases ek : k' = k
    · subst ek; rw [up_eq] at e; exact absurd (Option.some.inj e).symm hx
    · rw [up_ne _ _ ek] at e; exact ⟨k', hk', e⟩
  have cnt' : ∀ x, x ≠ q → pr_cnt (va_up (ph_R σ 2) k (some q)) x + (if ph_R σ 2 k = some x then 1 else 0) = pr_cnt (ph_R σ 2) x := by
    intro x hx
    have := cnt_up (ph_R σ 2) hk (some q) x
    rw [if_neg (fun z => hx (Option.some.inj z).symm : ¬ some q = some x), Nat.add_zero] at this
    exact this
  have bwd : ∀ x, pr_lv (ph_R σ 2) x → x ≠ q ∧ pr_lv (va_up (ph_R σ 2) k (some q)) x := by
    intro x hx
    have hxq : x ≠ q := fun z => hq (z ▸ hx)
    refine ⟨hxq, cnt_pos ?_⟩
    have h1 := cnt' x hxq
    have h2 := cnt_ge1 hx
    by_cases e : ph_R σ 2 k = some x
    · have := hs2 x e
      rw [if_pos e] at h1; omega
    · rw [if_neg e] at h1; omega
  have lq : pr_lv (va_up (ph_R σ 2) k (some q)) q := ⟨k, hk, up_eq _ _ _⟩
  have cq : pr_cnt (va_up (ph_R σ 2) k (some q)) q = 1 := by
    have h1 := cnt_up (ph_R σ 2) hk (some q) q
    have h2 : pr_cnt (ph_R σ 2) q = 0 := by
      by_cases z : pr_cnt (ph_R σ 2) q = 0
      · exact z
      · exact absurd (cnt_pos (by omega)) hq
    rw [if_pos rfl, if_neg (fun z => hq ⟨k, hk, z⟩), h2] at h1
    omega
  have phq : va_up φ q (pm_nf μ) q = pm_nf μ := up_eq _ _ _
  have phx : ∀ x, x ≠ q → va_up φ q (pm_nf μ) x = φ x := fun x hx => up_ne _ _ hx
  have phn : ∀ x, pr_lv (ph_R σ 2) x → ¬ φ x = pm_nf μ := by
    intro x hx e
    have := (h.is1 hx).2.1
    rw [e, his0] at this
    exact absurd this (by decide)
  refine ⟨hN, ?_, hW, ?_, ?_, ?_, ?_, ?_⟩
  · rw [A3, m0, R2]
    refine ⟨h.P.1, fun p g m hp hg hm e => ?_⟩
    have hne : ¬ 32 * p + g = k := by
      intro z
      have e1 : k / 32 = p := by omega
      have e2 : k % 32 = g := by omega
      have := hin m (by rw [e1]; exact e) (by omega)
      omega
    rw [up_ne _ _ hne]; exact h.P.2 p g m hp hg hm e
  · rw [A2, m8, R0]
    intro g hg
    by_cases eg : g = f
    · subst eg; rw [up_eq]; exact ⟨fun z => absurd z (by simp), fun _ => hu.trans hus.symm⟩
    · rw [up_ne _ _ eg]; exact h.U g hg
  · rw [R2, m1, m2]
    refine ⟨?_, ?_, ?_, ?_⟩
    · intro k' hk' e
      by_cases ek : k' = k
      · subst ek; rw [up_eq] at e; exact absurd e (by simp)
      · rw [up_ne _ _ ek] at e ⊢; exact h.K.1 k' hk' e
    · intro k' x hk' e
      by_cases ek : k' = k
      · subst ek
        rw [up_eq] at e
        have ex := Option.some.inj e
        subst ex
        rw [phq, up_eq, up_eq, cq]
        exact ⟨hn0, rfl, rfl, q0, q3⟩
      · rw [up_ne _ _ ek] at e
        have lx : pr_lv (ph_R σ 2) x := ⟨k', hk', e⟩
        have hx := (bwd x lx).1
        obtain ⟨z1, z2, z3, z4, z5⟩ := h.K.2.1 k' x hk' e
        rw [phx x hx, up_ne _ _ ek, up_ne _ _ (phn x lx), Bo 0 x hx (by decide), B3 x hx]
        refine ⟨z1, z2, z3, z4, ?_⟩
        have hc := cnt' x hx
        by_cases ex : ph_R σ 2 k = some x
        · rw [if_pos ex] at hc ⊢
          rw [z5, ← hc, show (1 : Int32) = nI 1 from rfl, pk_sub (by omega)]
          congr 1
        · rw [if_neg ex] at hc ⊢
          rw [z5, ← hc, Nat.add_zero]
    · intro b hb hib
      by_cases eb : b = pm_nf μ
      · exact ⟨q, lq, by rw [phq, eb]⟩
      · rw [up_ne _ _ eb] at hib
        obtain ⟨x, lx, e⟩ := h.K.2.2.1 b hb hib
        exact ⟨x, (bwd x lx).2, by rw [phx x (bwd x lx).1]; exact e⟩
    · intro x y lx ly e
      by_cases ex : x = q
      · by_cases ey : y = q
        · rw [ex, ey]
        · rw [ex, phq, phx y ey] at e
          exact absurd e.symm (phn y (fwd y ey ly))
      · by_cases ey : y = q
        · rw [ey, phq, phx x ex] at e
          exact absurd e (phn x (fwd x ex lx))
        · rw [phx x ex, phx y ey] at e
          exact h.inj (fwd x ex lx) (fwd y ey ly) e
  · rw [R2, m3, m4, m5]
    intro x lx
    by_cases ex : x = q
    · subst ex
      rw [phq, up_eq, up_eq, up_eq, q1, q2, q4]
      have hne : ¬ nI f = -1 := nI_ne_m1 (by omega)
      exact ⟨rfl, rfl, rfl, Or.inr ⟨f, hf, rfl⟩, Or.inl rfl, fun z => absurd z hne, fun _ _ => by decide⟩
    · have l0 := fwd x ex lx
      rw [phx x ex, up_ne _ _ (phn x l0), up_ne _ _ (phn x l0), up_ne _ _ (phn x l0), Bo 1 x ex (by decide), Bo 2 x ex (by decide), Bo 4 x ex (by decide)]
      exact h.V x l0
  · rw [R2, R0]
    intro g x hg
    by_cases ex : x = q
    · subst ex
      rw [q1]
      by_cases eg : g = f
      · subst eg; rw [up_eq]; exact ⟨fun _ => ⟨lq, rfl⟩, fun _ => rfl⟩
      · rw [up_ne _ _ eg]
        constructor
        · intro z; exact absurd ((h.Cf g x hg).mp z).1 hq
        · rintro ⟨-, z⟩
          exact absurd ((nI_eq (by omega) (by omega)).mp z).symm eg
    · rw [Bo 1 x ex (by decide)]
      by_cases eg : g = f
      · subst eg
        rw [up_eq]
        constructor
        · intro z; exact absurd (Option.some.inj z).symm ex
        · rintro ⟨z1, z2⟩
          have := (h.Cf g x hg).mpr ⟨fwd x ex z1, z2⟩
          rw [efn] at this; exact absurd this (by simp)
      · rw [up_ne _ _ eg, h.Cf g x hg]
        exact ⟨fun z => ⟨(bwd x z.1).2, z.2⟩, fun z => ⟨fwd x ex z.1, z.2⟩⟩
  · rw [R2, R1]
    intro g x hg
    by_cases ex : x = q
    · subst ex
      rw [q2]
      constructor
      · intro z; exact absurd ((h.Cs g x hg).mp z).1 hq
      · rintro ⟨-, z⟩
        exact absurd z.symm (nI_ne_m1 (by omega))
    · rw [Bo 2 x ex (by decide), h.Cs g x hg]
      exact ⟨fun z => ⟨(bwd x z.1).2, z.2⟩, fun z => ⟨fwd x ex z.1, z.2⟩⟩
/-- a word written -/
theorem R_tail (h : pr_R F S c φ σ μ) (hF : F ≤ 16) {b f x : Nat} (hb : pr_lv (ph_R σ 2) b) (e1 : ph_B σ 1 b = nI f) (hf : f < F) (v : Int32) :
    pr_R F S c φ (ph_sB (ph_sA (ph_sA σ 2 f 1) 0 (16 * f + x) v) 4 b 1) (pm_sA (pm_sA (pm_sA μ 8 f 1) 6 (16 * f + x) v) 5 (φ b) 1) := by
  refine ⟨h.N, h.P, ⟨?_, h.W.2⟩, ?_, h.K, ?_, h.Cf, h.Cs⟩
  · show ∀ j, j < 16 * F → va_up (pm_A μ 6) (16 * f + x) v j = va_up (ph_A σ 0) (16 * f + x) v j
    intro j hj
    simp only [va_up]
    split
    · rfl
    · exact h.W.1 j hj
  · show pr_U F (va_up (ph_A σ 2) f 1) (va_up (pm_A μ 8) f 1) (ph_R σ 0)
    intro g hg
    by_cases eg : g = f
    · subst eg
      rw [up_eq, up_eq, (h.Cf g b hg).mpr ⟨hb, e1⟩]
      exact ⟨fun z => absurd z (by simp), fun _ => rfl⟩
    · rw [up_ne _ _ eg, up_ne _ _ eg]; exact h.U g hg
  · show pr_V F S φ (ph_R σ 2) (ph_B σ 1) (ph_B σ 2) (va_up (ph_B σ 4) b 1) (pm_A μ 3) (pm_A μ 4) (va_up (pm_A μ 5) (φ b) 1)
    intro a' ha'
    obtain ⟨v1, v2, v3, v4, v5, v6, v7⟩ := h.V a' ha'
    by_cases ea : a' = b
    · subst ea
      rw [up_eq, up_eq]
      exact ⟨v1, v2, rfl, v4, v5, fun z => absurd (e1.symm.trans z) (nI_ne_m1 (by omega)), fun _ _ => by decide⟩
    · have hn : ¬ φ a' = φ b := fun z => ea (h.inj ha' hb z)
      rw [up_ne _ _ ea, up_ne _ _ hn]
      exact ⟨v1, v2, v3, v4, v5, v6, v7⟩
theorem R_used (h : pr_R F S c φ σ μ) {f a : Nat} (hf : f < F) (e : ph_R σ 0 f = some a) : pr_R F S c φ (ph_sA σ 2 f 1) (pm_sA μ 8 f 1) := by
  refine ⟨h.N, h.P, h.W, ?_, h.K, h.V, h.Cf, h.Cs⟩
  show pr_U F (va_up (ph_A σ 2) f 1) (va_up (pm_A μ 8) f 1) (ph_R σ 0)
  intro g hg
  by_cases eg : g = f
  · subst eg
    rw [up_eq, up_eq, e]
    exact ⟨fun z => absurd z (by simp), fun _ => rfl⟩
  · rw [up_ne _ _ eg, up_ne _ _ eg]; exact h.U g hg
/-- a page more that holds a body -/
theorem R_share (h : pr_R F S c φ σ μ) {k a : Nat} (hk : k < 256) (e : ph_R σ 2 k = none) (ha : pr_lv (ph_R σ 2) a) (h0 : ph_B σ 0 a = nI (k % 32)) (hin : ∀ m, ph_A σ 3 (k / 32) = nI m → m ≤ 32 → k % 32 < m) :
    pr_R F S c φ (ph_sB (ph_sR σ 2 k (some a)) 3 a (ph_B (ph_sR σ 2 k (some a)) 3 a + 1)) (pm_sA μ 1 k (nI (φ a))) := by
  have hl : ∀ x, pr_lv (va_up (ph_R σ 2) k (some a)) x ↔ pr_lv (ph_R σ 2) x := by
    intro x
    constructor
    · rintro ⟨k', hk', e'⟩
      by_cases ek : k' = k
      · subst ek; rw [up_eq] at e'; rw [← Option.some.inj e']; exact ha
      · rw [up_ne _ _ ek] at e'; exact ⟨k', hk', e'⟩
    · rintro ⟨k', hk', e'⟩
      refine ⟨k', hk', ?_⟩
      rw [up_ne _ _ (fun z => by rw [z, e] at e'; exact absurd e' (by simp))]; exact e'
  have hc : ∀ x, pr_cnt (va_up (ph_R σ 2) k (some a)) x = pr_cnt (ph_R σ 2) x + (if a = x then 1 else 0) := by
    intro x
    have := cnt_up (ph_R σ 2) hk (some a) x
    rw [if_neg (by rw [e]; simp), Nat.add_zero] at this
    rw [this]; simp only [Option.some.injEq]
  obtain ⟨i1, i2, i3⟩ := h.is1 ha
  refine ⟨h.N, ?_, h.W, h.U, ?_, ?_, ?_, ?_⟩
  · show pr_P (ph_A σ 3) (pm_A μ 0) (va_up (ph_R σ 2) k (some a))
    refine ⟨h.P.1, fun p g m hp hg hm e => ?_⟩
    have hne : ¬ 32 * p + g = k := by
      intro z
      have e1 : k / 32 = p := by omega
      have e2 : k % 32 = g := by omega
      have := hin m (by rw [e1]; exact e) (by omega)
      omega
    rw [up_ne _ _ hne]; exact h.P.2 p g m hp hg hm e
  · show pr_K φ (va_up (ph_R σ 2) k (some a)) (ph_B σ 0) (va_up (ph_B σ 3) a (ph_B σ 3 a + 1)) (va_up (pm_A μ 1) k (nI (φ a))) (pm_A μ 2)
    refine ⟨?_, ?_, ?_, ?_⟩
    · intro k' hk' e'
      by_cases ek : k' = k
      · subst ek; rw [up_eq] at e'; exact absurd e' (by simp)
      · rw [up_ne _ _ ek] at e' ⊢; exact h.K.1 k' hk' e'
    · intro k' x hk' e'
      have hb3 : pr_lv (ph_R σ 2) x → va_up (ph_B σ 3) a (ph_B σ 3 a + 1) x = nI (pr_cnt (va_up (ph_R σ 2) k (some a)) x) := by
        intro lx
        rw [hc]
        by_cases ex : x = a
        · subst ex; rw [up_eq, if_pos rfl, i3, nI_1]
        · rw [up_ne _ _ ex, if_neg (fun z => ex z.symm), (h.is1 lx).2.2, Nat.add_zero]
      by_cases ek : k' = k
      · subst ek
        rw [up_eq] at e'
        have ex := Option.some.inj e'
        subst ex
        rw [up_eq]
        exact ⟨i1, rfl, i2, h0, hb3 ha⟩
      · rw [up_ne _ _ ek] at e'
        rw [up_ne _ _ ek]
        obtain ⟨z1, z2, z3, z4, z5⟩ := h.K.2.1 k' x hk' e'
        exact ⟨z1, z2, z3, z4, hb3 ⟨k', hk', e'⟩⟩
    · intro b hb hib
      obtain ⟨x, lx, ex⟩ := h.K.2.2.1 b hb hib
      exact ⟨x, (hl x).mpr lx, ex⟩
    · intro x y lx ly ex
      exact h.inj ((hl x).mp lx) ((hl y).mp ly) ex
  · show pr_V F S φ (va_up (ph_R σ 2) k (some a)) (ph_B σ 1) (ph_B σ 2) (ph_B σ 4) (pm_A μ 3) (pm_A μ 4) (pm_A μ 5)
    exact fun x lx => h.V x ((hl x).mp lx)
  · exact C_live h.Cf hl
  · exact C_live h.Cs hl
theorem R_nop (h : pr_R F S c φ σ μ) {k : Nat} (hk : k < 256) (e : ph_R σ 2 k = none) : pr_R F S c φ σ (pm_sA μ 1 k (-1)) := by
  refine ⟨h.N, h.P, h.W, h.U, ?_, h.V, h.Cf, h.Cs⟩
  show pr_K φ (ph_R σ 2) (ph_B σ 0) (ph_B σ 3) (va_up (pm_A μ 1) k (-1)) (pm_A μ 2)
  refine ⟨?_, ?_, h.K.2.2.1, h.K.2.2.2⟩
  · intro k' hk' e'
    by_cases ek : k' = k
    · subst ek; rw [up_eq]
    · rw [up_ne _ _ ek]; exact h.K.1 k' hk' e'
  · intro k' x hk' e'
    rw [up_ne _ _ (fun z => by rw [z, e] at e'; exact absurd e' (by simp))]
    exact h.K.2.1 k' x hk' e'
/-- a page emptied -/
theorem R_empty (h : pr_R F S c φ σ μ) (hok : ph_ok F S σ) {k : Nat} (hk : k < 256) : pr_R F S c φ (ph_em F S σ k) (pm_lv μ k) := by
  have hF := hok.F16
  have hS := hok.S64
  cases e : ph_R σ 2 k with
  | none =>
    rw [ph_em, e, pm_lv, if_pos (h.K.1 k hk e)]
    exact R_nop h hk e
  | some a =>
    have ha : pr_lv (ph_R σ 2) a := ⟨k, hk, e⟩
    obtain ⟨z1, z2, z3, z4, z5⟩ := h.K.2.1 k a hk e
    have hne : ¬ nI (φ a) = -1 := nI_ne_m1 (by omega)
    have hc : ∀ x, pr_cnt (va_up (ph_R σ 2) k none) x + (if a = x then 1 else 0) = pr_cnt (ph_R σ 2) x := by
      intro x
      have := cnt_up (ph_R σ 2) hk none x
      rw [e, if_neg (by simp : ¬ (none : Option Nat) = some x), Nat.add_zero] at this
      rw [← this]; simp only [Option.some.injEq]
    have hca := hc a
    rw [if_pos rfl] at hca
    have hle := cnt_le (ph_R σ 2) a
    have ho : pm_ho (pm_sA μ 1 k (-1)) (nI (φ a)) = pr_cnt (va_up (ph_R σ 2) k none) a := cN_congr 256 (fun k' hk' => by
      show decide (va_up (pm_A μ 1) k (-1) k' = nI (φ a)) = decide (va_up (ph_R σ 2) k none k' = some a)
      by_cases ek : k' = k
      · subst ek
        rw [up_eq, up_eq]
        have : ¬ (-1 : Int32) = nI (φ a) := fun z => hne z.symm
        simp [this]
      · rw [up_ne _ _ ek, up_ne _ _ ek]
        cases e' : ph_R σ 2 k' with
        | none =>
          have : ¬ (-1 : Int32) = nI (φ a) := fun z => hne z.symm
          rw [h.K.1 k' hk' e']; simp [this]
        | some x =>
          have hx := h.K.2.1 k' x hk' e'
          rw [hx.2.1]
          by_cases ex : x = a
          · subst ex; simp
          · have : ¬ nI (φ x) = nI (φ a) := fun z => ex (h.inj ⟨k', hk', e'⟩ ha ((nI_eq (by omega) (by omega)).mp z))
            simp [this, ex])
    have hb3 : ph_B (ph_em1 σ k a) 3 a = nI (pr_cnt (va_up (ph_R σ 2) k none) a) := by
      show va_up (ph_B σ 3) a (ph_B σ 3 a - 1) a = _
      rw [up_eq, z5, ← hca, show (1 : Int32) = nI 1 from rfl, pk_sub (by omega)]
      congr 1
    have eC : ph_em F S σ k = if pr_cnt (va_up (ph_R σ 2) k none) a = 0 then ph_rel F S (ph_em1 σ k a) a else ph_em1 σ k a := by
      rw [ph_em, e]
      show ph_em2 F S (ph_em1 σ k a) a = _
      rw [ph_em2, hb3]
      by_cases h0 : pr_cnt (va_up (ph_R σ 2) k none) a = 0
      · rw [if_pos h0, if_pos (by rw [h0]; rfl)]
      · rw [if_neg h0, if_neg (nI_ne0 (by omega) (by omega))]
    have eM : pm_lv μ k = if pr_cnt (va_up (ph_R σ 2) k none) a = 0 then pm_sA (pm_sA μ 1 k (-1)) 2 (φ a) 0 else pm_sA μ 1 k (-1) := by
      rw [pm_lv, z2, if_neg hne, pm_lv2, ho, nI_clamp (by omega)]
      by_cases h0 : pr_cnt (va_up (ph_R σ 2) k none) a = 0
      · rw [if_pos h0, if_pos (by rw [h0]; rfl)]
      · rw [if_neg h0, if_neg (nI_ne0 (by omega) (by omega))]
    have fwd : ∀ x, pr_lv (va_up (ph_R σ 2) k none) x → pr_lv (ph_R σ 2) x := by
      rintro x ⟨k', hk', e'⟩
      by_cases ek : k' = k
      · subst ek; rw [up_eq] at e'; exact absurd e' (by simp)
      · rw [up_ne _ _ ek] at e'; exact ⟨k', hk', e'⟩
    have bwd : ∀ x, x ≠ a → pr_lv (ph_R σ 2) x → pr_lv (va_up (ph_R σ 2) k none) x := by
      intro x hx lx
      refine cnt_pos ?_
      have h1 := hc x
      rw [if_neg (fun z => hx z.symm), Nat.add_zero] at h1
      rw [h1]; exact cnt_ge1 lx
    have hP : pr_P (ph_A σ 3) (pm_A μ 0) (va_up (ph_R σ 2) k none) := by
      refine ⟨h.P.1, fun p g m hp hg hm e => ?_⟩
      by_cases ek : 32 * p + g = k
      · rw [ek, up_eq]
      · rw [up_ne _ _ ek]; exact h.P.2 p g m hp hg hm e
    have hb3x : ∀ x, pr_lv (ph_R σ 2) x → va_up (ph_B σ 3) a (ph_B σ 3 a - 1) x = nI (pr_cnt (va_up (ph_R σ 2) k none) x) := by
      intro x lx
      by_cases ex : x = a
      · subst ex; exact hb3
      · have h1 := hc x
        rw [if_neg (fun z => ex z.symm), Nat.add_zero] at h1
        rw [up_ne _ _ ex, h1]; exact (h.is1 lx).2.2
    have K1 : ∀ k', k' < 256 → va_up (ph_R σ 2) k none k' = none → va_up (pm_A μ 1) k (-1) k' = -1 := by
      intro k' hk' e'
      by_cases ek : k' = k
      · subst ek; rw [up_eq]
      · rw [up_ne _ _ ek] at e' ⊢; exact h.K.1 k' hk' e'
    rw [eC, eM]
    by_cases h0 : pr_cnt (va_up (ph_R σ 2) k none) a = 0
    · rw [if_pos h0, if_pos h0]
      have hna : ¬ pr_lv (va_up (ph_R σ 2) k none) a := fun z => by have := cnt_ge1 z; omega
      have hl : ∀ x, pr_lv (va_up (ph_R σ 2) k none) x ↔ pr_lv (ph_R σ 2) x ∧ x ≠ a := fun x => ⟨fun z => ⟨fwd x z, fun y => hna (y ▸ z)⟩, fun z => bwd x z.2 z.1⟩
      have hphi : ∀ x, pr_lv (va_up (ph_R σ 2) k none) x → ¬ φ x = φ a := fun x lx z => ((hl x).mp lx).2 (h.inj (fwd x lx) ha z)
      obtain ⟨v1, v2, v3, v4, v5, -⟩ := h.V a ha
      -- the frame is left
      obtain ⟨σ1, er1, c1, c2, c3, c4, c5, c6, c7, c8⟩ : ∃ σ1, ph_rel F S (ph_em1 σ k a) a = ph_rel2 S σ1 a ∧ ph_I σ1 = ph_I σ ∧ (∀ j, j ≠ 2 → ph_A σ1 j = ph_A σ j) ∧ ph_B σ1 = ph_B (ph_em1 σ k a) ∧ ph_R σ1 2 = va_up (ph_R σ 2) k none ∧ ph_R σ1 1 = ph_R σ 1 ∧ pr_U F (ph_A σ1 2) (pm_A μ 8) (ph_R σ1 0) ∧ pr_C F (va_up (ph_R σ 2) k none) (ph_B σ 1) (ph_R σ1 0) ∧ True := by
        rcases v4 with v4 | ⟨f, hf, v4⟩
        · refine ⟨ph_em1 σ k a, ?_, rfl, fun _ _ => rfl, rfl, rfl, rfl, h.U, (C_drop (by omega) h.Cf ha hl).1 v4, trivial⟩
          rw [ph_rel, show ph_B (ph_em1 σ k a) 1 a = -1 from v4, ph_has_m1, if_pos rfl]
        · have hfe : ph_B (ph_em1 σ k a) 1 a = nI f := v4
          refine ⟨ph_rel1 (ph_em1 σ k a) a, ?_, rfl, ?_, rfl, rfl, rfl, ?_, ?_, trivial⟩
          · rw [ph_rel, hfe, ph_has_t hf (by omega), if_neg (by decide)]
          · intro j hj
            funext i
            rw [ph_rel1, A_sA, if_neg (by omega)]; rfl
          · rw [ph_rel1, hfe, nI_clamp (by omega)]
            show pr_U F (va_up (ph_A σ 2) f 0) (pm_A μ 8) (va_up (ph_R σ 0) f none)
            intro g hg
            by_cases eg : g = f
            · subst eg; rw [up_eq, up_eq]; exact ⟨fun _ => rfl, fun z => absurd rfl z⟩
            · rw [up_ne _ _ eg, up_ne _ _ eg]; exact h.U g hg
          · rw [ph_rel1, hfe, nI_clamp (by omega)]
            exact (C_drop (by omega) h.Cf ha hl).2 f hf v4
      -- the sector is left
      obtain ⟨σ2, er2, d1, d2, d3, d4, d5, d6⟩ : ∃ σ2, ph_rel2 S σ1 a = σ2 ∧ ph_I σ2 = ph_I σ ∧ ph_A σ2 = ph_A σ1 ∧ ph_B σ2 = ph_B (ph_em1 σ k a) ∧ ph_R σ2 2 = va_up (ph_R σ 2) k none ∧ ph_R σ2 0 = ph_R σ1 0 ∧ pr_C S (va_up (ph_R σ 2) k none) (ph_B σ 2) (ph_R σ2 1) := by
        have hse : ph_B σ1 2 a = ph_B σ 2 a := by rw [c3]; rfl
        rcases v5 with v5 | ⟨s, hs, v5⟩
        · refine ⟨σ1, ?_, c1, rfl, c3, c4, rfl, ?_⟩
          · rw [ph_rel2, hse, v5, ph_has_m1, if_pos rfl]
          · rw [c5]; exact (C_drop (by omega) h.Cs ha hl).1 v5
        · refine ⟨ph_sR σ1 1 s none, ?_, c1, rfl, c3, c4, rfl, ?_⟩
          · rw [ph_rel2, hse, v5, ph_has_t hs (by omega), if_neg (by decide), nI_clamp (by omega)]
          · show pr_C S _ (ph_B σ 2) (va_up (ph_R σ1 1) s none)
            rw [c5]; exact (C_drop (by omega) h.Cs ha hl).2 s hs v5
      rw [er1, er2]
      refine ⟨?_, ?_, ?_, ?_, ?_, ?_, ?_, ?_⟩
      · rw [d1]; exact h.N
      · rw [d2, d4, c2 3 (by decide)]; exact hP
      · rw [d2, c2 0 (by decide), c2 1 (by decide)]; exact h.W
      · rw [d2, d5]; exact c6
      · rw [d3, d4]
        show pr_K φ (va_up (ph_R σ 2) k none) (ph_B σ 0) (va_up (ph_B σ 3) a (ph_B σ 3 a - 1)) (va_up (pm_A μ 1) k (-1)) (va_up (pm_A μ 2) (φ a) 0)
        refine ⟨K1, ?_, ?_, ?_⟩
        · intro k' x hk' e'
          have lx : pr_lv (va_up (ph_R σ 2) k none) x := ⟨k', hk', e'⟩
          have ek : ¬ k' = k := fun z => by rw [z, up_eq] at e'; exact absurd e' (by simp)
          rw [up_ne _ _ ek] at e'
          obtain ⟨y1, y2, y3, y4, y5⟩ := h.K.2.1 k' x hk' e'
          rw [up_ne _ _ ek, up_ne _ _ (hphi x lx)]
          exact ⟨y1, y2, y3, y4, hb3x x ⟨k', hk', e'⟩⟩
        · intro b hb hib
          by_cases eb : b = φ a
          · rw [eb, up_eq] at hib; exact absurd rfl hib
          · rw [up_ne _ _ eb] at hib
            obtain ⟨x, lx, ex⟩ := h.K.2.2.1 b hb hib
            exact ⟨x, bwd x (fun z => eb (by rw [← ex, z])) lx, ex⟩
        · intro x y lx ly ex
          exact h.inj (fwd x lx) (fwd y ly) ex
      · rw [d3, d4]
        exact fun x lx => h.V x (fwd x lx)
      · rw [d3, d4, d5]; exact c7
      · rw [d3, d4]; exact d6
    · rw [if_neg h0, if_neg h0]
      have hl : ∀ x, pr_lv (va_up (ph_R σ 2) k none) x ↔ pr_lv (ph_R σ 2) x := fun x => ⟨fwd x, fun z => by
        by_cases ex : x = a
        · rw [ex]; exact cnt_pos (by omega)
        · exact bwd x ex z⟩
      refine ⟨h.N, hP, h.W, h.U, ?_, fun x lx => h.V x (fwd x lx), C_live h.Cf hl, C_live h.Cs hl⟩
      show pr_K φ (va_up (ph_R σ 2) k none) (ph_B σ 0) (va_up (ph_B σ 3) a (ph_B σ 3 a - 1)) (va_up (pm_A μ 1) k (-1)) (pm_A μ 2)
      refine ⟨K1, ?_, ?_, ?_⟩
      · intro k' x hk' e'
        have ek : ¬ k' = k := fun z => by rw [z, up_eq] at e'; exact absurd e' (by simp)
        rw [up_ne _ _ ek] at e'
        obtain ⟨y1, y2, y3, y4, y5⟩ := h.K.2.1 k' x hk' e'
        rw [up_ne _ _ ek]
        exact ⟨y1, y2, y3, y4, hb3x x ⟨k', hk', e'⟩⟩
      · intro b hb hib
        obtain ⟨x, lx, ex⟩ := h.K.2.2.1 b hb hib
        exact ⟨x, (hl x).mpr lx, ex⟩
      · intro x y lx ly ex
        exact h.inj (fwd x lx) (fwd y ly) ex
end SLOTS
