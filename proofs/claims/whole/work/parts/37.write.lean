section WRITES
variable {F S : Nat} {c : Int32} {φ : Nat → Nat} {σ : ph_S} {μ : pm_S}
theorem x_sub (x n : Int32) : x + n - x = n := by rw [Int32.add_comm, Int32.add_sub_cancel]
theorem sB_twice (ρ : ph_S) (q f j : Nat) (v : Int32) : ph_sB (ph_sA (ph_sA (ph_sB ρ 4 q 1) 2 f 1) 0 j v) 4 q 1 = ph_sB (ph_sA (ph_sA ρ 2 f 1) 0 j v) 4 q 1 := by
  obtain ⟨a, b, d, e, g⟩ := ρ
  refine Prod.ext rfl (Prod.ext rfl (Prod.ext rfl (Prod.ext ?_ rfl)))
  show va_up (va_up e 4 (va_up (e 4) q 1)) 4 (va_up (va_up e 4 (va_up (e 4) q 1) 4) q 1) = va_up e 4 (va_up (e 4) q 1)
  funext i
  by_cases hi : i = 4
  · subst hi
    rw [up_eq, up_eq]
    funext y
    by_cases hy : y = q
    · subst hy; rw [up_eq, up_eq]
    · rw [up_ne _ _ hy, up_ne _ _ hy]
  · rw [up_ne _ _ hi, up_ne _ _ hi]
theorem R_newbody (h : pr_R F S 0 φ σ μ) (hok : ph_ok F S σ) {k q f : Nat} {g : Int32} (hk : k < 256) (hq : q ∉ ph_L σ) (hf : f < F) (efn : ph_R σ 0 f = none) (hu : pm_A μ 8 f = 0) (hin : ∀ m, ph_A σ 3 (k / 32) = nI m → m ≤ 32 → k % 32 < m) (e : ph_R σ 2 k = none) (hg : g = nI (k % 32)) :
    pr_R F S 0 (va_up φ q (pm_nf μ)) (ph_sB (ph_sR (ph_nb F σ q g f) 2 k (some q)) 4 q 1) (pm_sA (pm_zf (pm_nb μ (nI f)) f 16) 1 k (nI (pm_nf μ))) := by
  refine R_add h hok hk (fun ⟨k', _, e'⟩ => hq (hok.refs 2 k' q e')) hf efn hu hin (fun a z => by rw [e] at z; exact absurd z (by simp)) h.N rfl rfl ⟨fill_eq h.W.1, h.W.2⟩ rfl rfl rfl rfl rfl ?_ ?_ ?_ rfl rfl rfl rfl rfl
  · refine ⟨?_, ?_, ?_, ?_, ?_⟩
    · rw [B_sB, if_neg (by omega), B_sR, nb_B, if_pos rfl, if_pos rfl, hg]
    · rw [B_sB, if_neg (by omega), B_sR, nb_B, if_pos rfl]; rfl
    · rw [B_sB, if_neg (by omega), B_sR, nb_B, if_pos rfl]; rfl
    · rw [B_sB, if_neg (by omega), B_sR, nb_B, if_pos rfl]; rfl
    · rw [B_sB, if_pos ⟨rfl, rfl⟩]
  · intro j a ha _
    rw [B_sB, if_neg (by omega), B_sR, nb_B, if_neg ha]
  · intro a ha
    rw [B_sB, if_neg (by omega), B_sR, nb_B, if_neg ha, e, if_neg (by simp)]
theorem R_copybody (h : pr_R F S 0 φ σ μ) (hok : ph_ok F S σ) {k q f a g : Nat} (hk : k < 256) (hq : q ∉ ph_L σ) (hf : f < F) (efn : ph_R σ 0 f = none) (hu : pm_A μ 8 f = 0) (hin : ∀ m, ph_A σ 3 (k / 32) = nI m → m ≤ 32 → k % 32 < m) (e : ph_R σ 2 k = some a) (e1 : ph_B σ 1 a = nI g) (hg : g < F) (hfg : ¬ f = g) (hc : 2 ≤ pr_cnt (ph_R σ 2) a) :
    pr_R F S 0 (va_up φ q (pm_nf μ)) (ph_sB (ph_sR (ph_cbd F σ a f q) 2 k (some q)) 4 q 1) (pm_wc1 (pm_cf (pm_nb μ (nI f)) g f 16) k (pm_nf μ)) := by
  have hF := hok.F16
  have haq : a ≠ q := fun z => hq (z ▸ hok.refs 2 k a e)
  have eX : ph_B (ph_nb F σ q (ph_B σ 0 a) f) 1 a = nI g := by rw [nb_B, if_neg haq]; exact e1
  have eC : ph_cbd F σ a f q = ph_cb2 (ph_fA (ph_nb F σ q (ph_B σ 0 a) f) 0 (va_cpy (ph_fill (ph_A σ 0) (16 * f) (16 * f + 16) 0) (ph_fill (ph_A σ 0) (16 * f) (16 * f + 16) 0) (16 * g) (16 * f) 16)) a := by
    rw [ph_cbd, ph_cb1, eX, ph_cpy, ph_has_t hf (by omega), if_neg (by decide), ph_has_t hg (by omega), if_neg (by decide), mul16, mul16, nI_clamp (by omega), nI_clamp (by omega)]
    rfl
  obtain ⟨n1, n2, n3, n4, n5, n6, n7, n8⟩ := h.N
  have hB : ∀ j b, ph_B (ph_sB (ph_sR (ph_cbd F σ a f q) 2 k (some q)) 4 q 1) j b = if j = 4 ∧ b = q then 1 else if j = 3 ∧ b = a then ph_B σ 3 a - 1 else if b = q then (if j = 0 then ph_B σ 0 a else if j = 1 then nI f else if j = 2 then -1 else if j = 3 then 1 else 0) else ph_B σ j b := by
    intro j b
    rw [B_sB, B_sR, cbd_B, nb_B, nb_B, if_neg haq]
  have hC2 : ∀ X : ph_S, ph_R (ph_sB (ph_sR (ph_cb2 X a) 2 k (some q)) 4 q 1) 0 = ph_R X 0 := fun _ => rfl
  refine R_add h hok hk (fun ⟨k', _, e'⟩ => hq (hok.refs 2 k' q e')) hf efn hu hin (fun x z => by rw [e] at z; rw [← Option.some.inj z]; exact hc) ?_ ?_ rfl ?_ ?_ rfl ?_ ?_ ?_ ?_ ?_ ?_ rfl rfl rfl rfl rfl
  · rw [eC]
    exact ⟨n1, n2, n3, n4, n5, n6, n7, congrArg (· + 1) n8⟩
  · rw [eC]; rfl
  · rw [eC]
    refine ⟨?_, h.W.2⟩
    show ∀ j, j < 16 * F → va_cpy (pm_A μ 6) (pm_A μ 6) (16 * g) (16 * f) 16 j = va_cpy (ph_fill (ph_A σ 0) (16 * f) (16 * f + 16) 0) (ph_fill (ph_A σ 0) (16 * f) (16 * f + 16) 0) (16 * g) (16 * f) 16 j
    intro j hj
    simp only [va_cpy]
    by_cases hr : 16 * f ≤ j ∧ j < 16 * f + 16
    · rw [if_pos hr, if_pos hr, ph_fill, if_neg (by omega)]
      exact h.W.1 _ (by omega)
    · rw [if_neg hr, if_neg hr, ph_fill, if_neg hr]
      exact h.W.1 _ hj
  · rw [eC]; rfl
  · rw [eC]; rfl
  · rw [eC]; rfl
  · rw [eC]; rfl
  · have k0 := (h.K.2.1 k a hk e).2.2.2.1
    have haq' : ¬ q = a := fun z => haq z.symm
    refine ⟨?_, ?_, ?_, ?_, ?_⟩ <;> rw [hB]
    · simp [k0]
    · simp
    · simp
    · simp [haq']
    · simp
  · intro j b hb hj
    rw [hB, if_neg (by omega), if_neg (by omega), if_neg hb]
  · intro b hb
    rw [hB, if_neg (by omega), if_neg hb, e]
    by_cases z : b = a
    · subst z; simp
    · have : ¬ a = b := fun y => z y.symm
      simp [z, this]
theorem wr2_eq {σ2 : ph_S} {b f x s : Nat} {v : Int32} (e1 : ph_B σ2 1 b = nI f) (hf : f < 16) (hx : x < 2 ^ 31) : ph_wr2 σ2 b s (nI x) v = ph_sB (ph_sA (ph_sA (ph_sR σ2 2 s (some b)) 2 f 1) 0 (16 * f + x % 16) v) 4 b 1 := by
  rw [ph_wr2, B_sA, B_sR, e1, mod16 hx, mul16, nI_add, nI_clamp (by omega), nI_clamp (by omega)]
theorem wt_eq {τ : pm_S} {b f x : Nat} {v : Int32} (e1 : pm_A τ 3 b = nI f) (hf : f < 16) (hx : x < 2 ^ 31) : pm_wt τ b (nI x) v = pm_sA (pm_sA (pm_sA τ 8 f 1) 6 (16 * f + x % 16) v) 5 b 1 := by
  rw [pm_wt, pm_us, pm_wd, e1, mod16 hx, nI_clamp (by omega), nI_clamp (by omega)]
theorem S_write (h : pr_R F S 0 φ σ μ) (hok : ph_ok F S σ) (p a v : Int32) :
    (pm_flR (pm_flT F S μ p a 1) = 0 → pm_A μ 1 (pm_k p a) = -1 → pm_nwOK F S (-1) (pm_rw F S μ p a 1)) ∧
    (pm_flR (pm_flT F S μ p a 1) = 0 → ¬ pm_A μ 1 (pm_k p a) = -1 → pm_inOK F S (pm_rw F S μ p a 1) (pm_A μ 1 (pm_k p a)).toNatClampNeg ∧ pm_cpOK F S (pm_in F S (pm_rw F S μ p a 1) (pm_A μ 1 (pm_k p a)).toNatClampNeg) (pm_A μ 1 (pm_k p a)).toNatClampNeg) ∧
    (ph_wrT F S σ p a = 0 → ∀ b σ2, ph_own F S (ph_acc σ) (ph_bo σ p a) (a / 16) b σ2 → pm_wrR F S μ p a = ph_tw σ (ph_bo σ p a) ∧ (∃ φ', pr_R F S 0 φ' (ph_wr2 σ2 b (p * 32 + a / 16).toNatClampNeg a v) (pm_wrX F S μ p a v)) ∧ ph_ok F S (ph_wr2 σ2 b (p * 32 + a / 16).toNatClampNeg a v)) ∧
    (¬ ph_wrT F S σ p a = 0 → pr_R F S 0 φ σ (pm_wrX F S μ p a v)) := by
  have hF := hok.F16
  have hT := S_wrT h hok p a
  have hle := wrT_le F S σ p a
  have h1 := R_acc h p a 1
  have hok1 : ph_ok F S (ph_acc σ) := ok_sI hok _ (by decide)
  by_cases h0 : ph_wrT F S σ p a = 0
  · obtain ⟨P, x, m, hP, hx, hm, rfl, rfl, em, ebo, ek, n, hn, en, hroom⟩ := wr_0 h hok h0
    have hk : 32 * P + x / 16 < 256 := by omega
    have hfl : pm_flR (pm_flT F S μ (nI P) (nI x) 1) = 0 := by rw [hT, h0]; rfl
    have ecl : (nI P * 32 + nI x / 16).toNatClampNeg = 32 * P + x / 16 := by rw [div16 (by omega), slot_eq, nI_clamp (by omega)]; omega
    have hok2 : ∀ b σ2, ph_own F S (ph_acc σ) (ph_bo σ (nI P) (nI x)) (nI x / 16) b σ2 → ph_ok F S (ph_wr2 σ2 b (nI P * 32 + nI x / 16).toNatClampNeg (nI x) v) := by
      intro b σ2 ho
      obtain ⟨o1, o2⟩ := ok_own hok1 (fun y ey => hok.refs 2 _ y ey) ⟨x / 16, by omega, div16 (by omega)⟩ ho
      exact ok_di (ok_sA (ok_us (ok_sR o1 2 _ o2) _ (Or.inr rfl)) (by decide) _ _) _ (Or.inr rfl)
    refine ⟨?_, ?_, ?_, fun z => absurd h0 z⟩
    · intro _ hm1
      rw [ek] at hm1
      have e : ph_R σ 2 (32 * P + x / 16) = none := by
        cases z : ph_R σ 2 (32 * P + x / 16) with
        | none => rfl
        | some y => rw [(h.K.2.1 _ y hk z).2.1] at hm1; exact absurd hm1 (nI_ne_m1 (by have := (h.K.2.1 _ y hk z).1; omega))
      rw [e] at en
      have := (nI_eq (a := 1) (b := n) (by omega) (by omega)).mp en
      obtain ⟨t1, t2, t3, -⟩ := R_take h1 hok1 (kept := -1) (Or.inl rfl) (show 1 ≤ ph_cf (ph_R σ 0) F + ph_cf (ph_R σ 1) S by omega)
      exact ⟨t1, (R_nf t3).1⟩
    · intro _ hm1
      rw [ek] at hm1 ⊢
      cases e : ph_R σ 2 (32 * P + x / 16) with
      | none => exact absurd (h.K.1 _ hk e) hm1
      | some y =>
        have ly : pr_lv (ph_R (ph_acc σ) 2) y := ⟨_, hk, e⟩
        obtain ⟨y1, y2, -⟩ := h.K.2.1 _ y hk e
        rw [y2, nI_clamp (by omega)]
        rw [e] at en
        have en2 : (if ph_B σ 3 y ≤ 1 then (if ph_B σ 1 y = -1 then (1 : Int32) else 0) + 0 else (if ph_B σ 1 y = -1 then (1 : Int32) else 0) + 1) = nI n := en
        have hn1 : ph_B σ 1 y = -1 → 1 ≤ n := fun z => by
          by_cases w : ph_B σ 3 y ≤ 1
          · rw [if_pos w, if_pos z] at en2
            have := (nI_eq (a := 1) (b := n) (by omega) (by omega)).mp en2
            omega
          · rw [if_neg w, if_pos z] at en2
            have := (nI_eq (a := 2) (b := n) (by omega) (by omega)).mp en2
            omega
        obtain ⟨o1, o2, ⟨f, hf, o3⟩, o4, o5, o6, o7⟩ := R_own1 h1 hok1 ly (fun z => by
          have := hn1 z
          show 1 ≤ ph_cf (ph_R σ 0) F + ph_cf (ph_R σ 1) S
          omega)
        refine ⟨o1, fun hho => ?_⟩
        have ly2 : pr_lv (ph_R (ph_own1 F S (ph_acc σ) y) 2) y := by rw [o4]; exact ly
        have v1 : pm_A (pm_in F S (pm_rw F S μ (nI P) (nI x) 1) (φ y)) 3 (φ y) = nI f := (o2.V y ly2).1.trans o3
        rw [R_ho o2 ly2, ← (o2.is1 ly2).2.2, o5] at hho
        have hho' : ¬ ph_B σ 3 y ≤ 1 := hho
        rw [if_neg hho'] at en2
        have hsum : 1 ≤ ph_cf (ph_R (ph_own1 F S (ph_acc σ) y) 0) F + ph_cf (ph_R (ph_own1 F S (ph_acc σ) y) 1) S := by
          have o6' : ph_cf (ph_R σ 0) F + ph_cf (ph_R σ 1) S ≤ ph_cf (ph_R (ph_own1 F S (ph_acc σ) y) 0) F + ph_cf (ph_R (ph_own1 F S (ph_acc σ) y) 1) S + (if ph_B σ 1 y = -1 then 1 else 0) := o6
          by_cases z : ph_B σ 1 y = -1
          · rw [if_pos z] at o6' en2
            have := (nI_eq (a := 2) (b := n) (by omega) (by omega)).mp en2
            omega
          · rw [if_neg z] at o6' en2
            have := (nI_eq (a := 1) (b := n) (by omega) (by omega)).mp en2
            omega
        rw [v1]
        obtain ⟨t1, t2, t3, t4, t5, t6, t7, t8, -⟩ := R_take o2 (ok_own1 hok1 (hok.refs 2 _ y e)) (kept := nI f) (Or.inr ⟨f, hf, rfl, by rw [(o2.Cf f y hf).mpr ⟨ly2, o3⟩]; simp⟩) hsum
        exact ⟨⟨t1, (R_nf t3).1⟩, by rw [← t2]; exact t8⟩
    · intro _ b σ2 ho
      have hh := hok2 b σ2 ho
      rw [ebo] at ho ⊢
      rw [ecl] at hh ⊢
      suffices hs : pm_wrR F S μ (nI P) (nI x) = ph_tw σ (ph_R σ 2 (32 * P + x / 16)) ∧ ∃ φ', pr_R F S 0 φ' (ph_wr2 σ2 b (32 * P + x / 16) (nI x) v) (pm_wrX F S μ (nI P) (nI x) v) from ⟨hs.1, hs.2, hh⟩
      have hinP : ∀ ρ : ph_S, ph_A ρ 3 = ph_A σ 3 → ∀ m', ph_A ρ 3 ((32 * P + x / 16) / 32) = nI m' → m' ≤ 32 → (32 * P + x / 16) % 32 < m' := by
        intro ρ hρ m' e' hm'
        rw [hρ, show (32 * P + x / 16) / 32 = P by omega, em] at e'
        have := (nI_eq (by omega) (by omega)).mp e'
        omega
      unfold pm_wrR pm_wrX
      rw [if_pos hfl, if_pos hfl]
      unfold pm_wrS pm_wrB
      rw [ek]
      have e1μ : pm_A (pm_rw F S μ (nI P) (nI x) 1) 1 = pm_A μ 1 := rfl
      rw [e1μ]
      have n5 := h1.N.2.2.2.2.1
      rw [Int32.add_zero] at n5
      cases e : ph_R σ 2 (32 * P + x / 16) with
      | none =>
        rw [e] at ho en
        obtain ⟨hq, eσ⟩ : b ∉ ph_L (ph_acc σ) ∧ σ2 = ph_nb F (ph_tkS F S (-1) (ph_acc σ)) b (nI x / 16) (ph_tkN F S (-1) (ph_acc σ)) := ho
        have hn1 := (nI_eq (a := 1) (b := n) (by omega) (by omega)).mp en
        obtain ⟨t1, t2, t3, t4, t5, t6, t7, t8, ⟨f1, f2, f3, f4, f5⟩, t9⟩ := R_take h1 hok1 (kept := -1) (Or.inl rfl) (show 1 ≤ ph_cf (ph_R σ 0) F + ph_cf (ph_R σ 1) S by omega)
        rw [h.K.1 _ hk e, if_pos rfl, if_pos rfl]
        have m5 := t3.N.2.2.2.2.1
        rw [t9, Int32.add_zero] at m5
        generalize pm_rw F S μ (nI P) (nI x) 1 = τ at *
        refine ⟨?_, ?_⟩
        · show pm_I (pm_tkS F S (-1) τ) 5 - pm_I τ 5 = 1
          rw [m5, n5, x_sub]
        · generalize ph_tkN F S (-1) (ph_acc σ) = f at *
          have hR := R_newbody t3 (ok_tkS hok1) hk (by rw [ph_tkS_L]; exact hq) t4 t5 t7 (hinP _ (by rw [A3_tkS]; rfl)) (by rw [f1]; exact e) (g := nI x / 16) (by rw [div16 (by omega)]; congr 1; omega)
          have hB1 : ph_B (ph_sB (ph_sR (ph_nb F (ph_tkS F S (-1) (ph_acc σ)) b (nI x / 16) f) 2 (32 * P + x / 16) (some b)) 4 b 1) 1 b = nI f := by
            rw [B_sB, if_neg (by omega), B_sR, nb_B, if_pos rfl]; rfl
          have hR2 := R_tail hR hF (x := x % 16) ⟨_, hk, up_eq _ _ _⟩ hB1 t4 v
          rw [sB_twice, up_eq] at hR2
          refine ⟨va_up φ b (pm_nf (pm_tkS F S (-1) τ)), ?_⟩
          rw [eσ, wr2_eq (f := f) (by rw [nb_B, if_pos rfl]; rfl) (by omega) (by omega)]
          rw [pm_wn, pm_nx, pm_nw, ← t2]
          rw [wt_eq (v := v) (x := x) (show pm_A (pm_sA (pm_zf (pm_nb (pm_tkS F S (-1) τ) (nI f)) f 16) 1 (32 * P + x / 16) (nI (pm_nf (pm_tkS F S (-1) τ)))) 3 (pm_nf (pm_tkS F S (-1) τ)) = nI f from nb_3 _ _) (by omega) (by omega)]
          exact hR2
      | some y =>
        rw [e] at ho en
        have ho' : ph_own2 F S (ph_own1 F S (ph_acc σ) y) y b σ2 := ho
        have ly : pr_lv (ph_R (ph_acc σ) 2) y := ⟨_, hk, e⟩
        obtain ⟨y1, y2, -⟩ := h.K.2.1 _ y hk e
        have hne : ¬ nI (φ y) = -1 := nI_ne_m1 (by omega)
        have en2 : (if ph_B σ 3 y ≤ 1 then (if ph_B σ 1 y = -1 then (1 : Int32) else 0) + 0 else (if ph_B σ 1 y = -1 then (1 : Int32) else 0) + 1) = nI n := en
        have hn1 : ph_B σ 1 y = -1 → 1 ≤ n := fun z => by
          by_cases w : ph_B σ 3 y ≤ 1
          · rw [if_pos w, if_pos z] at en2
            have := (nI_eq (a := 1) (b := n) (by omega) (by omega)).mp en2
            omega
          · rw [if_neg w, if_pos z] at en2
            have := (nI_eq (a := 2) (b := n) (by omega) (by omega)).mp en2
            omega
        obtain ⟨o1, o2, ⟨f, hf, o3⟩, o4, o5, o6, o7⟩ := R_own1 h1 hok1 ly (fun z => by
          have := hn1 z
          show 1 ≤ ph_cf (ph_R σ 0) F + ph_cf (ph_R σ 1) S
          omega)
        have ly2 : pr_lv (ph_R (ph_own1 F S (ph_acc σ) y) 2) y := by rw [o4]; exact ly
        have e2 : ph_R (ph_own1 F S (ph_acc σ) y) 2 (32 * P + x / 16) = some y := by rw [o4]; exact e
        have v1 : pm_A (pm_in F S (pm_rw F S μ (nI P) (nI x) 1) (φ y)) 3 (φ y) = nI f := (o2.V y ly2).1.trans o3
        have hb3 : nI (pm_ho (pm_in F S (pm_rw F S μ (nI P) (nI x) 1) (φ y)) (nI (φ y))) = ph_B σ 3 y := by
          rw [R_ho o2 ly2, ← (o2.is1 ly2).2.2, o5]; rfl
        have o6' : ph_cf (ph_R σ 0) F + ph_cf (ph_R σ 1) S ≤ ph_cf (ph_R (ph_own1 F S (ph_acc σ) y) 0) F + ph_cf (ph_R (ph_own1 F S (ph_acc σ) y) 1) S + (if ph_B σ 1 y = -1 then 1 else 0) := o6
        have o7' : ph_I (ph_own1 F S (ph_acc σ) y) 2 = ph_I (ph_acc σ) 2 + (if ph_B σ 1 y = -1 then 1 else 0) := o7
        have etw : ph_tw σ (some y) = if ph_B σ 3 y ≤ 1 then (if ph_B σ 1 y = -1 then (1 : Int32) else 0) + 0 else (if ph_B σ 1 y = -1 then (1 : Int32) else 0) + 1 := rfl
        rw [y2, if_neg hne, if_neg hne, nI_clamp (by omega), hb3, v1, nI_clamp (by omega), etw]
        have okO : ph_ok F S (ph_own1 F S (ph_acc σ) y) := ok_own1 hok1 (hok.refs 2 _ y e)
        have m5 := o2.N.2.2.2.2.1
        rw [o7', Int32.add_zero] at m5
        have hb3o : ph_B (ph_own1 F S (ph_acc σ) y) 3 y = ph_B σ 3 y := by rw [o5]; rfl
        unfold ph_own2 at ho'
        rw [hb3o] at ho'
        generalize pm_rw F S μ (nI P) (nI x) 1 = τ at *
        by_cases w : ph_B σ 3 y ≤ 1
        · rw [if_pos w] at ho'
          obtain ⟨rfl, rfl⟩ := ho'
          rw [if_pos w, if_pos w, if_pos w]
          refine ⟨?_, ?_⟩
          · rw [m5, n5, x_sub, Int32.add_zero]
          · have hR2 := R_tail o2 hF (x := x % 16) ly2 o3 hf v
            refine ⟨φ, ?_⟩
            rw [wr2_eq o3 (by omega) (by omega), sR_self e2, wt_eq v1 (by omega) (by omega)]
            exact hR2
        · rw [if_neg w] at ho'
          obtain ⟨hq, eσ⟩ := ho'
          rw [if_neg w, if_neg w, if_neg w]
          rw [if_neg w] at en2
          have hsum : 1 ≤ ph_cf (ph_R (ph_own1 F S (ph_acc σ) y) 0) F + ph_cf (ph_R (ph_own1 F S (ph_acc σ) y) 1) S := by
            by_cases z : ph_B σ 1 y = -1
            · rw [if_pos z] at o6' en2
              have := (nI_eq (a := 2) (b := n) (by omega) (by omega)).mp en2
              omega
            · rw [if_neg z] at o6' en2
              have := (nI_eq (a := 1) (b := n) (by omega) (by omega)).mp en2
              omega
          obtain ⟨t1, t2, t3, t4, t5, t6, t7, t8, ⟨f1, f2, f3, f4, f5⟩, t9⟩ := R_take o2 okO (kept := nI f) (Or.inr ⟨f, hf, rfl, by rw [(o2.Cf f y hf).mpr ⟨ly2, o3⟩]; simp⟩) hsum
          have s5 := t3.N.2.2.2.2.1
          rw [t9, o7', Int32.add_zero] at s5
          refine ⟨?_, ?_⟩
          · show pm_I (pm_tkS F S (nI f) (pm_in F S τ (φ y))) 5 - pm_I τ 5 = _
            rw [s5, n5, Int32.add_assoc, x_sub]
          · rw [o3] at eσ
            have okT := ok_tkS (kept := nI f) okO
            have hB1 : ph_B (ph_tkS F S (nI f) (ph_own1 F S (ph_acc σ) y)) 1 y = nI f := (f4 y (Or.inr o3)).1.trans o3
            have eT : ph_R (ph_tkS F S (nI f) (ph_own1 F S (ph_acc σ) y)) 2 (32 * P + x / 16) = some y := by rw [f1]; exact e2
            have hcnt : 2 ≤ pr_cnt (ph_R (ph_tkS F S (nI f) (ph_own1 F S (ph_acc σ) y)) 2) y := by
              rw [f1, o4]
              have hc := (h1.is1 ly).2.2
              have hle2 := cnt_le (ph_R (ph_acc σ) 2) y
              refine Nat.le_of_not_lt fun z => w ?_
              show ph_B (ph_acc σ) 3 y ≤ 1
              rw [hc]
              exact nI_le (a := pr_cnt (ph_R (ph_acc σ) 2) y) (b := 1) (by omega) (by omega)
            generalize hτ2 : pm_in F S τ (φ y) = τ2 at *
            generalize hfq : ph_tkN F S (nI f) (ph_own1 F S (ph_acc σ) y) = fq at *
            have hfg : ¬ fq = f := fun z => t8 (by rw [z])
            have hR := R_copybody t3 okT (q := b) hk (by rw [ph_tkS_L]; exact hq) t4 t5 t7 (hinP _ (by rw [A3_tkS, A3_own1]; rfl)) eT hB1 hf hfg hcnt
            have hyb : ¬ b = y := fun z => hq (z ▸ okO.refs 2 _ y e2)
            have hBb : ph_B (ph_cbd F (ph_tkS F S (nI f) (ph_own1 F S (ph_acc σ) y)) y fq b) 1 b = nI fq := by
              rw [cbd_B, if_neg (by omega), nb_B, if_pos rfl]; rfl
            have hR2 := R_tail hR hF (x := x % 16) ⟨_, hk, up_eq _ _ _⟩ (show ph_B (ph_sB (ph_sR (ph_cbd F (ph_tkS F S (nI f) (ph_own1 F S (ph_acc σ) y)) y fq b) 2 (32 * P + x / 16) (some b)) 4 b 1) 1 b = nI fq by rw [B_sB, if_neg (by omega), B_sR]; exact hBb) t4 v
            rw [sB_twice, up_eq] at hR2
            refine ⟨va_up φ b (pm_nf (pm_tkS F S (nI f) τ2)), ?_⟩
            rw [eσ, wr2_eq hBb (by omega) (by omega)]
            rw [pm_wc, pm_nx, pm_nw, ← t2]
            rw [wt_eq (v := v) (x := x) (show pm_A (pm_wc1 (pm_cf (pm_nb (pm_tkS F S (nI f) τ2) (nI fq)) f fq 16) (32 * P + x / 16) (pm_nf (pm_tkS F S (nI f) τ2))) 3 (pm_nf (pm_tkS F S (nI f) τ2)) = nI fq from nb_3 _ _) (by omega) (by omega)]
            exact hR2
  · have hfl : ¬ pm_flR (pm_flT F S μ p a 1) = 0 := by
      rw [hT, flR_0 (by omega)]; exact h0
    refine ⟨fun z => absurd z hfl, fun z => absurd z hfl, fun z => absurd z h0, fun _ => ?_⟩
    rw [pm_wrX, if_neg hfl]
    exact R_thrown h _
end WRITES
