theorem cN_pos {f : Nat → Bool} : ∀ {n}, 1 ≤ ph_cN f n → ∃ i, i < n ∧ f i = true
  | 0, h => absurd h (by simp [ph_cN])
  | n + 1, h => by
    by_cases hn : f n = true
    · exact ⟨n, by omega, hn⟩
    · rw [ph_cN, if_neg hn, Nat.add_zero] at h
      obtain ⟨i, hi, e⟩ := cN_pos h
      exact ⟨i, by omega, e⟩
theorem cN_ge1 {f : Nat → Bool} : ∀ {n i}, i < n → f i = true → 1 ≤ ph_cN f n
  | 0, _, h, _ => absurd h (by omega)
  | n + 1, i, h, e => by
    unfold ph_cN
    by_cases hi : i = n
    · subst hi; rw [if_pos e]; omega
    · have := cN_ge1 (n := n) (by omega) e
      omega
/-- a count with one place changed -/
theorem cN_at {f g : Nat → Bool} {k : Nat} (h : ∀ i, i ≠ k → f i = g i) : ∀ n, ph_cN f n + (if k < n ∧ g k = true then 1 else 0) = ph_cN g n + (if k < n ∧ f k = true then 1 else 0)
  | 0 => by simp [ph_cN]
  | n + 1 => by
    have ih := cN_at h n
    unfold ph_cN
    by_cases hk : n = k
    · subst hk
      have a1 : ¬ (n < n ∧ g n = true) := by omega
      have a2 : ¬ (n < n ∧ f n = true) := by omega
      rw [if_neg a1, if_neg a2] at ih
      have b1 : n < n + 1 := by omega
      simp only [b1, true_and]
      omega
    · rw [h n hk]
      have e1 : (k < n + 1 ∧ g k = true) ↔ (k < n ∧ g k = true) := ⟨fun x => ⟨by omega, x.2⟩, fun x => ⟨by omega, x.2⟩⟩
      have e2 : (k < n + 1 ∧ f k = true) ↔ (k < n ∧ f k = true) := ⟨fun x => ⟨by omega, x.2⟩, fun x => ⟨by omega, x.2⟩⟩
      simp only [e1, e2]
      omega
theorem cN_inj {q' : Nat → Bool} : ∀ (n m : Nat) (p q : Nat → Bool) (r : Nat → Nat → Prop), (∀ i, i < n → p i = true → ∃ j, j < m ∧ q j = true ∧ r i j) → (∀ i i' j, i < n → i' < n → r i j → r i' j → i = i') → ph_cN p n ≤ ph_cN q m
  | 0, _, _, _, _, _, _ => by simp [ph_cN]
  | n + 1, m, p, q, r, h, hu => by
    rw [show ph_cN p (n + 1) = ph_cN p n + (if p n = true then 1 else 0) from rfl]
    by_cases hp : p n = true
    · rw [if_pos hp]
      obtain ⟨j, hj, hq, hr⟩ := h n (by omega) hp
      have ih := cN_inj (q' := q') n m p (fun x => if x = j then false else q x) r (fun i hi hpi => by
        obtain ⟨j', hj', hq', hr'⟩ := h i (by omega) hpi
        refine ⟨j', hj', ?_, hr'⟩
        have : ¬ j' = j := fun e => by
          rw [e] at hr'
          have := hu i n j (by omega) (by omega) hr' hr
          omega
        rw [if_neg this]; exact hq') (fun i i' j hi hi' => hu i i' j (by omega) (by omega))
      have c := cN_at (f := fun x => if x = j then false else q x) (g := q) (k := j) (fun i hi => by simp [hi]) m
      rw [if_pos ⟨hj, hq⟩, if_neg (fun z => by have z2 := z.2; simp at z2)] at c
      omega
    · rw [if_neg hp, Nat.add_zero]
      exact cN_inj (q' := q') n m p q r (fun i hi => h i (by omega)) (fun i i' j hi hi' => hu i i' j (by omega) (by omega))
theorem cN_bij {n m : Nat} {p q : Nat → Bool} (r : Nat → Nat → Prop) (h1 : ∀ i, i < n → p i = true → ∃ j, j < m ∧ q j = true ∧ r i j) (h2 : ∀ j, j < m → q j = true → ∃ i, i < n ∧ p i = true ∧ r i j) (u1 : ∀ i i' j, i < n → i' < n → p i = true → p i' = true → r i j → r i' j → i = i') (u2 : ∀ i j j', j < m → j' < m → r i j → r i j' → j = j') : ph_cN p n = ph_cN q m := by
  refine Nat.le_antisymm (cN_inj (q' := p) n m p q (fun i j => p i = true ∧ r i j) (fun i hi hp => by obtain ⟨j, a, b, c⟩ := h1 i hi hp; exact ⟨j, a, b, hp, c⟩) (fun i i' j hi hi' a b => u1 i i' j hi hi' a.1 b.1 a.2 b.2)) ?_
  exact cN_inj (q' := p) m n q p (fun j i => r i j) (fun j hj hq => h2 j hj hq) (fun j j' i hj hj' a b => u2 i j j' hj hj' a b)
theorem cN_split (p q : Nat → Bool) : ∀ n, ph_cN p n = ph_cN (fun i => p i && q i) n + ph_cN (fun i => p i && !q i) n
  | 0 => rfl
  | n + 1 => by
    have ih := cN_split p q n
    unfold ph_cN
    rw [ih]
    cases p n <;> cases q n <;> simp <;> omega
theorem cN_not (p : Nat → Bool) : ∀ n, ph_cN p n + ph_cN (fun i => !p i) n = n
  | 0 => rfl
  | n + 1 => by
    have ih := cN_not p n
    unfold ph_cN
    cases p n <;> simp <;> omega
theorem pigeon {n m : Nat} {g : Nat → Nat} (h : ∀ b, b < n → ∃ k, k < m ∧ g k = b) : n ≤ m := by
  have h1 := cN_inj (q' := fun _ => true) n m (fun _ => true) (fun _ => true) (fun b k => g k = b) (fun b hb _ => by obtain ⟨k, hk, e⟩ := h b hb; exact ⟨k, hk, rfl, e⟩) (fun i i' j _ _ a b => a.symm.trans b)
  have h2 : ∀ x, ph_cN (fun _ => true) x = x := fun x => by
    induction x with
    | zero => rfl
    | succ x ih => unfold ph_cN; rw [ih]; rfl
  rw [h2, h2] at h1; exact h1
/-- who holds -/
def pr_cnt (sl : Nat → Option Nat) (a : Nat) : Nat := ph_cN (fun k => decide (sl k = some a)) 256
def pr_lv (sl : Nat → Option Nat) (a : Nat) : Prop := ∃ k, k < 256 ∧ sl k = some a
theorem cnt_le (sl : Nat → Option Nat) (a : Nat) : pr_cnt sl a ≤ 256 := ph_cN_le _ _
theorem cnt_pos {sl : Nat → Option Nat} {a : Nat} (h : 1 ≤ pr_cnt sl a) : pr_lv sl a := by
  obtain ⟨i, hi, e⟩ := cN_pos h
  exact ⟨i, hi, of_decide_eq_true e⟩
theorem cnt_ge1 {sl : Nat → Option Nat} {a : Nat} (h : pr_lv sl a) : 1 ≤ pr_cnt sl a := by
  obtain ⟨k, hk, e⟩ := h
  exact cN_ge1 hk (decide_eq_true e)
theorem cnt_up (sl : Nat → Option Nat) {k : Nat} (hk : k < 256) (v : Option Nat) (a : Nat) : pr_cnt (va_up sl k v) a + (if sl k = some a then 1 else 0) = pr_cnt sl a + (if v = some a then 1 else 0) := by
  have h := cN_at (f := fun j => decide (va_up sl k v j = some a)) (g := fun j => decide (sl j = some a)) (k := k) (fun i hi => by simp [va_up, hi]) 256
  simp only [hk, true_and, decide_eq_true_eq, va_up, if_true] at h
  exact h
/-- c: how many takings the class has yet to count -/
def pr_N (F S : Nat) (c : Int32) (I J : Nat → Int32) : Prop := J 1 = nI F ∧ J 2 = nI S ∧ J 3 = I 0 ∧ J 4 = I 1 ∧ J 5 = I 2 + c ∧ J 6 = I 3 ∧ J 7 = I 4 ∧ J 8 = I 5
def pr_P (pn pg : Nat → Int32) (sl : Nat → Option Nat) : Prop := (∀ p, p < 8 → pg p = pn p) ∧ ∀ p g m, p < 8 → g < 32 → m ≤ g → pn p = nI m → sl (32 * p + g) = none
def pr_W (F S : Nat) (fw sw wf ws : Nat → Int32) : Prop := (∀ j, j < 16 * F → wf j = fw j) ∧ ∀ j, j < 16 * S → ws j = sw j
def pr_U (F : Nat) (us ud : Nat → Int32) (fc : Nat → Option Nat) : Prop := ∀ f, f < F → (fc f = none → us f = 0) ∧ (¬ fc f = none → ud f = us f)
def pr_K (φ : Nat → Nat) (sl : Nat → Option Nat) (b0 b3 bo is : Nat → Int32) : Prop :=
  (∀ k, k < 256 → sl k = none → bo k = -1) ∧
  (∀ k a, k < 256 → sl k = some a → φ a < 300 ∧ bo k = nI (φ a) ∧ is (φ a) = 1 ∧ b0 a = nI (k % 32) ∧ b3 a = nI (pr_cnt sl a)) ∧
  (∀ b, b < 300 → ¬ is b = 0 → ∃ a, pr_lv sl a ∧ φ a = b) ∧
  (∀ a a', pr_lv sl a → pr_lv sl a' → φ a = φ a' → a = a')
def pr_V (F S : Nat) (φ : Nat → Nat) (sl : Nat → Option Nat) (b1 b2 b4 fo so di : Nat → Int32) : Prop :=
  ∀ a, pr_lv sl a → fo (φ a) = b1 a ∧ so (φ a) = b2 a ∧ di (φ a) = b4 a ∧ (b1 a = -1 ∨ ∃ f, f < F ∧ b1 a = nI f) ∧ (b2 a = -1 ∨ ∃ s, s < S ∧ b2 a = nI s) ∧ (b1 a = -1 → b4 a = 0 ∧ ¬ b2 a = -1) ∧ (¬ b1 a = -1 → b2 a = -1 → ¬ b4 a = 0)
def pr_C (N : Nat) (sl : Nat → Option Nat) (bx : Nat → Int32) (row : Nat → Option Nat) : Prop := ∀ f a, f < N → (row f = some a ↔ pr_lv sl a ∧ bx a = nI f)
/-- class and reference stand alike -/
def pr_R (F S : Nat) (c : Int32) (φ : Nat → Nat) (σ : ph_S) (μ : pm_S) : Prop :=
  pr_N F S c (ph_I σ) (pm_I μ) ∧ pr_P (ph_A σ 3) (pm_A μ 0) (ph_R σ 2) ∧ pr_W F S (ph_A σ 0) (ph_A σ 1) (pm_A μ 6) (pm_A μ 7) ∧ pr_U F (ph_A σ 2) (pm_A μ 8) (ph_R σ 0) ∧
  pr_K φ (ph_R σ 2) (ph_B σ 0) (ph_B σ 3) (pm_A μ 1) (pm_A μ 2) ∧ pr_V F S φ (ph_R σ 2) (ph_B σ 1) (ph_B σ 2) (ph_B σ 4) (pm_A μ 3) (pm_A μ 4) (pm_A μ 5) ∧
  pr_C F (ph_R σ 2) (ph_B σ 1) (ph_R σ 0) ∧ pr_C S (ph_R σ 2) (ph_B σ 2) (ph_R σ 1)
section REL
variable {F S : Nat} {c : Int32} {φ : Nat → Nat} {σ : ph_S} {μ : pm_S}
theorem pr_R.N (h : pr_R F S c φ σ μ) : pr_N F S c (ph_I σ) (pm_I μ) := h.1
theorem pr_R.P (h : pr_R F S c φ σ μ) : pr_P (ph_A σ 3) (pm_A μ 0) (ph_R σ 2) := h.2.1
theorem pr_R.W (h : pr_R F S c φ σ μ) : pr_W F S (ph_A σ 0) (ph_A σ 1) (pm_A μ 6) (pm_A μ 7) := h.2.2.1
theorem pr_R.U (h : pr_R F S c φ σ μ) : pr_U F (ph_A σ 2) (pm_A μ 8) (ph_R σ 0) := h.2.2.2.1
theorem pr_R.K (h : pr_R F S c φ σ μ) : pr_K φ (ph_R σ 2) (ph_B σ 0) (ph_B σ 3) (pm_A μ 1) (pm_A μ 2) := h.2.2.2.2.1
theorem pr_R.V (h : pr_R F S c φ σ μ) : pr_V F S φ (ph_R σ 2) (ph_B σ 1) (ph_B σ 2) (ph_B σ 4) (pm_A μ 3) (pm_A μ 4) (pm_A μ 5) := h.2.2.2.2.2.1
theorem pr_R.Cf (h : pr_R F S c φ σ μ) : pr_C F (ph_R σ 2) (ph_B σ 1) (ph_R σ 0) := h.2.2.2.2.2.2.1
theorem pr_R.Cs (h : pr_R F S c φ σ μ) : pr_C S (ph_R σ 2) (ph_B σ 2) (ph_R σ 1) := h.2.2.2.2.2.2.2
theorem pr_R.is1 (h : pr_R F S c φ σ μ) {a : Nat} (ha : pr_lv (ph_R σ 2) a) : φ a < 300 ∧ pm_A μ 2 (φ a) = 1 ∧ ph_B σ 3 a = nI (pr_cnt (ph_R σ 2) a) := by
  obtain ⟨k, hk, e⟩ := ha
  have := h.K.2.1 k a hk e
  exact ⟨this.1, this.2.2.1, this.2.2.2.2⟩
theorem pr_R.inj (h : pr_R F S c φ σ μ) {a a' : Nat} (ha : pr_lv (ph_R σ 2) a) (ha' : pr_lv (ph_R σ 2) a') (e : φ a = φ a') : a = a' := h.K.2.2.2 a a' ha ha' e
theorem R_thrown (h : pr_R F S c φ σ μ) (v : Int32) : pr_R F S c φ σ (pm_sI μ 0 v) := h
theorem biG_spec (μ : pm_S) (f : Int32) : ∀ d i, (∃ b, i ≤ b ∧ b < i + d ∧ pm_biG μ f d i = nI b ∧ ¬ pm_A μ 2 b = 0 ∧ pm_A μ 3 b = f) ∨ (pm_biG μ f d i = -1 ∧ ∀ b, i ≤ b → b < i + d → ¬ pm_A μ 2 b = 0 → ¬ pm_A μ 3 b = f)
  | 0, i => Or.inr ⟨rfl, fun b h1 h2 => absurd h1 (by omega)⟩
  | d + 1, i => by
    have ih := biG_spec μ f d (i + 1)
    unfold pm_biG
    by_cases h1 : pm_A μ 2 i = 0
    · rw [if_pos h1]
      rcases ih with ⟨b, a1, a2, a3⟩ | ⟨a1, a2⟩
      · exact Or.inl ⟨b, by omega, by omega, a3⟩
      · refine Or.inr ⟨a1, fun b c1 c2 c3 => ?_⟩
        by_cases hb : b = i
        · rw [hb] at c3; exact absurd h1 c3
        · exact a2 b (by omega) (by omega) c3
    · rw [if_neg h1]
      by_cases h2 : pm_A μ 3 i = f
      · rw [if_pos h2]
        exact Or.inl ⟨i, by omega, by omega, rfl, h1, h2⟩
      · rw [if_neg h2]
        rcases ih with ⟨b, a1, a2, a3⟩ | ⟨a1, a2⟩
        · exact Or.inl ⟨b, by omega, by omega, a3⟩
        · refine Or.inr ⟨a1, fun b c1 c2 c3 => ?_⟩
          by_cases hb : b = i
          · rw [hb]; exact h2
          · exact a2 b (by omega) (by omega) c3
theorem sfG_spec (μ : pm_S) (f : Int32) : ∀ d i, (∃ b, i ≤ b ∧ b < i + d ∧ pm_sfG μ f d i = 0 ∧ ¬ pm_A μ 2 b = 0 ∧ pm_A μ 4 b = f) ∨ (pm_sfG μ f d i = 1 ∧ ∀ b, i ≤ b → b < i + d → ¬ pm_A μ 2 b = 0 → ¬ pm_A μ 4 b = f)
  | 0, i => Or.inr ⟨rfl, fun b h1 h2 => absurd h1 (by omega)⟩
  | d + 1, i => by
    have ih := sfG_spec μ f d (i + 1)
    unfold pm_sfG
    by_cases h1 : pm_A μ 2 i = 0
    · rw [if_pos h1]
      rcases ih with ⟨b, a1, a2, a3⟩ | ⟨a1, a2⟩
      · exact Or.inl ⟨b, by omega, by omega, a3⟩
      · refine Or.inr ⟨a1, fun b c1 c2 c3 => ?_⟩
        by_cases hb : b = i
        · rw [hb] at c3; exact absurd h1 c3
        · exact a2 b (by omega) (by omega) c3
    · rw [if_neg h1]
      by_cases h2 : pm_A μ 4 i = f
      · rw [if_pos h2]
        exact Or.inl ⟨i, by omega, by omega, rfl, h1, h2⟩
      · rw [if_neg h2]
        rcases ih with ⟨b, a1, a2, a3⟩ | ⟨a1, a2⟩
        · exact Or.inl ⟨b, by omega, by omega, a3⟩
        · refine Or.inr ⟨a1, fun b c1 c2 c3 => ?_⟩
          by_cases hb : b = i
          · rw [hb]; exact h2
          · exact a2 b (by omega) (by omega) c3
theorem R_bi_n (h : pr_R F S c φ σ μ) {f : Nat} (hf : f < F) (e : ph_R σ 0 f = none) : pm_bi μ (nI f) = -1 := by
  rcases biG_spec μ (nI f) 300 0 with ⟨b, -, hb, -, h1, h2⟩ | ⟨h1, -⟩
  · obtain ⟨a, ha, rfl⟩ := h.K.2.2.1 b (by omega) h1
    have := (h.Cf f a hf).mpr ⟨ha, by rw [← (h.V a ha).1]; exact h2⟩
    rw [e] at this; exact absurd this (by simp)
  · exact h1
theorem R_bi_s (h : pr_R F S c φ σ μ) {f a : Nat} (hf : f < F) (e : ph_R σ 0 f = some a) : pm_bi μ (nI f) = nI (φ a) := by
  obtain ⟨ha, h4⟩ := (h.Cf f a hf).mp e
  obtain ⟨a1, a2, -⟩ := h.is1 ha
  rcases biG_spec μ (nI f) 300 0 with ⟨b, -, hb, h3, h1, h2⟩ | ⟨-, h1⟩
  · obtain ⟨a', ha', rfl⟩ := h.K.2.2.1 b (by omega) h1
    have := (h.Cf f a' hf).mpr ⟨ha', by rw [← (h.V a' ha').1]; exact h2⟩
    rw [e] at this
    rw [Option.some.inj this]; exact h3
  · exact absurd ((h.V a ha).1.trans h4) (h1 (φ a) (by omega) (by omega) (by rw [a2]; decide))
theorem R_sf_n (h : pr_R F S c φ σ μ) {s : Nat} (hs : s < S) (e : ph_R σ 1 s = none) : ¬ pm_sf μ (nI s) = 0 := by
  rcases sfG_spec μ (nI s) 300 0 with ⟨b, -, hb, -, h1, h2⟩ | ⟨h1, -⟩
  · obtain ⟨a, ha, rfl⟩ := h.K.2.2.1 b (by omega) h1
    have := (h.Cs s a hs).mpr ⟨ha, by rw [← (h.V a ha).2.1]; exact h2⟩
    rw [e] at this; exact absurd this (by simp)
  · rw [pm_sf, h1]; decide
theorem R_sf_s (h : pr_R F S c φ σ μ) {s a : Nat} (hs : s < S) (e : ph_R σ 1 s = some a) : pm_sf μ (nI s) = 0 := by
  obtain ⟨ha, h4⟩ := (h.Cs s a hs).mp e
  obtain ⟨a1, a2, -⟩ := h.is1 ha
  rcases sfG_spec μ (nI s) 300 0 with ⟨b, -, hb, h3, h1, h2⟩ | ⟨-, h1⟩
  · exact h3
  · exact absurd ((h.V a ha).2.1.trans h4) (h1 (φ a) (by omega) (by omega) (by rw [a2]; decide))
theorem R_ff (h : pr_R F S c φ σ μ) : pm_ff F μ = ph_cf (ph_R σ 0) F := cN_congr F (fun i hi => by
  cases e : ph_R σ 0 i with
  | none => rw [R_bi_n h hi e]; rfl
  | some a =>
    have : ¬ nI (φ a) = -1 := nI_ne_m1 (by have := (h.is1 ((h.Cf i a hi).mp e).1).1; omega)
    rw [R_bi_s h hi e]; simp [this])
theorem R_fs (h : pr_R F S c φ σ μ) : pm_fs S μ = ph_cf (ph_R σ 1) S := cN_congr S (fun i hi => by
  cases e : ph_R σ 1 i with
  | none => simp [R_sf_n h hi e]
  | some a => simp [R_sf_s h hi e])
theorem R_ho (h : pr_R F S c φ σ μ) {a : Nat} (ha : pr_lv (ph_R σ 2) a) : pm_ho μ (nI (φ a)) = pr_cnt (ph_R σ 2) a := cN_congr 256 (fun k hk => by
  have h0 := (h.is1 ha).1
  cases e : ph_R σ 2 k with
  | none =>
    have : ¬ (-1 : Int32) = nI (φ a) := fun z => nI_ne_m1 (by omega) z.symm
    rw [h.K.1 k hk e]; simp [this]
  | some a' =>
    have h1 := h.K.2.1 k a' hk e
    rw [h1.2.1]
    by_cases hh : a' = a
    · subst hh; simp
    · have : ¬ nI (φ a') = nI (φ a) := fun z => hh (h.inj ⟨k, hk, e⟩ ha ((nI_eq (by omega) (by omega)).mp z))
      simp [this, hh])
theorem R_nf (h : pr_R F S c φ σ μ) : pm_nf μ < 300 ∧ pm_A μ 2 (pm_nf μ) = 0 := by
  have key : ∀ d i, (i ≤ pm_nfG μ d i ∧ pm_nfG μ d i < i + d ∧ pm_A μ 2 (pm_nfG μ d i) = 0) ∨ ∀ b, i ≤ b → b < i + d → ¬ pm_A μ 2 b = 0 := by
    intro d
    induction d with
    | zero => intro i; exact Or.inr (fun b h1 h2 => absurd h1 (by omega))
    | succ d ih =>
      intro i
      unfold pm_nfG
      by_cases h0 : pm_A μ 2 i = 0
      · rw [if_pos h0]; exact Or.inl ⟨by omega, by omega, h0⟩
      · rw [if_neg h0]
        rcases ih (i + 1) with ⟨a, b, c⟩ | c
        · exact Or.inl ⟨by omega, by omega, c⟩
        · refine Or.inr (fun b h1 h2 => ?_)
          by_cases hb : b = i
          · rw [hb]; exact h0
          · exact c b (by omega) (by omega)
  rcases key 300 0 with ⟨-, a, b⟩ | c0
  · exact ⟨by unfold pm_nf; omega, b⟩
  · have := pigeon (n := 300) (m := 256) (g := fun k => match ph_R σ 2 k with | none => 0 | some a => φ a) (fun b hb => by
      obtain ⟨a, ⟨k, hk, e⟩, rfl⟩ := h.K.2.2.1 b hb (c0 b (by omega) (by omega))
      exact ⟨k, hk, by rw [e]⟩)
    omega
theorem R_lp (h : pr_R F S c φ σ μ) : pm_lp μ = ph_lp σ := by
  have key : ∀ d i, i + d = 8 → pm_lpG μ d i = ph_lpG σ d i := by
    intro d
    induction d with
    | zero => intro i _; rfl
    | succ d ih => intro i hi; unfold pm_lpG ph_lpG; rw [h.P.1 i (by omega), ih (i + 1) (by omega)]
  exact key 8 0 rfl
theorem R_ip (h : pr_R F S c φ σ μ) (p : Int32) : pm_ip μ p = ph_hp σ p := by
  unfold pm_ip ph_hp
  by_cases h1 : p < 0
  · rw [if_pos h1, if_pos h1]
  · rw [if_neg h1, if_neg h1]
    by_cases h2 : 8 ≤ p
    · rw [if_pos h2, if_pos h2]
    · rw [if_neg h2, if_neg h2]
      obtain ⟨P, hP, rfl⟩ := vp_in_of (ix_cmp (N := 8) (by decide) h1 h2) (by decide)
      rw [nI_clamp (by omega), h.P.1 P hP]
theorem R_ig (h : pr_R F S c φ σ μ) (p g : Int32) : pm_ig μ p g = ph_hg σ p g := by
  unfold pm_ig ph_hg
  rw [R_ip h]
  by_cases h1 : ph_hp σ p = 0
  · rw [if_pos h1, if_pos h1]
  · rw [if_neg h1, if_neg h1]
    obtain ⟨P, hP, rfl⟩ := vp_in_of (ph_hp_vin h1) (by decide)
    rw [nI_clamp (by omega), h.P.1 P hP]
theorem R_fr (h : pr_R F S c φ σ μ) : pm_fr F (pm_tk0 μ) = ph_lf (ph_R σ 0) F := by
  have key : ∀ d i, i + d = F → pm_frG (pm_tk0 μ) d i = ph_lfG (ph_R σ 0) d i := by
    intro d
    induction d with
    | zero => intro i _; rfl
    | succ d ih =>
      intro i hi
      unfold pm_frG ph_lfG
      rw [pm_tk0, bi_sI, ← pm_tk0]
      cases e : ph_R σ 0 i with
      | none => rw [R_bi_n h (by omega) e, if_pos rfl]
      | some a =>
        rw [R_bi_s h (by omega) e, if_neg (nI_ne_m1 (by have := (h.is1 ((h.Cf i a (by omega)).mp e).1).1; omega))]
        exact ih (i + 1) (by omega)
  exact key F 0 (by omega)
theorem lfG_spec (f : Nat → Option Nat) : ∀ d i, i + d < 2 ^ 31 → (∃ j, i ≤ j ∧ j < i + d ∧ ph_lfG f d i = nI j ∧ f j = none) ∨ (ph_lfG f d i = -1 ∧ ∀ j, i ≤ j → j < i + d → ¬ f j = none)
  | 0, i, _ => Or.inr ⟨rfl, fun j h1 h2 => absurd h1 (by omega)⟩
  | d + 1, i, hi => by
    have ih := lfG_spec f d (i + 1) (by omega)
    unfold ph_lfG
    cases e : f i with
    | none => exact Or.inl ⟨i, by omega, by omega, rfl, e⟩
    | some a =>
      rcases ih with ⟨j, a1, a2, a3⟩ | ⟨a1, a2⟩
      · exact Or.inl ⟨j, by omega, by omega, a3⟩
      · refine Or.inr ⟨a1, fun j c1 c2 => ?_⟩
        by_cases hj : j = i
        · rw [hj, e]; simp
        · exact a2 j (by omega) (by omega)
theorem R_ns (h : pr_R F S c φ σ μ) (hS : S ≤ 64) {s : Nat} (hs : s < S) (e : ph_R σ 1 s = none) : pm_ns S μ < S ∧ ph_lf (ph_R σ 1) S = nI (pm_ns S μ) ∧ ph_R σ 1 (pm_ns S μ) = none := by
  have key : ∀ d i, i + d = S → (∃ j, i ≤ j ∧ j < S ∧ ph_R σ 1 j = none) → pm_nsG μ d i < S ∧ ph_lfG (ph_R σ 1) d i = nI (pm_nsG μ d i) ∧ ph_R σ 1 (pm_nsG μ d i) = none := by
    intro d
    induction d with
    | zero => intro i hi ⟨j, h1, h2, _⟩; exact absurd h1 (by omega)
    | succ d ih =>
      intro i hi ⟨j, h1, h2, h3⟩
      unfold pm_nsG ph_lfG
      cases e' : ph_R σ 1 i with
      | none => rw [if_neg (R_sf_n h (by omega) e')]; exact ⟨by omega, rfl, e'⟩
      | some a =>
        rw [if_pos (R_sf_s h (by omega) e')]
        refine ih (i + 1) (by omega) ⟨j, ?_, h2, h3⟩
        have : ¬ j = i := fun z => by rw [z, e'] at h3; exact absurd h3 (by simp)
        omega
  exact key S 0 (by omega) ⟨s, by omega, hs, e⟩
theorem R_mok (h : pr_R F S c φ σ μ) (hok : ph_ok F S σ) : pm_ok F S μ := by
  obtain ⟨n1, n2, n3, -⟩ := h.N
  refine ⟨hok.1, n1, n2, ?_, fun p hp => ?_, fun k hk => ?_⟩
  · rw [n3]; exact hok.hand
  · rw [h.P.1 p hp]; exact hok.pn hp
  · cases e : ph_R σ 2 k with
    | none => exact Or.inl (h.K.1 k hk e)
    | some a => exact Or.inr ⟨φ a, (h.K.2.1 k a hk e).1, (h.K.2.1 k a hk e).2.1⟩
end REL
