section OKS
variable {F S : Nat} {σ : ph_S}
theorem ph_L_sI (k : Nat) (v : Int32) : ph_L (ph_sI σ k v) = ph_L σ := rfl
theorem up_if {α : Type} (f : Nat → α) (k : Nat) (v : α) (j : Nat) : va_up f k v j = if j = k then v else f j := rfl
theorem R_sR (k j : Nat) (v : Option Nat) (k' j' : Nat) : ph_R (ph_sR σ k j v) k' j' = if k' = k ∧ j' = j then v else ph_R σ k' j' := by
  simp only [ph_R, ph_sR, va_up]
  by_cases h : k' = k
  · subst h
    by_cases h2 : j' = j <;> simp [h2, va_up]
  · simp [h]
theorem A_sA (k j : Nat) (v : Int32) (k' j' : Nat) : ph_A (ph_sA σ k j v) k' j' = if k' = k ∧ j' = j then v else ph_A σ k' j' := by
  simp only [ph_A, ph_sA, va_up]
  by_cases h : k' = k
  · subst h
    by_cases h2 : j' = j <;> simp [h2, va_up]
  · simp [h]
theorem B_sB (k j : Nat) (v : Int32) (k' j' : Nat) : ph_B (ph_sB σ k j v) k' j' = if k' = k ∧ j' = j then v else ph_B σ k' j' := by
  simp only [ph_B, ph_sB, va_up]
  by_cases h : k' = k
  · subst h
    by_cases h2 : j' = j <;> simp [h2, va_up]
  · simp [h]
theorem I_sI (k : Nat) (v : Int32) (k' : Nat) : ph_I (ph_sI σ k v) k' = if k' = k then v else ph_I σ k' := rfl
theorem A_fA (k : Nat) (f : Nat → Int32) (k' j : Nat) : ph_A (ph_fA σ k f) k' j = if k' = k then f j else ph_A σ k' j := by
  simp only [ph_A, ph_fA, va_up]
  by_cases h : k' = k <;> simp [h]
theorem ok_sI (h : ph_ok F S σ) {k : Nat} (v : Int32) (hk : k ≠ 0) : ph_ok F S (ph_sI σ k v) := by
  obtain ⟨h1, h2, h3, h4, h5, h6⟩ := h
  refine ⟨h1, h2, h3, ?_, h5, h6⟩
  rw [I_sI, if_neg (Ne.symm hk)]
  exact h4
theorem ok_hand (h : ph_ok F S σ) {v : Int32} (hv : ∃ j, j < F ∧ v = nI j) : ph_ok F S (ph_sI σ 0 v) := by
  obtain ⟨h1, h2, h3, h4, h5, h6⟩ := h
  exact ⟨h1, h2, h3, hv, h5, h6⟩
theorem ok_sRn (h : ph_ok F S σ) (k j : Nat) : ph_ok F S (ph_sR σ k j none) := by
  obtain ⟨h1, h2, h3, h4, h5, h6⟩ := h
  refine ⟨h1, fun k' j' a he => ?_, h3, h4, h5, h6⟩
  rw [R_sR] at he
  split at he
  · cases he
  · exact h2 _ _ _ he
theorem ok_sR (h : ph_ok F S σ) (k j : Nat) {a : Nat} (ha : a ∈ ph_L σ) : ph_ok F S (ph_sR σ k j (some a)) := by
  obtain ⟨h1, h2, h3, h4, h5, h6⟩ := h
  refine ⟨h1, fun k' j' b he => ?_, h3, h4, h5, h6⟩
  rw [R_sR] at he
  split at he
  · cases he; exact ha
  · exact h2 _ _ _ he
theorem ok_us (h : ph_ok F S σ) (j : Nat) {v : Int32} (hv : v = 0 ∨ v = 1) : ph_ok F S (ph_sA σ 2 j v) := by
  obtain ⟨h1, h2, h3, h4, h5, h6⟩ := h
  refine ⟨h1, h2, h3, h4, fun p hp => ?_, fun f => ?_⟩
  · rw [A_sA, if_neg (by omega)]; exact h5 p hp
  · rw [A_sA]
    split
    · exact hv
    · exact h6 f
theorem ok_pn (h : ph_ok F S σ) (j : Nat) {v : Int32} (hv : ∃ m, m ≤ 32 ∧ v = nI m) : ph_ok F S (ph_sA σ 3 j v) := by
  obtain ⟨h1, h2, h3, h4, h5, h6⟩ := h
  refine ⟨h1, h2, h3, h4, fun p hp => ?_, fun f => ?_⟩
  · rw [A_sA]
    split
    · exact hv
    · exact h5 p hp
  · rw [A_sA, if_neg (by omega)]; exact h6 f
theorem ok_sA (h : ph_ok F S σ) {k : Nat} (hk : k < 2) (j : Nat) (v : Int32) : ph_ok F S (ph_sA σ k j v) := by
  obtain ⟨h1, h2, h3, h4, h5, h6⟩ := h
  refine ⟨h1, h2, h3, h4, fun p hp => ?_, fun f => ?_⟩
  · rw [A_sA, if_neg (by omega)]; exact h5 p hp
  · rw [A_sA, if_neg (by omega)]; exact h6 f
theorem ok_fA (h : ph_ok F S σ) {k : Nat} (hk : k < 2) (f : Nat → Int32) : ph_ok F S (ph_fA σ k f) := by
  obtain ⟨h1, h2, h3, h4, h5, h6⟩ := h
  refine ⟨h1, h2, h3, h4, fun p hp => ?_, fun f => ?_⟩
  · rw [A_fA, if_neg (by omega)]; exact h5 p hp
  · rw [A_fA, if_neg (by omega)]; exact h6 f
theorem ok_sB (h : ph_ok F S σ) (k b : Nat) {v : Int32} (h1' : k = 1 → v = -1 ∨ ∃ f, f < F ∧ v = nI f) (h2' : k = 2 → v = -1 ∨ ∃ f, f < S ∧ v = nI f) (h0' : k ≠ 0) (h4' : k = 4 → v = 0 ∨ v = 1) : ph_ok F S (ph_sB σ k b v) := by
  obtain ⟨h1, h2, h3, h4, h5, h6⟩ := h
  refine ⟨h1, h2, fun a ha => ?_, h4, h5, h6⟩
  obtain ⟨g1, g2, g3, g4⟩ := h3 a ha
  refine ⟨?_, ?_, ?_, ?_⟩
  · rw [B_sB]; split
    · exact h1' (by omega)
    · exact g1
  · rw [B_sB]; split
    · exact h2' (by omega)
    · exact g2
  · rw [B_sB, if_neg (by omega)]; exact g3
  · rw [B_sB]; split
    · exact h4' (by omega)
    · exact g4
theorem ok_fr (h : ph_ok F S σ) (a : Nat) {v : Int32} (hv : v = -1 ∨ ∃ f, f < F ∧ v = nI f) : ph_ok F S (ph_sB σ 1 a v) := ok_sB h 1 a (fun _ => hv) (fun e => absurd e (by decide)) (by decide) (fun e => absurd e (by decide))
theorem ok_se (h : ph_ok F S σ) (a : Nat) {v : Int32} (hv : v = -1 ∨ ∃ f, f < S ∧ v = nI f) : ph_ok F S (ph_sB σ 2 a v) := ok_sB h 2 a (fun e => absurd e (by decide)) (fun _ => hv) (by decide) (fun e => absurd e (by decide))
theorem ok_ho (h : ph_ok F S σ) (a : Nat) (v : Int32) : ph_ok F S (ph_sB σ 3 a v) := ok_sB h 3 a (fun e => absurd e (by decide)) (fun e => absurd e (by decide)) (by decide) (fun e => absurd e (by decide))
theorem ok_di (h : ph_ok F S σ) (a : Nat) {v : Int32} (hv : v = 0 ∨ v = 1) : ph_ok F S (ph_sB σ 4 a v) := ok_sB h 4 a (fun e => absurd e (by decide)) (fun e => absurd e (by decide)) (by decide) (fun _ => hv)
end OKS
theorem ph_has_in {N : Nat} {r : Int32} (h : ¬ ph_has N r = 0) (hN : N < 2 ^ 31) : ∃ j, j < N ∧ r = nI j := by
  unfold ph_has at h
  split at h
  · exact absurd rfl h
  · split at h
    · exact absurd rfl h
    · rename_i h1 h2
      obtain ⟨j, hj, rfl⟩ := nI_of h1
      exact ⟨j, Nat.lt_of_not_le fun z => h2 (nI_le z hj), rfl⟩
theorem ph_has_t {N j : Nat} (h : j < N) (hN : N < 2 ^ 31) : ph_has N (nI j) = 1 := by
  unfold ph_has
  rw [if_neg (nI_pos (by omega)), if_neg (nI_ge h hN)]
theorem ph_has_m1 (N : Nat) : ph_has N (-1) = 0 := by
  unfold ph_has
  rw [if_pos (by decide)]
def ph_fill (f : Nat → Int32) (a b : Nat) (v : Int32) : Nat → Int32 := fun j => if a ≤ j ∧ j < b then v else f j
theorem ph_fill_0 (f : Nat → Int32) (a : Nat) (v : Int32) : ph_fill f a a v = f := by
  funext j
  unfold ph_fill
  rw [if_neg (by omega)]
theorem ph_fill_s (σ : ph_S) (f : Nat → Int32) (a i : Nat) (v : Int32) (h : a ≤ i) : ph_sA (ph_fA σ 0 (ph_fill f a i v)) 0 i v = ph_fA σ 0 (ph_fill f a (i + 1) v) := by
  simp only [ph_sA, ph_fA]
  refine congrArg (fun z => (σ.1, σ.2.1, z, σ.2.2.2)) ?_
  funext k
  simp only [va_up]
  by_cases hk : k = 0
  · subst hk
    simp only [if_true]
    funext j
    unfold ph_fill
    simp only [va_up]
    by_cases hj : j = i
    · subst hj; simp [h]
    · by_cases h1 : a ≤ j ∧ j < i
      · rw [if_neg hj, if_pos h1, if_pos (by omega)]
      · rw [if_neg hj, if_neg h1, if_neg (by omega)]
  · simp [hk]
theorem ph_fA_self (σ : ph_S) : ph_fA σ 0 (ph_A σ 0) = σ := by
  simp only [ph_fA, ph_A]
  obtain ⟨a, b, c, d⟩ := σ
  refine congrArg (fun z => (a, b, z, d)) ?_
  funext k
  simp only [va_up]
  by_cases hk : k = 0
  · subst hk; simp only [if_true]; rfl
  · simp [hk]
/-- the words of a row set to 0 -/
def ph_zero (F : Nat) (σ : ph_S) (r : Nat) : ph_S := ph_fA σ 0 (ph_fill (ph_A σ 0) (16 * r) (16 * r + 16) 0)
/-- the words of a row copied to another -/
def ph_cpy (N N' kd ks : Nat) (σ : ph_S) (row src : Int32) : ph_S := if ph_has N row = 0 then σ else if ph_has N' src = 0 then σ else ph_fA σ kd (va_cpy (ph_A σ ks) (ph_A σ kd) (src * 16).toNatClampNeg (row * 16).toNatClampNeg (16 : Int32).toNatClampNeg)
theorem ph_cpy_L (N N' kd ks : Nat) (σ : ph_S) (row src : Int32) : ph_L (ph_cpy N N' kd ks σ row src) = ph_L σ := by
  unfold ph_cpy; split
  · rfl
  · split <;> rfl
theorem ok_cpy {F S N N' kd ks : Nat} {σ : ph_S} {row src : Int32} (h : ph_ok F S σ) (hk : kd < 2) : ph_ok F S (ph_cpy N N' kd ks σ row src) := by
  unfold ph_cpy; split
  · exact h
  · split
    · exact h
    · exact ok_fA h hk _
theorem mul16 (j : Nat) : nI j * 16 = nI (16 * j) := by
  rw [show (16 : Int32) = nI 16 from rfl, pk_mul, Nat.mul_comm]
section CPR
variable {X : gx_T} {cc : ByteArray} {nL : Nat} {own : String} {rm : Room} {rt : Option FieldType} {D : va_G} {tys : List (ClassId × FieldType)} {post : Option Value → va_W → Prop} {k n : Nat} {ws : va_W} {pc : Nat} {lv : List (Nat × Value)} {st : List Value} {idx : Nat}
theorem gV_copyi (C : gC X cc nL own rm rt D tys post) (hlink : Cond.methodLink own idx arraycopyName ∈ pw_all) (hnat : Cond.native arraycopyName ∈ pw_all) (hstat : Cond.static arraycopyName ∈ pw_all) (hini : Cond.initialized "java/lang/System" ∈ pw_all)
    (q0 q1 t0 t1 : Nat) {a a0 : Nat} {c0 c1 : ClassId} {n0 n1 : Nat} {f g : Nat → Int32} (ha0 : ws[q0]? = some (a0, .inl (c0, n0, .inl f))) (ha1 : ws[q1]? = some (a, .inl (c1, n1, .inl g))) (ht0 : tys[t0]? = some (c0, .int)) (ht1 : tys[t1]? = some (c1, .int))
    {sp dp m9 : Int32} (h1 : ¬ sp < 0) (h2 : ¬ dp < 0) (h3 : ¬ m9 < 0) (h4 : sp.toNatClampNeg + m9.toNatClampNeg ≤ n0) (h5 : dp.toNatClampNeg + m9.toNatClampNeg ≤ n1) (hframes : 1 ≤ rm.frames) (hlocals : (st.map fun v => v.category).sum + (nativeFrameWords "java/lang/System" "arraycopy" 5 + 11) ≤ rm.locals) (hdg : decode cc pc = .ok (.invokestatic idx, 3))
    (kk : gV X k n (ws.set q1 (a, .inl (c1, n1, .inl (va_cpy f g sp.toNatClampNeg dp.toNatClampNeg m9.toNatClampNeg)))) (pc + 3) lv st) : gV X k n ws pc lv (.int m9 :: .int dp :: .ref a :: .int sp :: .ref a0 :: st) := by
  obtain ⟨⟨p, l, e, R, s, m, args, below, meth, c, Q⟩, nL', D', tys', A⟩ := X
  obtain ⟨hx, hb, hml, hown, hts, hN, hK, hA, hlks, rfl, rfl, rfl, rfl, hl0, hr, hret⟩ := C
  intro H locs ls hP hD hS hl
  exact va_copyi hx hb (hml.trans hl.1.symm) hown (hts _ hlink) (hts _ hnat) (hts _ hstat) (hts _ hini) hK hP hD hS q0 q1 t0 t1 ha0 ha1 ht0 ht1 rfl h1 h2 h3 h4 h5 (fun _ _ => rfl) hframes hlocals hdg (fun H1 locs1 hP1 hD1 hS1 => kk H1 locs1 ls hP1 hD1 hS1 hl)
end CPR
theorem w_copy_l : Cond.methodLink RX1 31 arraycopyName ∈ pw_all := pw_t 158 (by decide +kernel) rfl
theorem w_copy_s : Cond.static arraycopyName ∈ pw_all := pw_t 159 (by decide +kernel) rfl
theorem w_copy_n : Cond.native arraycopyName ∈ pw_all := pw_t 160 (by decide +kernel) rfl
theorem w_sys : Cond.initialized "java/lang/System" ∈ pw_all := pw_t 10 (by decide +kernel) rfl
abbrev rm_J7_rangeCheck_23922 : Room := { frames := 0, cells := 0, slots := 0, locals := 0 }
set_option maxHeartbeats 4000000 in
set_option maxRecDepth 100000 in
/-- Arrays.rangeCheck, where nothing is wrong -/
theorem c_rangeCheck {D : va_G} {ad : Nat → Nat} {ct : Nat → ClassId} {F S : Nat} {σ : ph_S} {N a b : Nat} (h1 : a ≤ b) (h2 : b ≤ N) (h3 : N < 2 ^ 31) : gM yJ7_rangeCheck_23922 cJ7_rangeCheck_23922 3 none rm_J7_rangeCheck_23922 D (gt ct) (cw ad ct F S σ) [.int (nI N), .int (nI a), .int (nI b)] (fun v w => v = none ∧ w = cw ad ct F S σ) := by
  refine gM_in RJ7 rfl (by decide) (Nat.le_of_ble_eq_true rfl) (fun X C => ?_)
  refine gV_iload_n (pc := 0) C dJ7_rangeCheck_23922_0 1 rfl rfl ?_
  refine gV_iload_n (pc := 1) C dJ7_rangeCheck_23922_1 2 rfl rfl ?_
  refine gV_icmp_le (pc := 2) C 46 dJ7_rangeCheck_23922_2 (by decide) (fun c_1 => ?_) (fun c_1 => ?_)
  · skip
    refine gV_iload_n (pc := 46) C dJ7_rangeCheck_23922_46 1 rfl rfl ?_
    refine gV_if_ge (pc := 47) C 59 dJ7_rangeCheck_23922_47 (by decide) (fun c_2 => ?_) (fun c_2 => ?_)
    · skip
      refine gV_iload_n (pc := 59) C dJ7_rangeCheck_23922_59 2 rfl rfl ?_
      refine gV_iload_n (pc := 60) C dJ7_rangeCheck_23922_60 0 rfl rfl ?_
      refine gV_icmp_le (pc := 61) C 73 dJ7_rangeCheck_23922_61 (by decide) (fun c_3 => ?_) (fun c_3 => ?_)
      · skip
        refine gV_vret (pc := 73) C dJ7_rangeCheck_23922_73 (by decide) (by decide) ?_
        exact ⟨rfl, rfl⟩
      · exact absurd (nI_le h2 h3) c_3
    · exact absurd (nI_pos' (by omega)) c_2
  · exact absurd (nI_le h1 (by omega)) c_1
abbrev rm_J7_fill_fda19 : Room := { frames := 1, cells := 0, slots := 0, locals := 22 }
set_option maxHeartbeats 4000000 in
set_option maxRecDepth 100000 in
theorem lp_fill {X : gx_T} {D : va_G} {ad : Nat → Nat} {ct : Nat → ClassId} {F S : Nat} {σ : ph_S} {a b : Nat} (hF : F ≤ 16) (h2 : b ≤ 16 * F) (C : gC X cJ7_fill_fda19 5 RJ7 rm_J7_fill_fda19 none D (gt ct) (fun v w => v = none ∧ w = cw ad ct F S (ph_fA σ 0 (ph_fill (ph_A σ 0) a b 0)))) : ∀ d i : Nat, i + d = b → a ≤ i → gV X 0 0 (cw ad ct F S (ph_fA σ 0 (ph_fill (ph_A σ 0) a i 0))) 10 [(4, .int (nI i)), (0, .ref (ad 4)), (1, .int (nI a)), (2, .int (nI b)), (3, .int 0)] [] := by
  intro d
  induction d with
  | zero =>
    intro i hi hai
    have e : i = b := by omega
    subst e
    refine gV_iload (pc := 10) C dJ7_fill_fda19_10 0 rfl ?_
    refine gV_iload_n (pc := 12) C dJ7_fill_fda19_12 3 rfl rfl ?_
    refine gV_icmp_ge (pc := 13) C 27 dJ7_fill_fda19_13 (by decide) (fun c_1 => ?_) (fun c_1 => ?_)
    · skip
      refine gV_vret (pc := 27) C dJ7_fill_fda19_27 (by decide) (by decide) ?_
      exact ⟨rfl, rfl⟩
    · exact absurd (nI_le (Nat.le_refl i) (by omega)) c_1
  | succ d ih =>
    intro i hi hai
    refine gV_iload (pc := 10) C dJ7_fill_fda19_10 0 rfl ?_
    refine gV_iload_n (pc := 12) C dJ7_fill_fda19_12 3 rfl rfl ?_
    refine gV_icmp_ge (pc := 13) C 27 dJ7_fill_fda19_13 (by decide) (fun c_1 => ?_) (fun c_1 => ?_)
    · exact absurd c_1 (nI_ge (by omega) (by omega))
    · skip
      refine gV_aload_n (pc := 16) (x := ad 4) C dJ7_fill_fda19_16 1 rfl rfl ?_
      refine gV_iload (pc := 17) C dJ7_fill_fda19_17 0 rfl ?_
      refine gV_iload_n (pc := 19) C dJ7_fill_fda19_19 4 rfl rfl ?_
      refine cs_fw (pc := 20) C (vp_in_nI (by omega) (by omega)) dJ7_fill_fda19_20 ?_
      rw [nI_clamp (by omega)]
      refine gV_iinc (pc := 21) (v := nI (i + 1)) (lv' := [(4, .int (nI (i + 1))), (0, .ref (ad 4)), (1, .int (nI a)), (2, .int (nI b)), (3, .int 0)]) C dJ7_fill_fda19_21 0 rfl (nI_1 _) (by decide) rfl ?_
      refine gV_goto (pc := 24) C 10 dJ7_fill_fda19_24 (by decide) ?_
      rw [ph_fill_s _ _ _ _ _ hai]
      exact ih (i + 1) (by omega) (by omega)
set_option maxHeartbeats 4000000 in
set_option maxRecDepth 100000 in
/-- Arrays.fill over the frames' words, with 0 -/
theorem c_fill {D : va_G} {ad : Nat → Nat} {ct : Nat → ClassId} {F S : Nat} {σ : ph_S} {a b : Nat} (hF : F ≤ 16) (h1 : a ≤ b) (h2 : b ≤ 16 * F) : gM yJ7_fill_fda19 cJ7_fill_fda19 5 none rm_J7_fill_fda19 D (gt ct) (cw ad ct F S σ) [.ref (ad 4), .int (nI a), .int (nI b), .int 0] (fun v w => v = none ∧ w = cw ad ct F S (ph_fA σ 0 (ph_fill (ph_A σ 0) a b 0))) := by
  refine gM_in RJ7 rfl (by decide) (Nat.le_of_ble_eq_true rfl) (fun X C => ?_)
  refine gV_aload_n (pc := 0) (x := ad 4) C dJ7_fill_fda19_0 0 rfl rfl ?_
  refine cl_fw (pc := 1) C dJ7_fill_fda19_1 ?_
  refine gV_iload_n (pc := 2) C dJ7_fill_fda19_2 1 rfl rfl ?_
  refine gV_iload_n (pc := 3) C dJ7_fill_fda19_3 2 rfl rfl ?_
  refine gV_callS (pc := 4) (As := [.int (nI (16 * F)), .int (nI a), .int (nI b)]) (rest := []) C ml_J7_13 gy_J7_rangeCheck_23922 gs_J7_rangeCheck_23922 (c_rangeCheck (N := 16 * F) (a := a) (b := b) h1 h2 (by omega))  rfl rfl ⟨by decide, by decide⟩ (Nat.le_of_ble_eq_true rfl) (by decide) (by decide) dJ7_fill_fda19_4 ?_
  rintro _ _ ⟨rfl, rfl⟩
  refine gV_iload_n (pc := 7) C dJ7_fill_fda19_7 1 rfl rfl ?_
  refine gV_istore (pc := 8) (lv' := [(4, .int (nI a)), (0, .ref (ad 4)), (1, .int (nI a)), (2, .int (nI b)), (3, .int 0)]) C dJ7_fill_fda19_8 (by decide) rfl ?_
  have hh := lp_fill (a := a) hF h2 C (b - a) a (by omega) (Nat.le_refl a)
  rw [ph_fill_0, ph_fA_self] at hh
  exact hh
abbrev rm_X1_zero : Room := { frames := 2, cells := 0, slots := 0, locals := 46 }
set_option maxHeartbeats 4000000 in
set_option maxRecDepth 100000 in
/-- Rows.zero of a frame -/
theorem c_zero {D : va_G} {ad : Nat → Nat} {ct : Nat → ClassId} {F S : Nat} {σ : ph_S} {r : Nat} (hF : F ≤ 16) (hr : r < F) : gM yX1_zero cX1_zero 2 none rm_X1_zero D (gt ct) (cw ad ct F S σ) [.ref (ad 1), .int (nI r)] (fun v w => v = none ∧ w = cw ad ct F S (ph_zero F σ r)) := by
  refine gM_in RX1 rfl (by decide) (Nat.le_of_ble_eq_true rfl) (fun X C => ?_)
  refine gV_aload_n (pc := 0) (x := ad 1) C dX1_zero_0 0 rfl rfl ?_
  refine gV_iload_n (pc := 1) C dX1_zero_1 1 rfl rfl ?_
  refine gV_callV (pc := 2) (As := [.int (nI r)]) (rest := []) C ml_X1_21 gy_X1_has gv_X1_has (c_has1 _) ⟨1, 1, _, _, rfl, rfl, rfl⟩ rfl rfl ⟨by decide, by decide⟩ (Nat.le_of_ble_eq_true rfl) (by decide) (by decide) dX1_zero_2 ?_
  rintro _ _ ⟨rfl, rfl⟩
  refine gV_if_eq (pc := 5) C 26 dX1_zero_5 (by decide) (fun c_1 => ?_) (fun c_1 => ?_)
  · exact absurd c_1 (by rw [ph_has_t hr (by omega)]; decide)
  · skip
    refine gV_aload_n (pc := 8) (x := ad 1) C dX1_zero_8 0 rfl rfl ?_
    refine cg_words1 (pc := 9) C fl_X1_17 dX1_zero_9 ?_
    refine gV_iload_n (pc := 12) C dX1_zero_12 1 rfl rfl ?_
    refine gV_bipush (pc := 13) (v := 16) C dX1_zero_13 (by decide) ?_
    refine gV_imul (pc := 15) C dX1_zero_15 ?_
    rw [mul16]
    refine gV_iload_n (pc := 16) C dX1_zero_16 1 rfl rfl ?_
    refine gV_iconst (pc := 17) (v := 1) C dX1_zero_17 (by decide) ?_
    refine gV_iadd (pc := 18) C dX1_zero_18 ?_
    refine gV_bipush (pc := 19) (v := 16) C dX1_zero_19 (by decide) ?_
    refine gV_imul (pc := 21) C dX1_zero_21 ?_
    rw [show (nI r + 1) * 16 = nI (16 * r + 16) by rw [nI_1, mul16]; congr 1]
    refine gV_iconst (pc := 22) (v := 0) C dX1_zero_22 (by decide) ?_
    refine gV_callS (pc := 23) (As := [.ref (ad 4), .int (nI (16 * r)), .int (nI (16 * r + 16)), .int 0]) (rest := []) C ml_X1_25 gy_J7_fill_fda19 gs_J7_fill_fda19 (c_fill (a := 16 * r) (b := 16 * r + 16) (by omega) (by omega) (by omega))  rfl rfl ⟨by decide, by decide⟩ (Nat.le_of_ble_eq_true rfl) (by decide) (by decide) dX1_zero_23 ?_
    rintro _ _ ⟨rfl, rfl⟩
    refine gV_vret (pc := 26) C dX1_zero_26 (by decide) (by decide) ?_
    exact ⟨rfl, rfl⟩
abbrev rm_X1_copyWords : Room := { frames := 1, cells := 0, slots := 0, locals := 60 }
set_option maxHeartbeats 4000000 in
set_option maxRecDepth 100000 in
/-- Rows.copyWords -/
theorem c_copyWords11 {D : va_G} {ad : Nat → Nat} {ct : Nat → ClassId} {F S : Nat} {σ : ph_S} (row src : Int32) (hF : F ≤ 16) (hS : S ≤ 64) : gM yX1_copyWords cX1_copyWords 4 none rm_X1_copyWords D (gt ct) (cw ad ct F S σ) [.ref (ad 1), .int row, .ref (ad 1), .int src] (fun v w => v = none ∧ w = cw ad ct F S (ph_cpy F F 0 0 σ row src)) := by
  refine gM_in RX1 rfl (by decide) (Nat.le_of_ble_eq_true rfl) (fun X C => ?_)
  refine gV_aload_n (pc := 0) (x := ad 1) C dX1_copyWords_0 0 rfl rfl ?_
  refine gV_iload_n (pc := 1) C dX1_copyWords_1 1 rfl rfl ?_
  refine gV_callV (pc := 2) (As := [.int row]) (rest := []) C ml_X1_21 gy_X1_has gv_X1_has (c_has1 _) ⟨1, 1, _, _, rfl, rfl, rfl⟩ rfl rfl ⟨by decide, by decide⟩ (Nat.le_of_ble_eq_true rfl) (by decide) (by decide) dX1_copyWords_2 ?_
  rintro _ _ ⟨rfl, rfl⟩
  refine gV_if_eq (pc := 5) C 37 dX1_copyWords_5 (by decide) (fun c_1 => ?_) (fun c_1 => ?_)
  · skip
    refine gV_vret (pc := 37) C dX1_copyWords_37 (by decide) (by decide) ?_
    exact ⟨rfl, by rw [ph_cpy, if_pos c_1]; try rfl⟩
  · skip
    refine gV_aload_n (pc := 8) (x := ad 1) C dX1_copyWords_8 2 rfl rfl ?_
    refine gV_iload_n (pc := 9) C dX1_copyWords_9 3 rfl rfl ?_
    refine gV_callV (pc := 10) (As := [.int src]) (rest := []) C ml_X1_21 gy_X1_has gv_X1_has (c_has1 _) ⟨1, 1, _, _, rfl, rfl, rfl⟩ rfl rfl ⟨by decide, by decide⟩ (Nat.le_of_ble_eq_true rfl) (by decide) (by decide) dX1_copyWords_10 ?_
    rintro _ _ ⟨rfl, rfl⟩
    refine gV_if_eq (pc := 13) C 37 dX1_copyWords_13 (by decide) (fun c_2 => ?_) (fun c_2 => ?_)
    · skip
      refine gV_vret (pc := 37) C dX1_copyWords_37 (by decide) (by decide) ?_
      exact ⟨rfl, by rw [ph_cpy, if_neg c_1, if_pos c_2]; try rfl⟩
    · skip
      refine gV_aload_n (pc := 16) (x := ad 1) C dX1_copyWords_16 2 rfl rfl ?_
      refine cg_words1 (pc := 17) C fl_X1_17 dX1_copyWords_17 ?_
      refine gV_iload_n (pc := 20) C dX1_copyWords_20 3 rfl rfl ?_
      refine gV_bipush (pc := 21) (v := 16) C dX1_copyWords_21 (by decide) ?_
      refine gV_imul (pc := 23) C dX1_copyWords_23 ?_
      refine gV_aload_n (pc := 24) (x := ad 1) C dX1_copyWords_24 0 rfl rfl ?_
      refine cg_words1 (pc := 25) C fl_X1_17 dX1_copyWords_25 ?_
      refine gV_iload_n (pc := 28) C dX1_copyWords_28 1 rfl rfl ?_
      refine gV_bipush (pc := 29) (v := 16) C dX1_copyWords_29 (by decide) ?_
      refine gV_imul (pc := 31) C dX1_copyWords_31 ?_
      refine gV_bipush (pc := 32) (v := 16) C dX1_copyWords_32 (by decide) ?_
      obtain ⟨j1, hj1, rfl⟩ := ph_has_in c_1 (by omega)
      obtain ⟨j2, hj2, rfl⟩ := ph_has_in c_2 (by omega)
      have e1 : (nI j1 * 16).toNatClampNeg = 16 * j1 := by rw [mul16, nI_clamp (by omega)]
      have e2 : (nI j2 * 16).toNatClampNeg = 16 * j2 := by rw [mul16, nI_clamp (by omega)]
      have e3 : (16 : Int32).toNatClampNeg = 16 := by decide
      refine gV_copyi (pc := 34) C w_copy_l w_copy_n w_copy_s w_sys 4 4 0 0 rfl rfl rfl rfl (by rw [mul16]; exact nI_pos (by omega)) (by rw [mul16]; exact nI_pos (by omega)) (by decide) (by rw [e2, e3]; omega) (by rw [e1, e3]; omega) (by decide) (by decide) dX1_copyWords_34 ?_
      refine gV_vret (pc := 37) C dX1_copyWords_37 (by decide) (by decide) ?_
      exact ⟨rfl, by rw [ph_cpy, if_neg c_1, if_neg c_2]; try rfl⟩
set_option maxHeartbeats 4000000 in
set_option maxRecDepth 100000 in
/-- Rows.copyWords -/
theorem c_copyWords12 {D : va_G} {ad : Nat → Nat} {ct : Nat → ClassId} {F S : Nat} {σ : ph_S} (row src : Int32) (hF : F ≤ 16) (hS : S ≤ 64) : gM yX1_copyWords cX1_copyWords 4 none rm_X1_copyWords D (gt ct) (cw ad ct F S σ) [.ref (ad 1), .int row, .ref (ad 2), .int src] (fun v w => v = none ∧ w = cw ad ct F S (ph_cpy F S 0 1 σ row src)) := by
  refine gM_in RX1 rfl (by decide) (Nat.le_of_ble_eq_true rfl) (fun X C => ?_)
  refine gV_aload_n (pc := 0) (x := ad 1) C dX1_copyWords_0 0 rfl rfl ?_
  refine gV_iload_n (pc := 1) C dX1_copyWords_1 1 rfl rfl ?_
  refine gV_callV (pc := 2) (As := [.int row]) (rest := []) C ml_X1_21 gy_X1_has gv_X1_has (c_has1 _) ⟨1, 1, _, _, rfl, rfl, rfl⟩ rfl rfl ⟨by decide, by decide⟩ (Nat.le_of_ble_eq_true rfl) (by decide) (by decide) dX1_copyWords_2 ?_
  rintro _ _ ⟨rfl, rfl⟩
  refine gV_if_eq (pc := 5) C 37 dX1_copyWords_5 (by decide) (fun c_1 => ?_) (fun c_1 => ?_)
  · skip
    refine gV_vret (pc := 37) C dX1_copyWords_37 (by decide) (by decide) ?_
    exact ⟨rfl, by rw [ph_cpy, if_pos c_1]; try rfl⟩
  · skip
    refine gV_aload_n (pc := 8) (x := ad 2) C dX1_copyWords_8 2 rfl rfl ?_
    refine gV_iload_n (pc := 9) C dX1_copyWords_9 3 rfl rfl ?_
    refine gV_callV (pc := 10) (As := [.int src]) (rest := []) C ml_X1_21 gy_X1_has gv_X1_has (c_has2 _) ⟨2, 1, _, _, rfl, rfl, rfl⟩ rfl rfl ⟨by decide, by decide⟩ (Nat.le_of_ble_eq_true rfl) (by decide) (by decide) dX1_copyWords_10 ?_
    rintro _ _ ⟨rfl, rfl⟩
    refine gV_if_eq (pc := 13) C 37 dX1_copyWords_13 (by decide) (fun c_2 => ?_) (fun c_2 => ?_)
    · skip
      refine gV_vret (pc := 37) C dX1_copyWords_37 (by decide) (by decide) ?_
      exact ⟨rfl, by rw [ph_cpy, if_neg c_1, if_pos c_2]; try rfl⟩
    · skip
      refine gV_aload_n (pc := 16) (x := ad 2) C dX1_copyWords_16 2 rfl rfl ?_
      refine cg_words2 (pc := 17) C fl_X1_17 dX1_copyWords_17 ?_
      refine gV_iload_n (pc := 20) C dX1_copyWords_20 3 rfl rfl ?_
      refine gV_bipush (pc := 21) (v := 16) C dX1_copyWords_21 (by decide) ?_
      refine gV_imul (pc := 23) C dX1_copyWords_23 ?_
      refine gV_aload_n (pc := 24) (x := ad 1) C dX1_copyWords_24 0 rfl rfl ?_
      refine cg_words1 (pc := 25) C fl_X1_17 dX1_copyWords_25 ?_
      refine gV_iload_n (pc := 28) C dX1_copyWords_28 1 rfl rfl ?_
      refine gV_bipush (pc := 29) (v := 16) C dX1_copyWords_29 (by decide) ?_
      refine gV_imul (pc := 31) C dX1_copyWords_31 ?_
      refine gV_bipush (pc := 32) (v := 16) C dX1_copyWords_32 (by decide) ?_
      obtain ⟨j1, hj1, rfl⟩ := ph_has_in c_1 (by omega)
      obtain ⟨j2, hj2, rfl⟩ := ph_has_in c_2 (by omega)
      have e1 : (nI j1 * 16).toNatClampNeg = 16 * j1 := by rw [mul16, nI_clamp (by omega)]
      have e2 : (nI j2 * 16).toNatClampNeg = 16 * j2 := by rw [mul16, nI_clamp (by omega)]
      have e3 : (16 : Int32).toNatClampNeg = 16 := by decide
      refine gV_copyi (pc := 34) C w_copy_l w_copy_n w_copy_s w_sys 6 4 0 0 rfl rfl rfl rfl (by rw [mul16]; exact nI_pos (by omega)) (by rw [mul16]; exact nI_pos (by omega)) (by decide) (by rw [e2, e3]; omega) (by rw [e1, e3]; omega) (by decide) (by decide) dX1_copyWords_34 ?_
      refine gV_vret (pc := 37) C dX1_copyWords_37 (by decide) (by decide) ?_
      exact ⟨rfl, by rw [ph_cpy, if_neg c_1, if_neg c_2]; try rfl⟩
set_option maxHeartbeats 4000000 in
set_option maxRecDepth 100000 in
/-- Rows.copyWords -/
theorem c_copyWords21 {D : va_G} {ad : Nat → Nat} {ct : Nat → ClassId} {F S : Nat} {σ : ph_S} (row src : Int32) (hF : F ≤ 16) (hS : S ≤ 64) : gM yX1_copyWords cX1_copyWords 4 none rm_X1_copyWords D (gt ct) (cw ad ct F S σ) [.ref (ad 2), .int row, .ref (ad 1), .int src] (fun v w => v = none ∧ w = cw ad ct F S (ph_cpy S F 1 0 σ row src)) := by
  refine gM_in RX1 rfl (by decide) (Nat.le_of_ble_eq_true rfl) (fun X C => ?_)
  refine gV_aload_n (pc := 0) (x := ad 2) C dX1_copyWords_0 0 rfl rfl ?_
  refine gV_iload_n (pc := 1) C dX1_copyWords_1 1 rfl rfl ?_
  refine gV_callV (pc := 2) (As := [.int row]) (rest := []) C ml_X1_21 gy_X1_has gv_X1_has (c_has2 _) ⟨2, 1, _, _, rfl, rfl, rfl⟩ rfl rfl ⟨by decide, by decide⟩ (Nat.le_of_ble_eq_true rfl) (by decide) (by decide) dX1_copyWords_2 ?_
  rintro _ _ ⟨rfl, rfl⟩
  refine gV_if_eq (pc := 5) C 37 dX1_copyWords_5 (by decide) (fun c_1 => ?_) (fun c_1 => ?_)
  · skip
    refine gV_vret (pc := 37) C dX1_copyWords_37 (by decide) (by decide) ?_
    exact ⟨rfl, by rw [ph_cpy, if_pos c_1]; try rfl⟩
  · skip
    refine gV_aload_n (pc := 8) (x := ad 1) C dX1_copyWords_8 2 rfl rfl ?_
    refine gV_iload_n (pc := 9) C dX1_copyWords_9 3 rfl rfl ?_
    refine gV_callV (pc := 10) (As := [.int src]) (rest := []) C ml_X1_21 gy_X1_has gv_X1_has (c_has1 _) ⟨1, 1, _, _, rfl, rfl, rfl⟩ rfl rfl ⟨by decide, by decide⟩ (Nat.le_of_ble_eq_true rfl) (by decide) (by decide) dX1_copyWords_10 ?_
    rintro _ _ ⟨rfl, rfl⟩
    refine gV_if_eq (pc := 13) C 37 dX1_copyWords_13 (by decide) (fun c_2 => ?_) (fun c_2 => ?_)
    · skip
      refine gV_vret (pc := 37) C dX1_copyWords_37 (by decide) (by decide) ?_
      exact ⟨rfl, by rw [ph_cpy, if_neg c_1, if_pos c_2]; try rfl⟩
    · skip
      refine gV_aload_n (pc := 16) (x := ad 1) C dX1_copyWords_16 2 rfl rfl ?_
      refine cg_words1 (pc := 17) C fl_X1_17 dX1_copyWords_17 ?_
      refine gV_iload_n (pc := 20) C dX1_copyWords_20 3 rfl rfl ?_
      refine gV_bipush (pc := 21) (v := 16) C dX1_copyWords_21 (by decide) ?_
      refine gV_imul (pc := 23) C dX1_copyWords_23 ?_
      refine gV_aload_n (pc := 24) (x := ad 2) C dX1_copyWords_24 0 rfl rfl ?_
      refine cg_words2 (pc := 25) C fl_X1_17 dX1_copyWords_25 ?_
      refine gV_iload_n (pc := 28) C dX1_copyWords_28 1 rfl rfl ?_
      refine gV_bipush (pc := 29) (v := 16) C dX1_copyWords_29 (by decide) ?_
      refine gV_imul (pc := 31) C dX1_copyWords_31 ?_
      refine gV_bipush (pc := 32) (v := 16) C dX1_copyWords_32 (by decide) ?_
      obtain ⟨j1, hj1, rfl⟩ := ph_has_in c_1 (by omega)
      obtain ⟨j2, hj2, rfl⟩ := ph_has_in c_2 (by omega)
      have e1 : (nI j1 * 16).toNatClampNeg = 16 * j1 := by rw [mul16, nI_clamp (by omega)]
      have e2 : (nI j2 * 16).toNatClampNeg = 16 * j2 := by rw [mul16, nI_clamp (by omega)]
      have e3 : (16 : Int32).toNatClampNeg = 16 := by decide
      refine gV_copyi (pc := 34) C w_copy_l w_copy_n w_copy_s w_sys 4 6 0 0 rfl rfl rfl rfl (by rw [mul16]; exact nI_pos (by omega)) (by rw [mul16]; exact nI_pos (by omega)) (by decide) (by rw [e2, e3]; omega) (by rw [e1, e3]; omega) (by decide) (by decide) dX1_copyWords_34 ?_
      refine gV_vret (pc := 37) C dX1_copyWords_37 (by decide) (by decide) ?_
      exact ⟨rfl, by rw [ph_cpy, if_neg c_1, if_neg c_2]; try rfl⟩
