theorem w_ml_62 : Cond.methodLink RX2 62 yX2_checkAddress ∈ pw_all := pw_t 201 (by decide +kernel) rfl
theorem w_ml_70 : Cond.methodLink RX2 70 yX2_checkRoom ∈ pw_all := pw_t 276 (by decide +kernel) rfl
def ph_ca (σ : ph_S) (p a : Int32) : Int32 := if a < 0 then 0 else if ph_hg σ p (a / 16) = 0 then 0 else 1
def ph_cr (F S : Nat) (σ : ph_S) (t : Int32) : Int32 := if t - nI (ph_cf (ph_R σ 0) F) ≤ nI (ph_cf (ph_R σ 1) S) then 1 else 0
def ph_sdT (S : Nat) (s i : Int32) : Nat := if ph_has S s = 0 then 1 else if i < 0 then 1 else if i < 16 then 0 else 1
def ph_sdV (σ : ph_S) (s i : Int32) : Int32 := ph_A σ 1 (s * 16 + i).toNatClampNeg
theorem ca_in {σ : ph_S} {p a : Int32} (h : ¬ ph_ca σ p a = 0) : ¬ a < 0 ∧ ¬ ph_hg σ p (a / 16) = 0 := by
  unfold ph_ca at h
  split at h
  · exact absurd rfl h
  · split at h
    · exact absurd rfl h
    · exact ⟨by assumption, by assumption⟩
theorem div16 {x : Nat} (h : x < 2 ^ 31) : nI x / 16 = nI (x / 16) := by
  rw [show (16 : Int32) = nI 16 from rfl]; exact pk_div h (by decide) (by decide)
theorem rem16 {x : Nat} (h : x < 2 ^ 31) : nI x - nI x / 16 * 16 = nI (x % 16) := by
  rw [show (16 : Int32) = nI 16 from rfl]; exact pk_rem h (by decide) (by decide)
/-- what the class's address check means, in numbers -/
theorem ca_nat {F S : Nat} {σ : ph_S} {p a : Int32} (hok : ph_ok F S σ) (h : ¬ ph_ca σ p a = 0) : ∃ P x m, P < 8 ∧ x < 16 * m ∧ m ≤ 32 ∧ p = nI P ∧ a = nI x ∧ ph_A σ 3 P = nI m := by
  obtain ⟨h1, h2⟩ := ca_in h
  obtain ⟨x, hx, rfl⟩ := nI_of h1
  rw [div16 hx] at h2
  obtain ⟨P, G, m, g1, g2, g3, rfl, g5, g6⟩ := hg_nat hok h2
  have : x / 16 = G := (nI_eq (by omega) (by omega)).mp g5
  exact ⟨P, x, m, g1, by omega, g3, rfl, rfl, g6⟩
theorem cpy_B (N N' kd ks : Nat) (σ : ph_S) (row src : Int32) (k a : Nat) : ph_B (ph_cpy N N' kd ks σ row src) k a = ph_B σ k a := by
  unfold ph_cpy; split
  · rfl
  · split <;> rfl
theorem B_sI (σ : ph_S) (k : Nat) (v : Int32) (k' a : Nat) : ph_B (ph_sI σ k v) k' a = ph_B σ k' a := rfl
theorem B_sR (σ : ph_S) (k j : Nat) (v : Option Nat) (k' a : Nat) : ph_B (ph_sR σ k j v) k' a = ph_B σ k' a := rfl
theorem B_sA (σ : ph_S) (k j : Nat) (v : Int32) (k' a : Nat) : ph_B (ph_sA σ k j v) k' a = ph_B σ k' a := rfl
theorem B_fA (σ : ph_S) (k : Nat) (f : Nat → Int32) (k' a : Nat) : ph_B (ph_fA σ k f) k' a = ph_B σ k' a := rfl
theorem lay_B (σ : ph_S) (a f k b : Nat) : ph_B (ph_lay σ a f) k b = if k = 1 ∧ b = a then nI f else ph_B σ k b := by
  unfold ph_lay; rw [B_sR, B_sB]
theorem br_B (F S : Nat) (σ : ph_S) (a f k b : Nat) : ph_B (ph_br F S σ a f) k b = if k = 1 ∧ b = a then nI f else ph_B σ k b := by
  unfold ph_br ph_br2; rw [B_sI, cpy_B, lay_B]
theorem own1_fr {F S : Nat} {σ : ph_S} {a : Nat} (h : ph_ok F S σ) (ha : a ∈ ph_L σ) : ∃ f, f < F ∧ ph_B (ph_own1 F S σ a) 1 a = nI f := by
  unfold ph_own1; split
  · exact ⟨_, tkN_lt h, by rw [br_B, if_pos ⟨rfl, rfl⟩]⟩
  · rename_i hh
    rcases h.fr ha with h1 | h1
    · exact absurd h1 hh
    · exact h1
theorem nb_B (F : Nat) (σ : ph_S) (q : Nat) (g : Int32) (f k b : Nat) : ph_B (ph_nb F σ q g f) k b = if b = q then (if k = 0 then g else if k = 1 then nI f else if k = 2 then -1 else if k = 3 then 1 else 0) else ph_B σ k b := by
  unfold ph_nb ph_zero
  rw [B_fA, lay_B]
  unfold ph_bi
  simp only [B_sB, B_nB]
  by_cases hb : b = q
  · subst hb
    simp only [and_true, if_true]
    by_cases h1 : k = 1
    · simp [h1]
    · by_cases h0 : k = 0
      · simp [h0]
      · by_cases h2 : k = 2
        · simp [h2]
        · by_cases h3 : k = 3 <;> simp [h0, h1, h2, h3]
  · simp [hb]
theorem cbd_B (F : Nat) (σ : ph_S) (a f q k b : Nat) : ph_B (ph_cbd F σ a f q) k b = if k = 3 ∧ b = a then ph_B (ph_nb F σ q (ph_B σ 0 a) f) 3 a - 1 else ph_B (ph_nb F σ q (ph_B σ 0 a) f) k b := by
  unfold ph_cbd ph_cb1 ph_cb2 ph_cb3
  rw [B_sI, B_sB, cpy_B, cpy_B]
theorem own_fr {F S : Nat} {σ σ' : ph_S} {r : Option Nat} {g : Int32} {b : Nat} (h : ph_ok F S σ) (hr : ∀ a, r = some a → a ∈ ph_L σ) (ho : ph_own F S σ r g b σ') : ∃ f, f < F ∧ ph_B σ' 1 b = nI f := by
  cases r with
  | none =>
    obtain ⟨-, rfl⟩ := ho
    exact ⟨_, tkN_lt (kept := -1) h, by rw [nb_B]; simp⟩
  | some a =>
    have ha := hr a rfl
    have h1 := ok_own1 h ha
    simp only [ph_own, ph_own2] at ho
    split at ho
    · obtain ⟨rfl, rfl⟩ := ho
      exact own1_fr h ha
    · obtain ⟨-, rfl⟩ := ho
      exact ⟨_, tkN_lt (kept := ph_B (ph_own1 F S σ a) 1 a) h1, by rw [cbd_B, if_neg (by omega), nb_B]; simp⟩
def ph_acc (σ : ph_S) : ph_S := ph_sI σ 1 (ph_I σ 1 + 1)
def ph_bo (σ : ph_S) (p a : Int32) : Option Nat := ph_R σ 2 (p * 32 + a / 16).toNatClampNeg
def ph_rdT (F S : Nat) (σ : ph_S) (p a : Int32) : Nat := if ph_ca σ p a = 0 then 1 else if ph_cr F S σ (ph_tr σ (ph_bo σ p a)) = 0 then 2 else 0
def ph_wrT (F S : Nat) (σ : ph_S) (p a : Int32) : Nat := if ph_ca σ p a = 0 then 1 else if ph_cr F S σ (ph_tw σ (ph_bo σ p a)) = 0 then 2 else 0
def ph_rd2 (F S : Nat) (σ : ph_S) (b : Nat) : ph_S := ph_sA (ph_own1 F S σ b) 2 (ph_B (ph_own1 F S σ b) 1 b).toNatClampNeg 1
def ph_rdW (F S : Nat) (σ : ph_S) (r : Option Nat) : ph_S := match r with
  | none => σ
  | some b => ph_rd2 F S σ b
def ph_rdV (F S : Nat) (σ : ph_S) (r : Option Nat) (a : Int32) : Int32 := match r with
  | none => 0
  | some b => ph_A (ph_rd2 F S σ b) 0 (ph_B (ph_rd2 F S σ b) 1 b * 16 + (a - a / 16 * 16)).toNatClampNeg
def ph_wr2 (σ : ph_S) (b s : Nat) (a v : Int32) : ph_S := ph_sB (ph_sA (ph_sA (ph_sR σ 2 s (some b)) 2 (ph_B (ph_sR σ 2 s (some b)) 1 b).toNatClampNeg 1) 0 (ph_B (ph_sA (ph_sR σ 2 s (some b)) 2 (ph_B (ph_sR σ 2 s (some b)) 1 b).toNatClampNeg 1) 1 b * 16 + (a - a / 16 * 16)).toNatClampNeg v) 4 b 1
theorem wrd_in {F f x : Nat} {z a : Int32} (hF : F ≤ 16) (hf : f < F) (hx : x < 2 ^ 31) (hz : z = nI f) (ha : a = nI x) : vp_in (z * 16 + (a - a / 16 * 16)) (16 * F) := by
  rw [hz, ha, rem16 hx, mul16, nI_add]
  exact vp_in_nI (by omega) (by omega)
abbrev rm_X2_checkAddress : Room := { frames := 7, cells := 1, slots := 6, locals := 120 }
set_option maxHeartbeats 4000000 in
set_option maxRecDepth 100000 in
/-- checkAddress -/
theorem c_checkAddress {D : va_G} {ad : Nat → Nat} {ct : Nat → ClassId} {F S : Nat} {σ : ph_S} (p a : Int32) : gMX yX2_checkAddress cX2_checkAddress 3 none rm_X2_checkAddress D (gt ct) (cw ad ct F S σ) [.ref (ad 0), .int p, .int a] (fun v w => v = none ∧ w = cw ad ct F S σ ∧ ¬ ph_ca σ p a = 0) (fun E w => E = "java/lang/IndexOutOfBoundsException" ∧ w = cw ad ct F S σ ∧ ph_ca σ p a = 0) := by
  refine gMX_in RX2 rfl (by decide) (Nat.le_of_ble_eq_true rfl) (fun X C CX => ?_)
  refine gV_iload_n (pc := 0) C dX2_checkAddress_0 2 rfl rfl ?_
  refine gV_if_lt (pc := 1) C 16 dX2_checkAddress_1 (by decide) (fun c_1 => ?_) (fun c_1 => ?_)
  · skip
    refine gV_throwS (pc := 16) C CX (cls := "java/lang/IndexOutOfBoundsException") (text := "no such process or address") (names := ["java/lang/RuntimeException", "java/lang/Exception"]) (by decide) (by decide) w_iob_k w_iob_i (fun _ _ _ h => h.2.2.1) w_iob_1 w_iob_2 w_iob_3 dX2_checkAddress_16 dX2_checkAddress_19 dX2_checkAddress_20 dX2_checkAddress_22 dX2_checkAddress_25 (by decide) (Nat.le_of_ble_eq_true rfl) (by decide) (by decide) ?_
    exact ⟨rfl, rfl, by rw [ph_ca, if_pos c_1]⟩
  · skip
    refine gV_aload_n (pc := 4) (x := ad 0) C dX2_checkAddress_4 0 rfl rfl ?_
    refine gV_iload_n (pc := 5) C dX2_checkAddress_5 1 rfl rfl ?_
    refine gV_iload_n (pc := 6) C dX2_checkAddress_6 2 rfl rfl ?_
    refine gV_bipush (pc := 7) (v := 16) C dX2_checkAddress_7 (by decide) ?_
    refine gV_idiv (pc := 9) C dX2_checkAddress_9 (by decide) ?_
    refine gV_callV (pc := 10) (As := [.int p, .int (a / 16)]) (rest := []) C ml_X2_101 gy_X2_hasPage gv_X2_hasPage (c_hasPage _ _) ⟨0, 2, _, _, rfl, rfl, rfl⟩ rfl rfl ⟨by decide, by decide⟩ (Nat.le_of_ble_eq_true rfl) (by decide) (by decide) dX2_checkAddress_10 ?_
    rintro _ _ ⟨rfl, rfl⟩
    refine gV_if_ne (pc := 13) C 26 dX2_checkAddress_13 (by decide) (fun c_2 => ?_) (fun c_2 => ?_)
    · skip
      refine gV_vret (pc := 26) C dX2_checkAddress_26 (by decide) (by decide) ?_
      exact ⟨rfl, rfl, by rw [ph_ca, if_neg c_1, if_neg c_2]; decide⟩
    · skip
      refine gV_throwS (pc := 16) C CX (cls := "java/lang/IndexOutOfBoundsException") (text := "no such process or address") (names := ["java/lang/RuntimeException", "java/lang/Exception"]) (by decide) (by decide) w_iob_k w_iob_i (fun _ _ _ h => h.2.2.1) w_iob_1 w_iob_2 w_iob_3 dX2_checkAddress_16 dX2_checkAddress_19 dX2_checkAddress_20 dX2_checkAddress_22 dX2_checkAddress_25 (by decide) (Nat.le_of_ble_eq_true rfl) (by decide) (by decide) ?_
      exact ⟨rfl, rfl, by rw [ph_ca, if_neg c_1, if_pos c_2]⟩
abbrev rm_X2_checkRoom : Room := { frames := 7, cells := 1, slots := 6, locals := 120 }
set_option maxHeartbeats 4000000 in
set_option maxRecDepth 100000 in
/-- checkRoom -/
theorem c_checkRoom {D : va_G} {ad : Nat → Nat} {ct : Nat → ClassId} {F S : Nat} {σ : ph_S} (t : Int32) (hF : F ≤ 16) (hS : S ≤ 64) : gMX yX2_checkRoom cX2_checkRoom 2 none rm_X2_checkRoom D (gt ct) (cw ad ct F S σ) [.ref (ad 0), .int t] (fun v w => v = none ∧ w = cw ad ct F S σ ∧ ¬ ph_cr F S σ t = 0) (fun E w => E = "java/lang/IllegalStateException" ∧ w = cw ad ct F S σ ∧ ph_cr F S σ t = 0) := by
  refine gMX_in RX2 rfl (by decide) (Nat.le_of_ble_eq_true rfl) (fun X C CX => ?_)
  refine gV_iload_n (pc := 0) C dX2_checkRoom_0 1 rfl rfl ?_
  refine gV_aload_n (pc := 1) (x := ad 0) C dX2_checkRoom_1 0 rfl rfl ?_
  refine cg_frames (pc := 2) C fl_X2_23 dX2_checkRoom_2 ?_
  refine gV_callV (pc := 5) (As := []) (rest := [.int t]) C ml_X2_108 gy_X1_countFree gv_X1_countFree (c_countFree1 (by omega)) ⟨1, 1, _, _, rfl, rfl, rfl⟩ rfl rfl ⟨by decide, by decide⟩ (Nat.le_of_ble_eq_true rfl) (by decide) (by decide) dX2_checkRoom_5 ?_
  rintro _ _ ⟨rfl, rfl⟩
  refine gV_isub (pc := 8) C dX2_checkRoom_8 ?_
  refine gV_aload_n (pc := 9) (x := ad 0) C dX2_checkRoom_9 0 rfl rfl ?_
  refine cg_sectors (pc := 10) C fl_X2_27 dX2_checkRoom_10 ?_
  refine gV_callV (pc := 13) (As := []) (rest := [.int (t - (nI (ph_cf (ph_R σ 0) F)))]) C ml_X2_108 gy_X1_countFree gv_X1_countFree (c_countFree2 (by omega)) ⟨2, 1, _, _, rfl, rfl, rfl⟩ rfl rfl ⟨by decide, by decide⟩ (Nat.le_of_ble_eq_true rfl) (by decide) (by decide) dX2_checkRoom_13 ?_
  rintro _ _ ⟨rfl, rfl⟩
  refine gV_icmp_le (pc := 16) C 29 dX2_checkRoom_16 (by decide) (fun c_1 => ?_) (fun c_1 => ?_)
  · skip
    refine gV_vret (pc := 29) C dX2_checkRoom_29 (by decide) (by decide) ?_
    exact ⟨rfl, rfl, by rw [ph_cr, if_pos c_1]; decide⟩
  · skip
    refine gV_throwS (pc := 19) C CX (cls := "java/lang/IllegalStateException") (text := "no room") (names := ["java/lang/RuntimeException", "java/lang/Exception"]) (by decide) (by decide) w_ise_k w_ise_i (fun _ _ _ h => h.2.2.2.1) w_ise_1 w_ise_2 w_ise_3 dX2_checkRoom_19 dX2_checkRoom_22 dX2_checkRoom_23 dX2_checkRoom_25 dX2_checkRoom_28 (by decide) (Nat.le_of_ble_eq_true rfl) (by decide) (by decide) ?_
    exact ⟨rfl, rfl, by rw [ph_cr, if_neg c_1]⟩
abbrev rm_X2_stored : Room := { frames := 7, cells := 1, slots := 6, locals := 120 }
set_option maxHeartbeats 4000000 in
set_option maxRecDepth 100000 in
/-- stored -/
theorem c_stored {D : va_G} {ad : Nat → Nat} {ct : Nat → ClassId} {F S : Nat} {σ : ph_S} (s i : Int32) (hF : F ≤ 16) (hS : S ≤ 64) : gMX yX2_stored cX2_stored 3 (some .int) rm_X2_stored D (gt ct) (cw ad ct F S σ) [.ref (ad 0), .int s, .int i] (fun v w => ph_sdT S s i = 0 ∧ v = some (.int (ph_sdV σ s i)) ∧ w = cw ad ct F S σ) (fun E w => E = "java/lang/IndexOutOfBoundsException" ∧ w = cw ad ct F S σ ∧ ph_sdT S s i = 1) := by
  refine gMX_in RX2 rfl (by decide) (Nat.le_of_ble_eq_true rfl) (fun X C CX => ?_)
  refine gV_aload_n (pc := 0) (x := ad 0) C dX2_stored_0 0 rfl rfl ?_
  refine cg_sectors (pc := 1) C fl_X2_27 dX2_stored_1 ?_
  refine gV_iload_n (pc := 4) C dX2_stored_4 1 rfl rfl ?_
  refine gV_callV (pc := 5) (As := [.int s]) (rest := []) C ml_X2_121 gy_X1_has gv_X1_has (c_has2 _) ⟨2, 1, _, _, rfl, rfl, rfl⟩ rfl rfl ⟨by decide, by decide⟩ (Nat.le_of_ble_eq_true rfl) (by decide) (by decide) dX2_stored_5 ?_
  rintro _ _ ⟨rfl, rfl⟩
  refine gV_if_eq (pc := 8) C 21 dX2_stored_8 (by decide) (fun c_1 => ?_) (fun c_1 => ?_)
  · skip
    refine gV_throwS (pc := 21) C CX (cls := "java/lang/IndexOutOfBoundsException") (text := "no such sector or word") (names := ["java/lang/RuntimeException", "java/lang/Exception"]) (by decide) (by decide) w_iob_k w_iob_i (fun _ _ _ h => h.2.2.2.2) w_iob_1 w_iob_2 w_iob_3 dX2_stored_21 dX2_stored_24 dX2_stored_25 dX2_stored_27 dX2_stored_30 (by decide) (Nat.le_of_ble_eq_true rfl) (by decide) (by decide) ?_
    exact ⟨rfl, rfl, by rw [ph_sdT, if_pos c_1]⟩
  · skip
    refine gV_iload_n (pc := 11) C dX2_stored_11 2 rfl rfl ?_
    refine gV_if_lt (pc := 12) C 21 dX2_stored_12 (by decide) (fun c_2 => ?_) (fun c_2 => ?_)
    · skip
      refine gV_throwS (pc := 21) C CX (cls := "java/lang/IndexOutOfBoundsException") (text := "no such sector or word") (names := ["java/lang/RuntimeException", "java/lang/Exception"]) (by decide) (by decide) w_iob_k w_iob_i (fun _ _ _ h => h.2.2.2.2) w_iob_1 w_iob_2 w_iob_3 dX2_stored_21 dX2_stored_24 dX2_stored_25 dX2_stored_27 dX2_stored_30 (by decide) (Nat.le_of_ble_eq_true rfl) (by decide) (by decide) ?_
      exact ⟨rfl, rfl, by rw [ph_sdT, if_neg c_1, if_pos c_2]⟩
    · skip
      refine gV_iload_n (pc := 15) C dX2_stored_15 2 rfl rfl ?_
      refine gV_bipush (pc := 16) (v := 16) C dX2_stored_16 (by decide) ?_
      refine gV_icmp_lt (pc := 18) C 31 dX2_stored_18 (by decide) (fun c_3 => ?_) (fun c_3 => ?_)
      · skip
        refine gV_aload_n (pc := 31) (x := ad 0) C dX2_stored_31 0 rfl rfl ?_
        refine cg_sectors (pc := 32) C fl_X2_27 dX2_stored_32 ?_
        refine cg_words2 (pc := 35) C fl_X2_87 dX2_stored_35 ?_
        refine gV_iload_n (pc := 38) C dX2_stored_38 1 rfl rfl ?_
        refine gV_bipush (pc := 39) (v := 16) C dX2_stored_39 (by decide) ?_
        refine gV_imul (pc := 41) C dX2_stored_41 ?_
        refine gV_iload_n (pc := 42) C dX2_stored_42 2 rfl rfl ?_
        refine gV_iadd (pc := 43) C dX2_stored_43 ?_
        refine ca_sw (pc := 44) C (by obtain ⟨j, hj, e⟩ := ph_has_in c_1 (by omega); obtain ⟨z, hz, e2⟩ := nI_of c_2; rw [e, e2, mul16, nI_add]; exact vp_in_nI (by have h9 : z < 16 := Nat.lt_of_not_le (fun h => (nI_nlt (b := 16) h hz) (by rw [← e2]; exact c_3)); omega) (by omega)) dX2_stored_44 ?_
        refine gV_iret (pc := 45) C dX2_stored_45 (by decide) (by decide) ?_
        exact ⟨by rw [ph_sdT, if_neg c_1, if_neg c_2, if_pos c_3], rfl, rfl⟩
      · skip
        refine gV_throwS (pc := 21) C CX (cls := "java/lang/IndexOutOfBoundsException") (text := "no such sector or word") (names := ["java/lang/RuntimeException", "java/lang/Exception"]) (by decide) (by decide) w_iob_k w_iob_i (fun _ _ _ h => h.2.2.2.2) w_iob_1 w_iob_2 w_iob_3 dX2_stored_21 dX2_stored_24 dX2_stored_25 dX2_stored_27 dX2_stored_30 (by decide) (Nat.le_of_ble_eq_true rfl) (by decide) (by decide) ?_
        exact ⟨rfl, rfl, by rw [ph_sdT, if_neg c_1, if_neg c_2, if_neg c_3]⟩
abbrev rm_X2_read : Room := { frames := 8, cells := 2, slots := 12, locals := 149 }
set_option maxHeartbeats 4000000 in
set_option maxRecDepth 100000 in
/-- read -/
theorem c_read {D : va_G} {ad : Nat → Nat} {ct : Nat → ClassId} {F S : Nat} {σ : ph_S} (p a : Int32) (hok : ph_ok F S σ) : gMX yX2_read cX2_read 4 (some .int) rm_X2_read D (gt ct) (cw ad ct F S σ) [.ref (ad 0), .int p, .int a] (fun v w => ph_rdT F S σ p a = 0 ∧ v = some (.int (ph_rdV F S (ph_acc σ) (ph_bo σ p a) a)) ∧ w = cw ad ct F S (ph_rdW F S (ph_acc σ) (ph_bo σ p a))) (fun E w => w = cw ad ct F S σ ∧ ((ph_rdT F S σ p a = 1 ∧ E = "java/lang/IndexOutOfBoundsException") ∨ (ph_rdT F S σ p a = 2 ∧ E = "java/lang/IllegalStateException"))) := by
  refine gMX_in RX2 rfl (by decide) (Nat.le_of_ble_eq_true rfl) (fun X C CX => ?_)
  have hF := hok.F16
  have hS := hok.S64
  refine gV_aload_n (pc := 0) (x := ad 0) C dX2_read_0 0 rfl rfl ?_
  refine gV_iload_n (pc := 1) C dX2_read_1 1 rfl rfl ?_
  refine gV_iload_n (pc := 2) C dX2_read_2 2 rfl rfl ?_
  refine gV_callVX (pc := 3) (As := [.int p, .int a]) (rest := []) C CX w_ml_62 gy_X2_checkAddress gv_X2_checkAddress (c_checkAddress p a) ⟨0, 2, _, _, rfl, rfl, rfl⟩ rfl rfl ⟨by decide, by decide⟩ (Nat.le_of_ble_eq_true rfl) (by decide) (by decide) dX2_read_3 (by rintro _ _ ⟨rfl, rfl, h⟩; exact ⟨rfl, Or.inl ⟨by rw [ph_rdT, if_pos h], rfl⟩⟩) ?_
  rintro _ _ ⟨rfl, rfl, hca⟩
  obtain ⟨P, x, m, hP, hx0, hm, rfl, rfl, em⟩ := ca_nat hok hca
  have hx : x < 2 ^ 31 := by omega
  have hsl := hg_slot hok (ca_in hca).2
  refine gV_aload_n (pc := 6) (x := ad 0) C dX2_read_6 0 rfl rfl ?_
  refine cg_bodies (pc := 7) C fl_X2_40 dX2_read_7 ?_
  refine gV_iload_n (pc := 10) C dX2_read_10 1 rfl rfl ?_
  refine gV_iload_n (pc := 11) C dX2_read_11 2 rfl rfl ?_
  refine gV_bipush (pc := 12) (v := 16) C dX2_read_12 (by decide) ?_
  refine gV_idiv (pc := 14) C dX2_read_14 (by decide) ?_
  refine gV_callS (pc := 15) (As := [.int (nI P), .int ((nI x) / 16)]) (rest := [.ref (ad 9)]) C ml_X2_52 gy_X2_slot gs_X2_slot (c_slot _ _)  rfl rfl ⟨by decide, by decide⟩ (Nat.le_of_ble_eq_true rfl) (by decide) (by decide) dX2_read_15 ?_
  rintro _ _ ⟨rfl, rfl⟩
  refine ca_bo (pc := 18) C hsl dX2_read_18 ?_
  cases er_1 : ph_R σ 2 (((nI P) * 32 + ((nI x) / 16)).toNatClampNeg) with
  | none =>
    refine gV_astoreq_n (pc := 19) (r := none) (lv' := [(3, .null), (0, .ref (ad 0)), (1, .int (nI P)), (2, .int (nI x))]) C dX2_read_19 rfl (by decide) rfl ?_
    refine gV_aload_n (pc := 20) (x := ad 0) C dX2_read_20 1 rfl rfl ?_
    refine gV_aloadq_n (pc := 21) (r := none) C dX2_read_21 0 rfl rfl ?_
    refine gV_callS (pc := 22) (As := [.null]) (rest := [.ref (ad 0)]) C ml_X2_66 gy_X2_takesToRead gs_X2_takesToRead (c_takesToRead (none) hok (fun _ h => nomatch h))  rfl rfl ⟨by decide, by decide⟩ (Nat.le_of_ble_eq_true rfl) (by decide) (by decide) dX2_read_22 ?_
    rintro _ _ ⟨rfl, rfl⟩
    refine gV_callVX (pc := 25) (As := [.int (ph_tr σ (none))]) (rest := []) C CX w_ml_70 gy_X2_checkRoom gv_X2_checkRoom (c_checkRoom (ph_tr σ (none)) (by omega) (by omega)) ⟨0, 2, _, _, rfl, rfl, rfl⟩ rfl rfl ⟨by decide, by decide⟩ (Nat.le_of_ble_eq_true rfl) (by decide) (by decide) dX2_read_25 (by rintro _ _ ⟨rfl, rfl, h⟩; exact ⟨rfl, Or.inr ⟨by rw [ph_rdT, if_neg hca, ph_bo, er_1]; exact if_pos h, rfl⟩⟩) ?_
    rintro _ _ ⟨rfl, rfl, hcr⟩
    refine gV_aload_n (pc := 28) (x := ad 0) C dX2_read_28 1 rfl rfl ?_
    refine gV_dup (pc := 29) C dX2_read_29 rfl ?_
    refine cg_accesses (pc := 30) C fl_X2_73 dX2_read_30 ?_
    refine gV_iconst (pc := 33) (v := 1) C dX2_read_33 (by decide) ?_
    refine gV_iadd (pc := 34) C dX2_read_34 ?_
    refine cp_accesses (pc := 35) C fl_X2_73 dX2_read_35 ?_
    refine gV_aloadq_n (pc := 38) (r := none) C dX2_read_38 0 rfl rfl ?_
    refine gV_ifnonnull (pc := 39) (r := none) C 44 dX2_read_39 (by decide) (fun _ h => nomatch h) (fun _ => ?_)
    refine gV_iconst (pc := 42) (v := 0) C dX2_read_42 (by decide) ?_
    refine gV_iret (pc := 43) C dX2_read_43 (by decide) (by decide) ?_
    exact ⟨by rw [ph_rdT, if_neg hca, ph_bo, er_1]; exact if_neg hcr, by rw [ph_bo, er_1]; rfl, by rw [ph_bo, er_1]; rfl⟩
  | some a_1 =>
    have m_1 : a_1 ∈ ph_L σ := hok.refs _ _ _ er_1
    refine gV_astore_n (pc := 19) (x := a_1) (lv' := [(3, .ref a_1), (0, .ref (ad 0)), (1, .int (nI P)), (2, .int (nI x))]) C dX2_read_19 rfl (by decide) rfl ?_
    refine gV_aload_n (pc := 20) (x := ad 0) C dX2_read_20 1 rfl rfl ?_
    refine gV_aload_n (pc := 21) (x := a_1) C dX2_read_21 0 rfl rfl ?_
    refine gV_callS (pc := 22) (As := [.ref a_1]) (rest := [.ref (ad 0)]) C ml_X2_66 gy_X2_takesToRead gs_X2_takesToRead (c_takesToRead (some a_1) hok (fun _ h => by cases h; exact m_1))  rfl rfl ⟨by decide, by decide⟩ (Nat.le_of_ble_eq_true rfl) (by decide) (by decide) dX2_read_22 ?_
    rintro _ _ ⟨rfl, rfl⟩
    refine gV_callVX (pc := 25) (As := [.int (ph_tr σ (some a_1))]) (rest := []) C CX w_ml_70 gy_X2_checkRoom gv_X2_checkRoom (c_checkRoom (ph_tr σ (some a_1)) (by omega) (by omega)) ⟨0, 2, _, _, rfl, rfl, rfl⟩ rfl rfl ⟨by decide, by decide⟩ (Nat.le_of_ble_eq_true rfl) (by decide) (by decide) dX2_read_25 (by rintro _ _ ⟨rfl, rfl, h⟩; exact ⟨rfl, Or.inr ⟨by rw [ph_rdT, if_neg hca, ph_bo, er_1]; exact if_pos h, rfl⟩⟩) ?_
    rintro _ _ ⟨rfl, rfl, hcr⟩
    refine gV_aload_n (pc := 28) (x := ad 0) C dX2_read_28 1 rfl rfl ?_
    refine gV_dup (pc := 29) C dX2_read_29 rfl ?_
    refine cg_accesses (pc := 30) C fl_X2_73 dX2_read_30 ?_
    refine gV_iconst (pc := 33) (v := 1) C dX2_read_33 (by decide) ?_
    refine gV_iadd (pc := 34) C dX2_read_34 ?_
    refine cp_accesses (pc := 35) C fl_X2_73 dX2_read_35 ?_
    refine gV_aload_n (pc := 38) (x := a_1) C dX2_read_38 0 rfl rfl ?_
    refine gV_ifnonnull (pc := 39) (r := some a_1) C 44 dX2_read_39 (by decide) (fun _ _ => ?_) (fun h => nomatch h)
    have m_b : a_1 ∈ ph_L (ph_acc σ) := m_1
    have hok1 : ph_ok F S (ph_acc σ) := ok_sI hok _ (by decide)
    obtain ⟨f, hf, ef⟩ := own1_fr hok1 m_b
    have hfr : vp_in (ph_B (ph_own1 F S (ph_acc σ) a_1) 1 a_1) F := by rw [ef]; exact vp_in_nI hf (by omega)
    refine gV_aload_n (pc := 44) (x := a_1) C dX2_read_44 0 rfl rfl ?_
    refine cg_b_frame (pc := 45) (σ := ph_sI σ 1 ((ph_I σ 1) + 1)) C m_1 fl_X2_76 dX2_read_45 ?_
    refine gV_iconst (pc := 48) (v := (-1)) C dX2_read_48 (by decide) ?_
    refine gV_icmp_ne (pc := 49) C 62 dX2_read_49 (by decide) (fun c_2 => ?_) (fun c_2 => ?_)
    · skip
      refine gV_ws (congrArg (cw ad ct F S) (show ph_sI σ 1 ((ph_I σ 1) + 1) = ph_own1 F S (ph_acc σ) a_1 by unfold ph_own1; exact (if_neg c_2).symm)) ?_
      have m_o : a_1 ∈ ph_L (ph_own1 F S (ph_acc σ) a_1) := by rw [ph_own1_L]; exact m_b
      refine gV_aload_n (pc := 62) (x := ad 0) C dX2_read_62 1 rfl rfl ?_
      refine cg_used (pc := 63) C fl_X2_30 dX2_read_63 ?_
      refine gV_aload_n (pc := 66) (x := a_1) C dX2_read_66 0 rfl rfl ?_
      refine cg_b_frame (pc := 67) (σ := ph_own1 F S (ph_acc σ) a_1) C m_o fl_X2_76 dX2_read_67 ?_
      refine gV_iconst (pc := 70) (v := 1) C dX2_read_70 (by decide) ?_
      refine cs_us (pc := 71) C hfr (by decide) dX2_read_71 ?_
      refine gV_aload_n (pc := 72) (x := ad 0) C dX2_read_72 1 rfl rfl ?_
      refine cg_frames (pc := 73) C fl_X2_23 dX2_read_73 ?_
      refine cg_words1 (pc := 76) C fl_X2_87 dX2_read_76 ?_
      refine gV_aload_n (pc := 79) (x := a_1) C dX2_read_79 0 rfl rfl ?_
      refine cg_b_frame (pc := 80) (σ := ph_sA (ph_own1 F S (ph_acc σ) a_1) 2 ((ph_B (ph_own1 F S (ph_acc σ) a_1) 1 a_1).toNatClampNeg) 1) C m_o fl_X2_76 dX2_read_80 ?_
      refine gV_bipush (pc := 83) (v := 16) C dX2_read_83 (by decide) ?_
      refine gV_imul (pc := 85) C dX2_read_85 ?_
      refine gV_iload_n (pc := 86) C dX2_read_86 3 rfl rfl ?_
      refine gV_bipush (pc := 87) (v := 16) C dX2_read_87 (by decide) ?_
      refine gV_irem (pc := 89) C dX2_read_89 (by decide) ?_
      refine gV_iadd (pc := 90) C dX2_read_90 ?_
      refine ca_fw (pc := 91) C (wrd_in (by omega) hf hx ef rfl) dX2_read_91 ?_
      refine gV_iret (pc := 92) C dX2_read_92 (by decide) (by decide) ?_
      exact ⟨by rw [ph_rdT, if_neg hca, ph_bo, er_1]; exact if_neg hcr, by rw [ph_bo, er_1]; rfl, by rw [ph_bo, er_1]; rfl⟩
    · skip
      refine gV_aload_n (pc := 52) (x := ad 0) C dX2_read_52 1 rfl rfl ?_
      refine gV_aload_n (pc := 53) (x := a_1) C dX2_read_53 0 rfl rfl ?_
      refine gV_aload_n (pc := 54) (x := ad 0) C dX2_read_54 1 rfl rfl ?_
      refine gV_iconst (pc := 55) (v := (-1)) C dX2_read_55 (by decide) ?_
      refine gV_callV (pc := 56) (As := [.int ((-1))]) (rest := [.ref a_1, .ref (ad 0)]) C ml_X2_79 gy_X2_take gv_X2_take (c_take ((-1)) hok1) ⟨0, 2, _, _, rfl, rfl, rfl⟩ rfl rfl ⟨by decide, by decide⟩ (Nat.le_of_ble_eq_true rfl) (by decide) (by decide) dX2_read_56 ?_
      rintro _ _ ⟨rfl, rfl⟩
      have m_8 : a_1 ∈ ph_L (ph_tkS F S ((-1)) (ph_sI σ 1 ((ph_I σ 1) + 1))) := by rw [ph_tkS_L]; exact m_1
      refine gV_callV (pc := 59) (As := [.ref a_1, .int (nI (ph_tkN F S ((-1)) (ph_sI σ 1 ((ph_I σ 1) + 1))))]) (rest := []) C ml_X2_83 gy_X2_bring gv_X2_bring (c_bring (a := a_1) (f := (ph_tkN F S ((-1)) (ph_sI σ 1 ((ph_I σ 1) + 1)))) (ok_tkS hok1) m_8 (tkN_lt hok1)) ⟨0, 2, _, _, rfl, rfl, rfl⟩ rfl rfl ⟨by decide, by decide⟩ (Nat.le_of_ble_eq_true rfl) (by decide) (by decide) dX2_read_59 ?_
      rintro _ _ ⟨rfl, rfl⟩
      have m_9 : a_1 ∈ ph_L (ph_br F S (ph_tkS F S ((-1)) (ph_sI σ 1 ((ph_I σ 1) + 1))) a_1 (ph_tkN F S ((-1)) (ph_sI σ 1 ((ph_I σ 1) + 1)))) := by rw [ph_br_L]; exact m_8
      refine gV_ws (congrArg (cw ad ct F S) (show ph_br F S (ph_tkS F S ((-1)) (ph_sI σ 1 ((ph_I σ 1) + 1))) a_1 (ph_tkN F S ((-1)) (ph_sI σ 1 ((ph_I σ 1) + 1))) = ph_own1 F S (ph_acc σ) a_1 by unfold ph_own1; exact (if_pos c_2).symm)) ?_
      have m_o : a_1 ∈ ph_L (ph_own1 F S (ph_acc σ) a_1) := by rw [ph_own1_L]; exact m_b
      refine gV_aload_n (pc := 62) (x := ad 0) C dX2_read_62 1 rfl rfl ?_
      refine cg_used (pc := 63) C fl_X2_30 dX2_read_63 ?_
      refine gV_aload_n (pc := 66) (x := a_1) C dX2_read_66 0 rfl rfl ?_
      refine cg_b_frame (pc := 67) (σ := ph_own1 F S (ph_acc σ) a_1) C m_o fl_X2_76 dX2_read_67 ?_
      refine gV_iconst (pc := 70) (v := 1) C dX2_read_70 (by decide) ?_
      refine cs_us (pc := 71) C hfr (by decide) dX2_read_71 ?_
      refine gV_aload_n (pc := 72) (x := ad 0) C dX2_read_72 1 rfl rfl ?_
      refine cg_frames (pc := 73) C fl_X2_23 dX2_read_73 ?_
      refine cg_words1 (pc := 76) C fl_X2_87 dX2_read_76 ?_
      refine gV_aload_n (pc := 79) (x := a_1) C dX2_read_79 0 rfl rfl ?_
      refine cg_b_frame (pc := 80) (σ := ph_sA (ph_own1 F S (ph_acc σ) a_1) 2 ((ph_B (ph_own1 F S (ph_acc σ) a_1) 1 a_1).toNatClampNeg) 1) C m_o fl_X2_76 dX2_read_80 ?_
      refine gV_bipush (pc := 83) (v := 16) C dX2_read_83 (by decide) ?_
      refine gV_imul (pc := 85) C dX2_read_85 ?_
      refine gV_iload_n (pc := 86) C dX2_read_86 3 rfl rfl ?_
      refine gV_bipush (pc := 87) (v := 16) C dX2_read_87 (by decide) ?_
      refine gV_irem (pc := 89) C dX2_read_89 (by decide) ?_
      refine gV_iadd (pc := 90) C dX2_read_90 ?_
      refine ca_fw (pc := 91) C (wrd_in (by omega) hf hx ef rfl) dX2_read_91 ?_
      refine gV_iret (pc := 92) C dX2_read_92 (by decide) (by decide) ?_
      exact ⟨by rw [ph_rdT, if_neg hca, ph_bo, er_1]; exact if_neg hcr, by rw [ph_bo, er_1]; rfl, by rw [ph_bo, er_1]; rfl⟩
abbrev rm_X2_write : Room := { frames := 8, cells := 3, slots := 17, locals := 171 }
set_option maxHeartbeats 4000000 in
set_option maxRecDepth 100000 in
/-- write -/
theorem c_write {D : va_G} {ad : Nat → Nat} {ct : Nat → ClassId} {F S : Nat} {σ : ph_S} (p a v : Int32) (hok : ph_ok F S σ) : gMX yX2_write cX2_write 8 (some .int) rm_X2_write D (gt ct) (cw ad ct F S σ) [.ref (ad 0), .int p, .int a, .int v] (fun r w => ph_wrT F S σ p a = 0 ∧ ∃ b σ2, ph_own F S (ph_acc σ) (ph_bo σ p a) (a / 16) b σ2 ∧ r = some (.int (ph_tw σ (ph_bo σ p a))) ∧ w = cw ad ct F S (ph_wr2 σ2 b (p * 32 + a / 16).toNatClampNeg a v)) (fun E w => w = cw ad ct F S σ ∧ ((ph_wrT F S σ p a = 1 ∧ E = "java/lang/IndexOutOfBoundsException") ∨ (ph_wrT F S σ p a = 2 ∧ E = "java/lang/IllegalStateException"))) := by
  refine gMX_in RX2 rfl (by decide) (Nat.le_of_ble_eq_true rfl) (fun X C CX => ?_)
  have hF := hok.F16
  have hS := hok.S64
  refine gV_aload_n (pc := 0) (x := ad 0) C dX2_write_0 0 rfl rfl ?_
  refine gV_iload_n (pc := 1) C dX2_write_1 1 rfl rfl ?_
  refine gV_iload_n (pc := 2) C dX2_write_2 2 rfl rfl ?_
  refine gV_callVX (pc := 3) (As := [.int p, .int a]) (rest := []) C CX w_ml_62 gy_X2_checkAddress gv_X2_checkAddress (c_checkAddress p a) ⟨0, 2, _, _, rfl, rfl, rfl⟩ rfl rfl ⟨by decide, by decide⟩ (Nat.le_of_ble_eq_true rfl) (by decide) (by decide) dX2_write_3 (by rintro _ _ ⟨rfl, rfl, h⟩; exact ⟨rfl, Or.inl ⟨by rw [ph_wrT, if_pos h], rfl⟩⟩) ?_
  rintro _ _ ⟨rfl, rfl, hca⟩
  obtain ⟨P, x, m, hP, hx0, hm, rfl, rfl, em⟩ := ca_nat hok hca
  have hx : x < 2 ^ 31 := by omega
  have hsl := hg_slot hok (ca_in hca).2
  refine gV_iload_n (pc := 6) C dX2_write_6 2 rfl rfl ?_
  refine gV_bipush (pc := 7) (v := 16) C dX2_write_7 (by decide) ?_
  refine gV_idiv (pc := 9) C dX2_write_9 (by decide) ?_
  refine gV_istore (pc := 10) (lv' := [(4, .int ((nI x) / 16)), (0, .ref (ad 0)), (1, .int (nI P)), (2, .int (nI x)), (3, .int v)]) C dX2_write_10 (by decide) rfl ?_
  refine gV_aload_n (pc := 12) (x := ad 0) C dX2_write_12 1 rfl rfl ?_
  refine cg_bodies (pc := 13) C fl_X2_40 dX2_write_13 ?_
  refine gV_iload_n (pc := 16) C dX2_write_16 2 rfl rfl ?_
  refine gV_iload (pc := 17) C dX2_write_17 0 rfl ?_
  refine gV_callS (pc := 19) (As := [.int (nI P), .int ((nI x) / 16)]) (rest := [.ref (ad 9)]) C ml_X2_52 gy_X2_slot gs_X2_slot (c_slot _ _)  rfl rfl ⟨by decide, by decide⟩ (Nat.le_of_ble_eq_true rfl) (by decide) (by decide) dX2_write_19 ?_
  rintro _ _ ⟨rfl, rfl⟩
  refine ca_bo (pc := 22) C hsl dX2_write_22 ?_
  cases er_1 : ph_R σ 2 (((nI P) * 32 + ((nI x) / 16)).toNatClampNeg) with
  | none =>
    refine gV_astoreq (pc := 23) (r := none) (lv' := [(5, .null), (4, .int ((nI x) / 16)), (0, .ref (ad 0)), (1, .int (nI P)), (2, .int (nI x)), (3, .int v)]) C dX2_write_23 (by decide) rfl ?_
    refine gV_aloadq (pc := 25) (r := none) C dX2_write_25 0 rfl ?_
    refine gV_callS (pc := 27) (As := [.null]) (rest := []) C ml_X2_90 gy_X2_takesToWrite gs_X2_takesToWrite (c_takesToWrite (none) hok (fun _ h => nomatch h))  rfl rfl ⟨by decide, by decide⟩ (Nat.le_of_ble_eq_true rfl) (by decide) (by decide) dX2_write_27 ?_
    rintro _ _ ⟨rfl, rfl⟩
    refine gV_istore (pc := 30) (lv' := [(6, .int (ph_tw σ (none))), (5, .null), (4, .int ((nI x) / 16)), (0, .ref (ad 0)), (1, .int (nI P)), (2, .int (nI x)), (3, .int v)]) C dX2_write_30 (by decide) rfl ?_
    refine gV_aload_n (pc := 32) (x := ad 0) C dX2_write_32 3 rfl rfl ?_
    refine gV_iload (pc := 33) C dX2_write_33 0 rfl ?_
    refine gV_callVX (pc := 35) (As := [.int (ph_tw σ (none))]) (rest := []) C CX w_ml_70 gy_X2_checkRoom gv_X2_checkRoom (c_checkRoom (ph_tw σ (none)) (by omega) (by omega)) ⟨0, 2, _, _, rfl, rfl, rfl⟩ rfl rfl ⟨by decide, by decide⟩ (Nat.le_of_ble_eq_true rfl) (by decide) (by decide) dX2_write_35 (by rintro _ _ ⟨rfl, rfl, h⟩; exact ⟨rfl, Or.inr ⟨by rw [ph_wrT, if_neg hca, ph_bo, er_1]; exact if_pos h, rfl⟩⟩) ?_
    rintro _ _ ⟨rfl, rfl, hcr⟩
    have hok1 : ph_ok F S (ph_acc σ) := ok_sI hok _ (by decide)
    have hr1 : ∀ z, (none : Option Nat) = some z → z ∈ ph_L (ph_acc σ) := fun _ h => nomatch h
    refine gV_aload_n (pc := 38) (x := ad 0) C dX2_write_38 3 rfl rfl ?_
    refine gV_dup (pc := 39) C dX2_write_39 rfl ?_
    refine cg_accesses (pc := 40) C fl_X2_73 dX2_write_40 ?_
    refine gV_iconst (pc := 43) (v := 1) C dX2_write_43 (by decide) ?_
    refine gV_iadd (pc := 44) C dX2_write_44 ?_
    refine cp_accesses (pc := 45) C fl_X2_73 dX2_write_45 ?_
    refine gV_aload_n (pc := 48) (x := ad 0) C dX2_write_48 3 rfl rfl ?_
    refine gV_aloadq (pc := 49) (r := none) C dX2_write_49 1 rfl ?_
    refine gV_iload (pc := 51) C dX2_write_51 2 rfl ?_
    refine gV_callV (pc := 53) (As := [.null, .int ((nI x) / 16)]) (rest := []) C ml_X2_93 gy_X2_ownBody gv_X2_ownBody (c_ownBody (r := none) (g := ((nI x) / 16)) hok1 hr1) ⟨0, 2, _, _, rfl, rfl, rfl⟩ rfl rfl ⟨by decide, by decide⟩ (Nat.le_of_ble_eq_true rfl) (by decide) (by decide) dX2_write_53 ?_
    rintro _ _ ⟨b, σ2, ho, rfl, rfl⟩
    obtain ⟨hok2, m_b⟩ := ok_own hok1 hr1 ⟨x / 16, by omega, div16 hx⟩ ho
    obtain ⟨f, hf, ef⟩ := own_fr hok1 hr1 ho
    have hfr : vp_in (ph_B σ2 1 b) F := by rw [ef]; exact vp_in_nI hf (by omega)
    refine gV_astore (pc := 56) (x := b) (lv' := [(7, .ref b), (6, .int (ph_tw σ (none))), (5, .null), (4, .int ((nI x) / 16)), (0, .ref (ad 0)), (1, .int (nI P)), (2, .int (nI x)), (3, .int v)]) C dX2_write_56 (by decide) rfl ?_
    refine gV_aload_n (pc := 58) (x := ad 0) C dX2_write_58 4 rfl rfl ?_
    refine cg_bodies (pc := 59) C fl_X2_40 dX2_write_59 ?_
    refine gV_iload_n (pc := 62) C dX2_write_62 5 rfl rfl ?_
    refine gV_iload (pc := 63) C dX2_write_63 3 rfl ?_
    refine gV_callS (pc := 65) (As := [.int (nI P), .int ((nI x) / 16)]) (rest := [.ref (ad 9)]) C ml_X2_52 gy_X2_slot gs_X2_slot (c_slot _ _)  rfl rfl ⟨by decide, by decide⟩ (Nat.le_of_ble_eq_true rfl) (by decide) (by decide) dX2_write_65 ?_
    rintro _ _ ⟨rfl, rfl⟩
    refine gV_aload (pc := 68) (x := b) C dX2_write_68 0 rfl ?_
    refine cs_bo (pc := 70) (σ := σ2) C m_b hsl dX2_write_70 ?_
    refine gV_aload_n (pc := 71) (x := ad 0) C dX2_write_71 4 rfl rfl ?_
    refine cg_used (pc := 72) C fl_X2_30 dX2_write_72 ?_
    refine gV_aload (pc := 75) (x := b) C dX2_write_75 0 rfl ?_
    refine cg_b_frame (pc := 77) (σ := ph_sR σ2 2 (((nI P) * 32 + ((nI x) / 16)).toNatClampNeg) (some b)) C m_b fl_X2_76 dX2_write_77 ?_
    refine gV_iconst (pc := 80) (v := 1) C dX2_write_80 (by decide) ?_
    refine cs_us (pc := 81) C hfr (by decide) dX2_write_81 ?_
    refine gV_aload_n (pc := 82) (x := ad 0) C dX2_write_82 4 rfl rfl ?_
    refine cg_frames (pc := 83) C fl_X2_23 dX2_write_83 ?_
    refine cg_words1 (pc := 86) C fl_X2_87 dX2_write_86 ?_
    refine gV_aload (pc := 89) (x := b) C dX2_write_89 0 rfl ?_
    refine cg_b_frame (pc := 91) (σ := ph_sA (ph_sR σ2 2 (((nI P) * 32 + ((nI x) / 16)).toNatClampNeg) (some b)) 2 ((ph_B (ph_sR σ2 2 (((nI P) * 32 + ((nI x) / 16)).toNatClampNeg) (some b)) 1 b).toNatClampNeg) 1) C m_b fl_X2_76 dX2_write_91 ?_
    refine gV_bipush (pc := 94) (v := 16) C dX2_write_94 (by decide) ?_
    refine gV_imul (pc := 96) C dX2_write_96 ?_
    refine gV_iload_n (pc := 97) C dX2_write_97 6 rfl rfl ?_
    refine gV_bipush (pc := 98) (v := 16) C dX2_write_98 (by decide) ?_
    refine gV_irem (pc := 100) C dX2_write_100 (by decide) ?_
    refine gV_iadd (pc := 101) C dX2_write_101 ?_
    refine gV_iload_n (pc := 102) C dX2_write_102 7 rfl rfl ?_
    refine cs_fw (pc := 103) C (wrd_in (by omega) hf hx ef rfl) dX2_write_103 ?_
    refine gV_aload (pc := 104) (x := b) C dX2_write_104 0 rfl ?_
    refine gV_iconst (pc := 106) (v := 1) C dX2_write_106 (by decide) ?_
    refine cp_b_dirty (pc := 107) (σ := ph_sA (ph_sA (ph_sR σ2 2 (((nI P) * 32 + ((nI x) / 16)).toNatClampNeg) (some b)) 2 ((ph_B (ph_sR σ2 2 (((nI P) * 32 + ((nI x) / 16)).toNatClampNeg) (some b)) 1 b).toNatClampNeg) 1) 0 ((((ph_B (ph_sA (ph_sR σ2 2 (((nI P) * 32 + ((nI x) / 16)).toNatClampNeg) (some b)) 2 ((ph_B (ph_sR σ2 2 (((nI P) * 32 + ((nI x) / 16)).toNatClampNeg) (some b)) 1 b).toNatClampNeg) 1) 1 b) * 16) + ((nI x) - (nI x) / 16 * 16)).toNatClampNeg) v) C m_b fl_X2_97 (by decide) dX2_write_107 ?_
    refine gV_iload (pc := 110) C dX2_write_110 1 rfl ?_
    refine gV_iret (pc := 112) C dX2_write_112 (by decide) (by decide) ?_
    exact ⟨by rw [ph_wrT, if_neg hca, ph_bo, er_1]; exact if_neg hcr, b, σ2, by rw [ph_bo, er_1]; exact ho, by rw [ph_bo, er_1], rfl⟩
  | some a_1 =>
    have m_1 : a_1 ∈ ph_L σ := hok.refs _ _ _ er_1
    refine gV_astore (pc := 23) (x := a_1) (lv' := [(5, .ref a_1), (4, .int ((nI x) / 16)), (0, .ref (ad 0)), (1, .int (nI P)), (2, .int (nI x)), (3, .int v)]) C dX2_write_23 (by decide) rfl ?_
    refine gV_aload (pc := 25) (x := a_1) C dX2_write_25 0 rfl ?_
    refine gV_callS (pc := 27) (As := [.ref a_1]) (rest := []) C ml_X2_90 gy_X2_takesToWrite gs_X2_takesToWrite (c_takesToWrite (some a_1) hok (fun _ h => by cases h; exact m_1))  rfl rfl ⟨by decide, by decide⟩ (Nat.le_of_ble_eq_true rfl) (by decide) (by decide) dX2_write_27 ?_
    rintro _ _ ⟨rfl, rfl⟩
    refine gV_istore (pc := 30) (lv' := [(6, .int (ph_tw σ (some a_1))), (5, .ref a_1), (4, .int ((nI x) / 16)), (0, .ref (ad 0)), (1, .int (nI P)), (2, .int (nI x)), (3, .int v)]) C dX2_write_30 (by decide) rfl ?_
    refine gV_aload_n (pc := 32) (x := ad 0) C dX2_write_32 3 rfl rfl ?_
    refine gV_iload (pc := 33) C dX2_write_33 0 rfl ?_
    refine gV_callVX (pc := 35) (As := [.int (ph_tw σ (some a_1))]) (rest := []) C CX w_ml_70 gy_X2_checkRoom gv_X2_checkRoom (c_checkRoom (ph_tw σ (some a_1)) (by omega) (by omega)) ⟨0, 2, _, _, rfl, rfl, rfl⟩ rfl rfl ⟨by decide, by decide⟩ (Nat.le_of_ble_eq_true rfl) (by decide) (by decide) dX2_write_35 (by rintro _ _ ⟨rfl, rfl, h⟩; exact ⟨rfl, Or.inr ⟨by rw [ph_wrT, if_neg hca, ph_bo, er_1]; exact if_pos h, rfl⟩⟩) ?_
    rintro _ _ ⟨rfl, rfl, hcr⟩
    have hok1 : ph_ok F S (ph_acc σ) := ok_sI hok _ (by decide)
    have hr1 : ∀ z, some a_1 = some z → z ∈ ph_L (ph_acc σ) := fun _ h => by cases h; exact m_1
    refine gV_aload_n (pc := 38) (x := ad 0) C dX2_write_38 3 rfl rfl ?_
    refine gV_dup (pc := 39) C dX2_write_39 rfl ?_
    refine cg_accesses (pc := 40) C fl_X2_73 dX2_write_40 ?_
    refine gV_iconst (pc := 43) (v := 1) C dX2_write_43 (by decide) ?_
    refine gV_iadd (pc := 44) C dX2_write_44 ?_
    refine cp_accesses (pc := 45) C fl_X2_73 dX2_write_45 ?_
    refine gV_aload_n (pc := 48) (x := ad 0) C dX2_write_48 3 rfl rfl ?_
    refine gV_aload (pc := 49) (x := a_1) C dX2_write_49 1 rfl ?_
    refine gV_iload (pc := 51) C dX2_write_51 2 rfl ?_
    refine gV_callV (pc := 53) (As := [.ref a_1, .int ((nI x) / 16)]) (rest := []) C ml_X2_93 gy_X2_ownBody gv_X2_ownBody (c_ownBody (r := some a_1) (g := ((nI x) / 16)) hok1 hr1) ⟨0, 2, _, _, rfl, rfl, rfl⟩ rfl rfl ⟨by decide, by decide⟩ (Nat.le_of_ble_eq_true rfl) (by decide) (by decide) dX2_write_53 ?_
    rintro _ _ ⟨b, σ2, ho, rfl, rfl⟩
    obtain ⟨hok2, m_b⟩ := ok_own hok1 hr1 ⟨x / 16, by omega, div16 hx⟩ ho
    obtain ⟨f, hf, ef⟩ := own_fr hok1 hr1 ho
    have hfr : vp_in (ph_B σ2 1 b) F := by rw [ef]; exact vp_in_nI hf (by omega)
    refine gV_astore (pc := 56) (x := b) (lv' := [(7, .ref b), (6, .int (ph_tw σ (some a_1))), (5, .ref a_1), (4, .int ((nI x) / 16)), (0, .ref (ad 0)), (1, .int (nI P)), (2, .int (nI x)), (3, .int v)]) C dX2_write_56 (by decide) rfl ?_
    refine gV_aload_n (pc := 58) (x := ad 0) C dX2_write_58 4 rfl rfl ?_
    refine cg_bodies (pc := 59) C fl_X2_40 dX2_write_59 ?_
    refine gV_iload_n (pc := 62) C dX2_write_62 5 rfl rfl ?_
    refine gV_iload (pc := 63) C dX2_write_63 3 rfl ?_
    refine gV_callS (pc := 65) (As := [.int (nI P), .int ((nI x) / 16)]) (rest := [.ref (ad 9)]) C ml_X2_52 gy_X2_slot gs_X2_slot (c_slot _ _)  rfl rfl ⟨by decide, by decide⟩ (Nat.le_of_ble_eq_true rfl) (by decide) (by decide) dX2_write_65 ?_
    rintro _ _ ⟨rfl, rfl⟩
    refine gV_aload (pc := 68) (x := b) C dX2_write_68 0 rfl ?_
    refine cs_bo (pc := 70) (σ := σ2) C m_b hsl dX2_write_70 ?_
    refine gV_aload_n (pc := 71) (x := ad 0) C dX2_write_71 4 rfl rfl ?_
    refine cg_used (pc := 72) C fl_X2_30 dX2_write_72 ?_
    refine gV_aload (pc := 75) (x := b) C dX2_write_75 0 rfl ?_
    refine cg_b_frame (pc := 77) (σ := ph_sR σ2 2 (((nI P) * 32 + ((nI x) / 16)).toNatClampNeg) (some b)) C m_b fl_X2_76 dX2_write_77 ?_
    refine gV_iconst (pc := 80) (v := 1) C dX2_write_80 (by decide) ?_
    refine cs_us (pc := 81) C hfr (by decide) dX2_write_81 ?_
    refine gV_aload_n (pc := 82) (x := ad 0) C dX2_write_82 4 rfl rfl ?_
    refine cg_frames (pc := 83) C fl_X2_23 dX2_write_83 ?_
    refine cg_words1 (pc := 86) C fl_X2_87 dX2_write_86 ?_
    refine gV_aload (pc := 89) (x := b) C dX2_write_89 0 rfl ?_
    refine cg_b_frame (pc := 91) (σ := ph_sA (ph_sR σ2 2 (((nI P) * 32 + ((nI x) / 16)).toNatClampNeg) (some b)) 2 ((ph_B (ph_sR σ2 2 (((nI P) * 32 + ((nI x) / 16)).toNatClampNeg) (some b)) 1 b).toNatClampNeg) 1) C m_b fl_X2_76 dX2_write_91 ?_
    refine gV_bipush (pc := 94) (v := 16) C dX2_write_94 (by decide) ?_
    refine gV_imul (pc := 96) C dX2_write_96 ?_
    refine gV_iload_n (pc := 97) C dX2_write_97 6 rfl rfl ?_
    refine gV_bipush (pc := 98) (v := 16) C dX2_write_98 (by decide) ?_
    refine gV_irem (pc := 100) C dX2_write_100 (by decide) ?_
    refine gV_iadd (pc := 101) C dX2_write_101 ?_
    refine gV_iload_n (pc := 102) C dX2_write_102 7 rfl rfl ?_
    refine cs_fw (pc := 103) C (wrd_in (by omega) hf hx ef rfl) dX2_write_103 ?_
    refine gV_aload (pc := 104) (x := b) C dX2_write_104 0 rfl ?_
    refine gV_iconst (pc := 106) (v := 1) C dX2_write_106 (by decide) ?_
    refine cp_b_dirty (pc := 107) (σ := ph_sA (ph_sA (ph_sR σ2 2 (((nI P) * 32 + ((nI x) / 16)).toNatClampNeg) (some b)) 2 ((ph_B (ph_sR σ2 2 (((nI P) * 32 + ((nI x) / 16)).toNatClampNeg) (some b)) 1 b).toNatClampNeg) 1) 0 ((((ph_B (ph_sA (ph_sR σ2 2 (((nI P) * 32 + ((nI x) / 16)).toNatClampNeg) (some b)) 2 ((ph_B (ph_sR σ2 2 (((nI P) * 32 + ((nI x) / 16)).toNatClampNeg) (some b)) 1 b).toNatClampNeg) 1) 1 b) * 16) + ((nI x) - (nI x) / 16 * 16)).toNatClampNeg) v) C m_b fl_X2_97 (by decide) dX2_write_107 ?_
    refine gV_iload (pc := 110) C dX2_write_110 1 rfl ?_
    refine gV_iret (pc := 112) C dX2_write_112 (by decide) (by decide) ?_
    exact ⟨by rw [ph_wrT, if_neg hca, ph_bo, er_1]; exact if_neg hcr, b, σ2, by rw [ph_bo, er_1]; exact ho, by rw [ph_bo, er_1], rfl⟩
