abbrev ph_S : Type := (Nat → Int32) × (Nat → Nat → Option Nat) × (Nat → Nat → Int32) × (Nat → Nat → Int32) × List Nat
/-- the class's whole numbers: 0 hand, 1 accesses, 2 taken, 3 brought, 4 storings, 5 copies -/
def ph_I (σ : ph_S) (k : Nat) : Int32 := σ.1 k
/-- its rows of bodies: 0 of the frames, 1 of the sectors, 2 of the pages -/
def ph_R (σ : ph_S) (k j : Nat) : Option Nat := σ.2.1 k j
/-- its rows of numbers: 0 the frames' words, 1 the sectors', 2 used, 3 pageCounts -/
def ph_A (σ : ph_S) (k j : Nat) : Int32 := σ.2.2.1 k j
/-- a body's fields: 0 pageNumber, 1 frame, 2 sector, 3 holders, 4 dirty -/
def ph_B (σ : ph_S) (k a : Nat) : Int32 := σ.2.2.2.1 k a
def ph_L (σ : ph_S) : List Nat := σ.2.2.2.2
def ph_sI (σ : ph_S) (k : Nat) (v : Int32) : ph_S := (va_up σ.1 k v, σ.2)
def ph_sR (σ : ph_S) (k j : Nat) (v : Option Nat) : ph_S := (σ.1, va_up σ.2.1 k (va_up (σ.2.1 k) j v), σ.2.2)
def ph_sA (σ : ph_S) (k j : Nat) (v : Int32) : ph_S := (σ.1, σ.2.1, va_up σ.2.2.1 k (va_up (σ.2.2.1 k) j v), σ.2.2.2)
def ph_fA (σ : ph_S) (k : Nat) (f : Nat → Int32) : ph_S := (σ.1, σ.2.1, va_up σ.2.2.1 k f, σ.2.2.2)
def ph_sB (σ : ph_S) (k a : Nat) (v : Int32) : ph_S := (σ.1, σ.2.1, σ.2.2.1, va_up σ.2.2.2.1 k (va_up (σ.2.2.2.1 k) a v), σ.2.2.2.2)
def ph_nB (σ : ph_S) (q : Nat) : ph_S := (σ.1, σ.2.1, σ.2.2.1, fun k => va_up (σ.2.2.2.1 k) q 0, σ.2.2.2.2 ++ [q])
abbrev gt (ct : Nat → ClassId) : List (ClassId × FieldType) := [(ct 0, .int), (ct 1, .boolean), (ct 2, .object RX0), (ct 3, .long)]
def cw_E (σ : ph_S) (a : Nat) : va_E := .inr (0, [.int (ph_B σ 0 a), .int (ph_B σ 1 a), .int (ph_B σ 2 a), .int (ph_B σ 3 a), .int (ph_B σ 4 a)])
abbrev cw_X (ad : Nat → Nat) (ct : Nat → ClassId) (F S : Nat) (σ : ph_S) : va_W :=
  [(ad 0, .inr (2, [.ref (ad 1), .ref (ad 2), .ref (ad 7), .int (ph_I σ 0), .ref (ad 8), .ref (ad 9), .int (ph_I σ 1), .int (ph_I σ 2), .int (ph_I σ 3), .int (ph_I σ 4), .int (ph_I σ 5)])),
   (ad 1, .inr (1, [.ref (ad 3), .ref (ad 4)])), (ad 2, .inr (1, [.ref (ad 5), .ref (ad 6)])),
   (ad 3, .inl (ct 2, F, .inr (.inr (.inr (.inr (ph_R σ 0)))))), (ad 4, .inl (ct 0, 16 * F, .inl (ph_A σ 0))),
   (ad 5, .inl (ct 2, S, .inr (.inr (.inr (.inr (ph_R σ 1)))))), (ad 6, .inl (ct 0, 16 * S, .inl (ph_A σ 1))),
   (ad 7, .inl (ct 1, F, .inl (ph_A σ 2))), (ad 8, .inl (ct 0, 8, .inl (ph_A σ 3))), (ad 9, .inl (ct 2, 256, .inr (.inr (.inr (.inr (ph_R σ 2))))))]
def cw (ad : Nat → Nat) (ct : Nat → ClassId) (F S : Nat) (σ : ph_S) : va_W := cw_X ad ct F S σ ++ va_pl (ph_L σ) (cw_E σ)
section CWR
variable {X : gx_T} {cc : ByteArray} {nL : Nat} {own : String} {rm : Room} {rt : Option FieldType} {D : va_G} {post : Option Value → va_W → Prop} {k n : Nat} {ws : va_W} {pc : Nat} {lv : List (Nat × Value)} {st : List Value} {idx : Nat}
variable {ad : Nat → Nat} {ct : Nat → ClassId} {F S : Nat} {σ : ph_S}
theorem cg_frames (C : gC X cc nL own rm rt D (gt ct) post) (hf : gl_F own idx "PagerHouse" "frames" "LPagerHouse$Rows;") (hdg : decode cc pc = .ok (.getfield idx, 3)) (kk : gV X k n (cw ad ct F S σ) (pc + 3) lv (.ref (ad 1) :: st)) : gV X k n (cw ad ct F S σ) pc lv (.ref (ad 0) :: st) := gV_get C pw_fl_X2 0 2 0 hf rfl rfl (by decide) rfl hdg kk
theorem cg_sectors (C : gC X cc nL own rm rt D (gt ct) post) (hf : gl_F own idx "PagerHouse" "sectors" "LPagerHouse$Rows;") (hdg : decode cc pc = .ok (.getfield idx, 3)) (kk : gV X k n (cw ad ct F S σ) (pc + 3) lv (.ref (ad 2) :: st)) : gV X k n (cw ad ct F S σ) pc lv (.ref (ad 0) :: st) := gV_get C pw_fl_X2 0 2 1 hf rfl rfl (by decide) rfl hdg kk
theorem cg_used (C : gC X cc nL own rm rt D (gt ct) post) (hf : gl_F own idx "PagerHouse" "used" "[Z") (hdg : decode cc pc = .ok (.getfield idx, 3)) (kk : gV X k n (cw ad ct F S σ) (pc + 3) lv (.ref (ad 7) :: st)) : gV X k n (cw ad ct F S σ) pc lv (.ref (ad 0) :: st) := gV_get C pw_fl_X2 0 2 2 hf rfl rfl (by decide) rfl hdg kk
theorem cg_hand (C : gC X cc nL own rm rt D (gt ct) post) (hf : gl_F own idx "PagerHouse" "hand" "I") (hdg : decode cc pc = .ok (.getfield idx, 3)) (kk : gV X k n (cw ad ct F S σ) (pc + 3) lv (.int (ph_I σ 0) :: st)) : gV X k n (cw ad ct F S σ) pc lv (.ref (ad 0) :: st) := gV_get C pw_fl_X2 0 2 3 hf rfl rfl (by decide) rfl hdg kk
theorem cp_hand (C : gC X cc nL own rm rt D (gt ct) post) (hf : gl_F own idx "PagerHouse" "hand" "I") {v : Int32} (hdg : decode cc pc = .ok (.putfield idx, 3)) (kk : gV X k n (cw ad ct F S (ph_sI σ 0 v)) (pc + 3) lv st) : gV X k n (cw ad ct F S σ) pc lv (.int v :: .ref (ad 0) :: st) := gV_put (ty := .int) C pw_fl_X2 tyX2 tyX2_ok nmX2 0 2 3 hf rfl rfl (by decide) rfl (by decide +kernel) rfl rfl (Nat.le_of_ble_eq_true rfl) hdg kk
theorem cg_pageCounts (C : gC X cc nL own rm rt D (gt ct) post) (hf : gl_F own idx "PagerHouse" "pageCounts" "[I") (hdg : decode cc pc = .ok (.getfield idx, 3)) (kk : gV X k n (cw ad ct F S σ) (pc + 3) lv (.ref (ad 8) :: st)) : gV X k n (cw ad ct F S σ) pc lv (.ref (ad 0) :: st) := gV_get C pw_fl_X2 0 2 4 hf rfl rfl (by decide) rfl hdg kk
theorem cg_bodies (C : gC X cc nL own rm rt D (gt ct) post) (hf : gl_F own idx "PagerHouse" "bodies" "[LPagerHouse$Body;") (hdg : decode cc pc = .ok (.getfield idx, 3)) (kk : gV X k n (cw ad ct F S σ) (pc + 3) lv (.ref (ad 9) :: st)) : gV X k n (cw ad ct F S σ) pc lv (.ref (ad 0) :: st) := gV_get C pw_fl_X2 0 2 5 hf rfl rfl (by decide) rfl hdg kk
theorem cg_accesses (C : gC X cc nL own rm rt D (gt ct) post) (hf : gl_F own idx "PagerHouse" "accesses" "I") (hdg : decode cc pc = .ok (.getfield idx, 3)) (kk : gV X k n (cw ad ct F S σ) (pc + 3) lv (.int (ph_I σ 1) :: st)) : gV X k n (cw ad ct F S σ) pc lv (.ref (ad 0) :: st) := gV_get C pw_fl_X2 0 2 6 hf rfl rfl (by decide) rfl hdg kk
theorem cp_accesses (C : gC X cc nL own rm rt D (gt ct) post) (hf : gl_F own idx "PagerHouse" "accesses" "I") {v : Int32} (hdg : decode cc pc = .ok (.putfield idx, 3)) (kk : gV X k n (cw ad ct F S (ph_sI σ 1 v)) (pc + 3) lv st) : gV X k n (cw ad ct F S σ) pc lv (.int v :: .ref (ad 0) :: st) := gV_put (ty := .int) C pw_fl_X2 tyX2 tyX2_ok nmX2 0 2 6 hf rfl rfl (by decide) rfl (by decide +kernel) rfl rfl (Nat.le_of_ble_eq_true rfl) hdg kk
theorem cg_taken (C : gC X cc nL own rm rt D (gt ct) post) (hf : gl_F own idx "PagerHouse" "taken" "I") (hdg : decode cc pc = .ok (.getfield idx, 3)) (kk : gV X k n (cw ad ct F S σ) (pc + 3) lv (.int (ph_I σ 2) :: st)) : gV X k n (cw ad ct F S σ) pc lv (.ref (ad 0) :: st) := gV_get C pw_fl_X2 0 2 7 hf rfl rfl (by decide) rfl hdg kk
theorem cp_taken (C : gC X cc nL own rm rt D (gt ct) post) (hf : gl_F own idx "PagerHouse" "taken" "I") {v : Int32} (hdg : decode cc pc = .ok (.putfield idx, 3)) (kk : gV X k n (cw ad ct F S (ph_sI σ 2 v)) (pc + 3) lv st) : gV X k n (cw ad ct F S σ) pc lv (.int v :: .ref (ad 0) :: st) := gV_put (ty := .int) C pw_fl_X2 tyX2 tyX2_ok nmX2 0 2 7 hf rfl rfl (by decide) rfl (by decide +kernel) rfl rfl (Nat.le_of_ble_eq_true rfl) hdg kk
theorem cg_brought (C : gC X cc nL own rm rt D (gt ct) post) (hf : gl_F own idx "PagerHouse" "brought" "I") (hdg : decode cc pc = .ok (.getfield idx, 3)) (kk : gV X k n (cw ad ct F S σ) (pc + 3) lv (.int (ph_I σ 3) :: st)) : gV X k n (cw ad ct F S σ) pc lv (.ref (ad 0) :: st) := gV_get C pw_fl_X2 0 2 8 hf rfl rfl (by decide) rfl hdg kk
theorem cp_brought (C : gC X cc nL own rm rt D (gt ct) post) (hf : gl_F own idx "PagerHouse" "brought" "I") {v : Int32} (hdg : decode cc pc = .ok (.putfield idx, 3)) (kk : gV X k n (cw ad ct F S (ph_sI σ 3 v)) (pc + 3) lv st) : gV X k n (cw ad ct F S σ) pc lv (.int v :: .ref (ad 0) :: st) := gV_put (ty := .int) C pw_fl_X2 tyX2 tyX2_ok nmX2 0 2 8 hf rfl rfl (by decide) rfl (by decide +kernel) rfl rfl (Nat.le_of_ble_eq_true rfl) hdg kk
theorem cg_storings (C : gC X cc nL own rm rt D (gt ct) post) (hf : gl_F own idx "PagerHouse" "storings" "I") (hdg : decode cc pc = .ok (.getfield idx, 3)) (kk : gV X k n (cw ad ct F S σ) (pc + 3) lv (.int (ph_I σ 4) :: st)) : gV X k n (cw ad ct F S σ) pc lv (.ref (ad 0) :: st) := gV_get C pw_fl_X2 0 2 9 hf rfl rfl (by decide) rfl hdg kk
theorem cp_storings (C : gC X cc nL own rm rt D (gt ct) post) (hf : gl_F own idx "PagerHouse" "storings" "I") {v : Int32} (hdg : decode cc pc = .ok (.putfield idx, 3)) (kk : gV X k n (cw ad ct F S (ph_sI σ 4 v)) (pc + 3) lv st) : gV X k n (cw ad ct F S σ) pc lv (.int v :: .ref (ad 0) :: st) := gV_put (ty := .int) C pw_fl_X2 tyX2 tyX2_ok nmX2 0 2 9 hf rfl rfl (by decide) rfl (by decide +kernel) rfl rfl (Nat.le_of_ble_eq_true rfl) hdg kk
theorem cg_copies (C : gC X cc nL own rm rt D (gt ct) post) (hf : gl_F own idx "PagerHouse" "copies" "I") (hdg : decode cc pc = .ok (.getfield idx, 3)) (kk : gV X k n (cw ad ct F S σ) (pc + 3) lv (.int (ph_I σ 5) :: st)) : gV X k n (cw ad ct F S σ) pc lv (.ref (ad 0) :: st) := gV_get C pw_fl_X2 0 2 10 hf rfl rfl (by decide) rfl hdg kk
theorem cp_copies (C : gC X cc nL own rm rt D (gt ct) post) (hf : gl_F own idx "PagerHouse" "copies" "I") {v : Int32} (hdg : decode cc pc = .ok (.putfield idx, 3)) (kk : gV X k n (cw ad ct F S (ph_sI σ 5 v)) (pc + 3) lv st) : gV X k n (cw ad ct F S σ) pc lv (.int v :: .ref (ad 0) :: st) := gV_put (ty := .int) C pw_fl_X2 tyX2 tyX2_ok nmX2 0 2 10 hf rfl rfl (by decide) rfl (by decide +kernel) rfl rfl (Nat.le_of_ble_eq_true rfl) hdg kk
theorem cg_content1 (C : gC X cc nL own rm rt D (gt ct) post) (hf : gl_F own idx "PagerHouse$Rows" "content" "[LPagerHouse$Body;") (hdg : decode cc pc = .ok (.getfield idx, 3)) (kk : gV X k n (cw ad ct F S σ) (pc + 3) lv (.ref (ad 3) :: st)) : gV X k n (cw ad ct F S σ) pc lv (.ref (ad 1) :: st) := gV_get C pw_fl_X1 1 1 0 hf rfl rfl (by decide) rfl hdg kk
theorem cg_words1 (C : gC X cc nL own rm rt D (gt ct) post) (hf : gl_F own idx "PagerHouse$Rows" "words" "[I") (hdg : decode cc pc = .ok (.getfield idx, 3)) (kk : gV X k n (cw ad ct F S σ) (pc + 3) lv (.ref (ad 4) :: st)) : gV X k n (cw ad ct F S σ) pc lv (.ref (ad 1) :: st) := gV_get C pw_fl_X1 1 1 1 hf rfl rfl (by decide) rfl hdg kk
theorem cg_content2 (C : gC X cc nL own rm rt D (gt ct) post) (hf : gl_F own idx "PagerHouse$Rows" "content" "[LPagerHouse$Body;") (hdg : decode cc pc = .ok (.getfield idx, 3)) (kk : gV X k n (cw ad ct F S σ) (pc + 3) lv (.ref (ad 5) :: st)) : gV X k n (cw ad ct F S σ) pc lv (.ref (ad 2) :: st) := gV_get C pw_fl_X1 2 1 0 hf rfl rfl (by decide) rfl hdg kk
theorem cg_words2 (C : gC X cc nL own rm rt D (gt ct) post) (hf : gl_F own idx "PagerHouse$Rows" "words" "[I") (hdg : decode cc pc = .ok (.getfield idx, 3)) (kk : gV X k n (cw ad ct F S σ) (pc + 3) lv (.ref (ad 6) :: st)) : gV X k n (cw ad ct F S σ) pc lv (.ref (ad 2) :: st) := gV_get C pw_fl_X1 2 1 1 hf rfl rfl (by decide) rfl hdg kk
theorem cw_unset {w : va_W} {q0 i : Nat} {a : Nat} {e0 e1 : va_E} {p : Nat × va_E} (hq : w[q0]? = some (a, e0)) (hi : w[i]? = some p) : ∃ p', (w.set q0 (a, e1))[i]? = some p' ∧ p'.1 = p.1 := by
  have hl : q0 < w.length := (List.getElem?_eq_some_iff.mp hq).1
  by_cases h : i = q0
  · subst h
    exact ⟨(a, e1), by rw [List.getElem?_set_self hl], by rw [hq] at hi; cases hi; rfl⟩
  · exact ⟨p, by rw [List.getElem?_set_ne (Ne.symm h)]; exact hi, rfl⟩
theorem cg_b_pageNumber (C : gC X cc nL own rm rt D (gt ct) post) {a : Nat} (ha : a ∈ ph_L σ) (hf : gl_F own idx "PagerHouse$Body" "pageNumber" "I") (hdg : decode cc pc = .ok (.getfield idx, 3)) (kk : gV X k n (cw ad ct F S σ) (pc + 3) lv (.int (ph_B σ 0 a) :: st)) : gV X k n (cw ad ct F S σ) pc lv (.ref a :: st) := by
  obtain ⟨q0, hq⟩ := va_pl_get (X := cw_X ad ct F S σ) (f := cw_E σ) ha
  exact gV_get C pw_fl_X0 q0 0 0 hf hq rfl (by decide) rfl hdg kk
theorem cg_b_frame (C : gC X cc nL own rm rt D (gt ct) post) {a : Nat} (ha : a ∈ ph_L σ) (hf : gl_F own idx "PagerHouse$Body" "frame" "I") (hdg : decode cc pc = .ok (.getfield idx, 3)) (kk : gV X k n (cw ad ct F S σ) (pc + 3) lv (.int (ph_B σ 1 a) :: st)) : gV X k n (cw ad ct F S σ) pc lv (.ref a :: st) := by
  obtain ⟨q0, hq⟩ := va_pl_get (X := cw_X ad ct F S σ) (f := cw_E σ) ha
  exact gV_get C pw_fl_X0 q0 0 1 hf hq rfl (by decide) rfl hdg kk
theorem cp_b_frame (C : gC X cc nL own rm rt D (gt ct) post) {a : Nat} (ha : a ∈ ph_L σ) (hf : gl_F own idx "PagerHouse$Body" "frame" "I") {v : Int32} (hdg : decode cc pc = .ok (.putfield idx, 3)) (kk : gV X k n (cw ad ct F S (ph_sB σ 1 a v)) (pc + 3) lv st) : gV X k n (cw ad ct F S σ) pc lv (.int v :: .ref a :: st) := by
  obtain ⟨q0, hq⟩ := va_pl_get (X := cw_X ad ct F S σ) (f := cw_E σ) ha
  refine gV_put (ty := .int) C pw_fl_X0 tyX0 tyX0_ok nmX0 q0 0 1 hf hq rfl (by decide) rfl (by decide +kernel) rfl rfl (Nat.le_of_ble_eq_true rfl) hdg ?_
  obtain ⟨⟨p, l, e, R, s, m, args, below, meth, c, Q⟩, nL', D', tys', A⟩ := X
  intro H locs ls hP hD hS hl
  have hD0 : va_D A (cw_X ad ct F S σ ++ va_pl (ph_L σ) (cw_E σ)) := by
    refine ⟨fun i j p q hi hj e => ?_, fun i p hi => ?_⟩
    · obtain ⟨p', hp', ep⟩ := cw_unset hq hi
      obtain ⟨q', hq', eq⟩ := cw_unset hq hj
      exact hD.1 i j p' q' hp' hq' (by rw [ep, eq, e])
    · obtain ⟨p', hp', ep⟩ := cw_unset hq hi
      rw [← ep]; exact hD.2 i p' hp'
  have e : (cw ad ct F S σ).set q0 (a, .inr (0, [.int (ph_B σ 0 a), .int v, .int (ph_B σ 2 a), .int (ph_B σ 3 a), .int (ph_B σ 4 a)])) = cw ad ct F S (ph_sB σ 1 a v) := by
    refine (va_pl_set hD0 ha hq).trans ?_
    refine congrArg (fun l => cw_X ad ct F S σ ++ l) (va_pl_congr fun b => ?_)
    by_cases hb : b = a
    · subst hb; simp [va_up, cw_E, ph_B, ph_sB]
    · simp [va_up, cw_E, ph_B, ph_sB, hb]
  have hP' : va_P D' vwc ((cw ad ct F S σ).set q0 (a, .inr (0, [.int (ph_B σ 0 a), .int v, .int (ph_B σ 2 a), .int (ph_B σ 3 a), .int (ph_B σ 4 a)]))) H := hP
  have hD' : va_D A ((cw ad ct F S σ).set q0 (a, .inr (0, [.int (ph_B σ 0 a), .int v, .int (ph_B σ 2 a), .int (ph_B σ 3 a), .int (ph_B σ 4 a)]))) := hD
  rw [e] at hP' hD'
  exact kk H locs ls hP' hD' hS hl
theorem cg_b_sector (C : gC X cc nL own rm rt D (gt ct) post) {a : Nat} (ha : a ∈ ph_L σ) (hf : gl_F own idx "PagerHouse$Body" "sector" "I") (hdg : decode cc pc = .ok (.getfield idx, 3)) (kk : gV X k n (cw ad ct F S σ) (pc + 3) lv (.int (ph_B σ 2 a) :: st)) : gV X k n (cw ad ct F S σ) pc lv (.ref a :: st) := by
  obtain ⟨q0, hq⟩ := va_pl_get (X := cw_X ad ct F S σ) (f := cw_E σ) ha
  exact gV_get C pw_fl_X0 q0 0 2 hf hq rfl (by decide) rfl hdg kk
theorem cp_b_sector (C : gC X cc nL own rm rt D (gt ct) post) {a : Nat} (ha : a ∈ ph_L σ) (hf : gl_F own idx "PagerHouse$Body" "sector" "I") {v : Int32} (hdg : decode cc pc = .ok (.putfield idx, 3)) (kk : gV X k n (cw ad ct F S (ph_sB σ 2 a v)) (pc + 3) lv st) : gV X k n (cw ad ct F S σ) pc lv (.int v :: .ref a :: st) := by
  obtain ⟨q0, hq⟩ := va_pl_get (X := cw_X ad ct F S σ) (f := cw_E σ) ha
  refine gV_put (ty := .int) C pw_fl_X0 tyX0 tyX0_ok nmX0 q0 0 2 hf hq rfl (by decide) rfl (by decide +kernel) rfl rfl (Nat.le_of_ble_eq_true rfl) hdg ?_
  obtain ⟨⟨p, l, e, R, s, m, args, below, meth, c, Q⟩, nL', D', tys', A⟩ := X
  intro H locs ls hP hD hS hl
  have hD0 : va_D A (cw_X ad ct F S σ ++ va_pl (ph_L σ) (cw_E σ)) := by
    refine ⟨fun i j p q hi hj e => ?_, fun i p hi => ?_⟩
    · obtain ⟨p', hp', ep⟩ := cw_unset hq hi
      obtain ⟨q', hq', eq⟩ := cw_unset hq hj
      exact hD.1 i j p' q' hp' hq' (by rw [ep, eq, e])
    · obtain ⟨p', hp', ep⟩ := cw_unset hq hi
      rw [← ep]; exact hD.2 i p' hp'
  have e : (cw ad ct F S σ).set q0 (a, .inr (0, [.int (ph_B σ 0 a), .int (ph_B σ 1 a), .int v, .int (ph_B σ 3 a), .int (ph_B σ 4 a)])) = cw ad ct F S (ph_sB σ 2 a v) := by
    refine (va_pl_set hD0 ha hq).trans ?_
    refine congrArg (fun l => cw_X ad ct F S σ ++ l) (va_pl_congr fun b => ?_)
    by_cases hb : b = a
    · subst hb; simp [va_up, cw_E, ph_B, ph_sB]
    · simp [va_up, cw_E, ph_B, ph_sB, hb]
  have hP' : va_P D' vwc ((cw ad ct F S σ).set q0 (a, .inr (0, [.int (ph_B σ 0 a), .int (ph_B σ 1 a), .int v, .int (ph_B σ 3 a), .int (ph_B σ 4 a)]))) H := hP
  have hD' : va_D A ((cw ad ct F S σ).set q0 (a, .inr (0, [.int (ph_B σ 0 a), .int (ph_B σ 1 a), .int v, .int (ph_B σ 3 a), .int (ph_B σ 4 a)]))) := hD
  rw [e] at hP' hD'
  exact kk H locs ls hP' hD' hS hl
theorem cg_b_holders (C : gC X cc nL own rm rt D (gt ct) post) {a : Nat} (ha : a ∈ ph_L σ) (hf : gl_F own idx "PagerHouse$Body" "holders" "I") (hdg : decode cc pc = .ok (.getfield idx, 3)) (kk : gV X k n (cw ad ct F S σ) (pc + 3) lv (.int (ph_B σ 3 a) :: st)) : gV X k n (cw ad ct F S σ) pc lv (.ref a :: st) := by
  obtain ⟨q0, hq⟩ := va_pl_get (X := cw_X ad ct F S σ) (f := cw_E σ) ha
  exact gV_get C pw_fl_X0 q0 0 3 hf hq rfl (by decide) rfl hdg kk
theorem cp_b_holders (C : gC X cc nL own rm rt D (gt ct) post) {a : Nat} (ha : a ∈ ph_L σ) (hf : gl_F own idx "PagerHouse$Body" "holders" "I") {v : Int32} (hdg : decode cc pc = .ok (.putfield idx, 3)) (kk : gV X k n (cw ad ct F S (ph_sB σ 3 a v)) (pc + 3) lv st) : gV X k n (cw ad ct F S σ) pc lv (.int v :: .ref a :: st) := by
  obtain ⟨q0, hq⟩ := va_pl_get (X := cw_X ad ct F S σ) (f := cw_E σ) ha
  refine gV_put (ty := .int) C pw_fl_X0 tyX0 tyX0_ok nmX0 q0 0 3 hf hq rfl (by decide) rfl (by decide +kernel) rfl rfl (Nat.le_of_ble_eq_true rfl) hdg ?_
  obtain ⟨⟨p, l, e, R, s, m, args, below, meth, c, Q⟩, nL', D', tys', A⟩ := X
  intro H locs ls hP hD hS hl
  have hD0 : va_D A (cw_X ad ct F S σ ++ va_pl (ph_L σ) (cw_E σ)) := by
    refine ⟨fun i j p q hi hj e => ?_, fun i p hi => ?_⟩
    · obtain ⟨p', hp', ep⟩ := cw_unset hq hi
      obtain ⟨q', hq', eq⟩ := cw_unset hq hj
      exact hD.1 i j p' q' hp' hq' (by rw [ep, eq, e])
    · obtain ⟨p', hp', ep⟩ := cw_unset hq hi
      rw [← ep]; exact hD.2 i p' hp'
  have e : (cw ad ct F S σ).set q0 (a, .inr (0, [.int (ph_B σ 0 a), .int (ph_B σ 1 a), .int (ph_B σ 2 a), .int v, .int (ph_B σ 4 a)])) = cw ad ct F S (ph_sB σ 3 a v) := by
    refine (va_pl_set hD0 ha hq).trans ?_
    refine congrArg (fun l => cw_X ad ct F S σ ++ l) (va_pl_congr fun b => ?_)
    by_cases hb : b = a
    · subst hb; simp [va_up, cw_E, ph_B, ph_sB]
    · simp [va_up, cw_E, ph_B, ph_sB, hb]
  have hP' : va_P D' vwc ((cw ad ct F S σ).set q0 (a, .inr (0, [.int (ph_B σ 0 a), .int (ph_B σ 1 a), .int (ph_B σ 2 a), .int v, .int (ph_B σ 4 a)]))) H := hP
  have hD' : va_D A ((cw ad ct F S σ).set q0 (a, .inr (0, [.int (ph_B σ 0 a), .int (ph_B σ 1 a), .int (ph_B σ 2 a), .int v, .int (ph_B σ 4 a)]))) := hD
  rw [e] at hP' hD'
  exact kk H locs ls hP' hD' hS hl
theorem cg_b_dirty (C : gC X cc nL own rm rt D (gt ct) post) {a : Nat} (ha : a ∈ ph_L σ) (hf : gl_F own idx "PagerHouse$Body" "dirty" "Z") (hdg : decode cc pc = .ok (.getfield idx, 3)) (kk : gV X k n (cw ad ct F S σ) (pc + 3) lv (.int (ph_B σ 4 a) :: st)) : gV X k n (cw ad ct F S σ) pc lv (.ref a :: st) := by
  obtain ⟨q0, hq⟩ := va_pl_get (X := cw_X ad ct F S σ) (f := cw_E σ) ha
  exact gV_get C pw_fl_X0 q0 0 4 hf hq rfl (by decide) rfl hdg kk
theorem cp_b_dirty (C : gC X cc nL own rm rt D (gt ct) post) {a : Nat} (ha : a ∈ ph_L σ) (hf : gl_F own idx "PagerHouse$Body" "dirty" "Z") {v : Int32} (hv9 : v = 0 ∨ v = 1) (hdg : decode cc pc = .ok (.putfield idx, 3)) (kk : gV X k n (cw ad ct F S (ph_sB σ 4 a v)) (pc + 3) lv st) : gV X k n (cw ad ct F S σ) pc lv (.int v :: .ref a :: st) := by
  obtain ⟨q0, hq⟩ := va_pl_get (X := cw_X ad ct F S σ) (f := cw_E σ) ha
  refine gV_put (ty := .boolean) C pw_fl_X0 tyX0 tyX0_ok nmX0 q0 0 4 hf hq rfl (by decide) rfl (by decide +kernel) (by rcases hv9 with rfl | rfl <;> rfl) (by rcases hv9 with rfl | rfl <;> rfl) (Nat.le_of_ble_eq_true rfl) hdg ?_
  obtain ⟨⟨p, l, e, R, s, m, args, below, meth, c, Q⟩, nL', D', tys', A⟩ := X
  intro H locs ls hP hD hS hl
  have hD0 : va_D A (cw_X ad ct F S σ ++ va_pl (ph_L σ) (cw_E σ)) := by
    refine ⟨fun i j p q hi hj e => ?_, fun i p hi => ?_⟩
    · obtain ⟨p', hp', ep⟩ := cw_unset hq hi
      obtain ⟨q', hq', eq⟩ := cw_unset hq hj
      exact hD.1 i j p' q' hp' hq' (by rw [ep, eq, e])
    · obtain ⟨p', hp', ep⟩ := cw_unset hq hi
      rw [← ep]; exact hD.2 i p' hp'
  have e : (cw ad ct F S σ).set q0 (a, .inr (0, [.int (ph_B σ 0 a), .int (ph_B σ 1 a), .int (ph_B σ 2 a), .int (ph_B σ 3 a), .int v])) = cw ad ct F S (ph_sB σ 4 a v) := by
    refine (va_pl_set hD0 ha hq).trans ?_
    refine congrArg (fun l => cw_X ad ct F S σ ++ l) (va_pl_congr fun b => ?_)
    by_cases hb : b = a
    · subst hb; simp [va_up, cw_E, ph_B, ph_sB]
    · simp [va_up, cw_E, ph_B, ph_sB, hb]
  have hP' : va_P D' vwc ((cw ad ct F S σ).set q0 (a, .inr (0, [.int (ph_B σ 0 a), .int (ph_B σ 1 a), .int (ph_B σ 2 a), .int (ph_B σ 3 a), .int v]))) H := hP
  have hD' : va_D A ((cw ad ct F S σ).set q0 (a, .inr (0, [.int (ph_B σ 0 a), .int (ph_B σ 1 a), .int (ph_B σ 2 a), .int (ph_B σ 3 a), .int v]))) := hD
  rw [e] at hP' hD'
  exact kk H locs ls hP' hD' hS hl
theorem cl_fc (C : gC X cc nL own rm rt D (gt ct) post) (hdg : decode cc pc = .ok (.arraylength, 1)) (kk : gV X k n (cw ad ct F S σ) (pc + 1) lv (.int (nI (F)) :: st)) : gV X k n (cw ad ct F S σ) pc lv (.ref (ad 3) :: st) := gV_alen C 3 2 rfl rfl hdg kk
theorem ca_fc (C : gC X cc nL own rm rt D (gt ct) post) {i : Int32} (hin : vp_in i (F)) (hdg : decode cc pc = .ok (.aaload, 1)) (kk : gV X k n (cw ad ct F S σ) (pc + 1) lv (va_rf (ph_R σ 0 i.toNatClampNeg) :: st)) : gV X k n (cw ad ct F S σ) pc lv (.int i :: .ref (ad 3) :: st) := gV_aldq C 3 2 rfl rfl hin hdg kk
theorem cs_fc_n (C : gC X cc nL own rm rt D (gt ct) post) {i : Int32} (hin : vp_in i (F)) (hdg : decode cc pc = .ok (.aastore, 1)) (kk : gV X k n (cw ad ct F S (ph_sR σ 0 i.toNatClampNeg none)) (pc + 1) lv st) : gV X k n (cw ad ct F S σ) pc lv (.null :: .int i :: .ref (ad 3) :: st) := gV_astqN C 3 2 rfl rfl hin hdg kk
theorem cs_fc (C : gC X cc nL own rm rt D (gt ct) post) {i : Int32} {a : Nat} (ha : a ∈ ph_L σ) (hin : vp_in i (F)) (hdg : decode cc pc = .ok (.aastore, 1)) (kk : gV X k n (cw ad ct F S (ph_sR σ 0 i.toNatClampNeg (some a))) (pc + 1) lv st) : gV X k n (cw ad ct F S σ) pc lv (.ref a :: .int i :: .ref (ad 3) :: st) := by
  obtain ⟨q0, hq⟩ := va_pl_get (X := cw_X ad ct F S σ) (f := cw_E σ) ha
  exact gV_astqS C 3 2 q0 0 rfl rfl hq rfl hin hdg kk
theorem cl_fw (C : gC X cc nL own rm rt D (gt ct) post) (hdg : decode cc pc = .ok (.arraylength, 1)) (kk : gV X k n (cw ad ct F S σ) (pc + 1) lv (.int (nI (16 * F)) :: st)) : gV X k n (cw ad ct F S σ) pc lv (.ref (ad 4) :: st) := gV_alen C 4 0 rfl rfl hdg kk
theorem ca_fw (C : gC X cc nL own rm rt D (gt ct) post) {i : Int32} (hin : vp_in i (16 * F)) (hdg : decode cc pc = .ok (.iaload, 1)) (kk : gV X k n (cw ad ct F S σ) (pc + 1) lv (.int (ph_A σ 0 i.toNatClampNeg) :: st)) : gV X k n (cw ad ct F S σ) pc lv (.int i :: .ref (ad 4) :: st) := gV_iald C 4 0 rfl rfl hin hdg kk
theorem cs_fw (C : gC X cc nL own rm rt D (gt ct) post) {i x : Int32} (hin : vp_in i (16 * F)) (hdg : decode cc pc = .ok (.iastore, 1)) (kk : gV X k n (cw ad ct F S (ph_sA σ 0 i.toNatClampNeg x)) (pc + 1) lv st) : gV X k n (cw ad ct F S σ) pc lv (.int x :: .int i :: .ref (ad 4) :: st) := gV_iast C 4 0 rfl rfl hin hdg kk
theorem cl_sc (C : gC X cc nL own rm rt D (gt ct) post) (hdg : decode cc pc = .ok (.arraylength, 1)) (kk : gV X k n (cw ad ct F S σ) (pc + 1) lv (.int (nI (S)) :: st)) : gV X k n (cw ad ct F S σ) pc lv (.ref (ad 5) :: st) := gV_alen C 5 2 rfl rfl hdg kk
theorem ca_sc (C : gC X cc nL own rm rt D (gt ct) post) {i : Int32} (hin : vp_in i (S)) (hdg : decode cc pc = .ok (.aaload, 1)) (kk : gV X k n (cw ad ct F S σ) (pc + 1) lv (va_rf (ph_R σ 1 i.toNatClampNeg) :: st)) : gV X k n (cw ad ct F S σ) pc lv (.int i :: .ref (ad 5) :: st) := gV_aldq C 5 2 rfl rfl hin hdg kk
theorem cs_sc_n (C : gC X cc nL own rm rt D (gt ct) post) {i : Int32} (hin : vp_in i (S)) (hdg : decode cc pc = .ok (.aastore, 1)) (kk : gV X k n (cw ad ct F S (ph_sR σ 1 i.toNatClampNeg none)) (pc + 1) lv st) : gV X k n (cw ad ct F S σ) pc lv (.null :: .int i :: .ref (ad 5) :: st) := gV_astqN C 5 2 rfl rfl hin hdg kk
theorem cs_sc (C : gC X cc nL own rm rt D (gt ct) post) {i : Int32} {a : Nat} (ha : a ∈ ph_L σ) (hin : vp_in i (S)) (hdg : decode cc pc = .ok (.aastore, 1)) (kk : gV X k n (cw ad ct F S (ph_sR σ 1 i.toNatClampNeg (some a))) (pc + 1) lv st) : gV X k n (cw ad ct F S σ) pc lv (.ref a :: .int i :: .ref (ad 5) :: st) := by
  obtain ⟨q0, hq⟩ := va_pl_get (X := cw_X ad ct F S σ) (f := cw_E σ) ha
  exact gV_astqS C 5 2 q0 0 rfl rfl hq rfl hin hdg kk
theorem cl_sw (C : gC X cc nL own rm rt D (gt ct) post) (hdg : decode cc pc = .ok (.arraylength, 1)) (kk : gV X k n (cw ad ct F S σ) (pc + 1) lv (.int (nI (16 * S)) :: st)) : gV X k n (cw ad ct F S σ) pc lv (.ref (ad 6) :: st) := gV_alen C 6 0 rfl rfl hdg kk
theorem ca_sw (C : gC X cc nL own rm rt D (gt ct) post) {i : Int32} (hin : vp_in i (16 * S)) (hdg : decode cc pc = .ok (.iaload, 1)) (kk : gV X k n (cw ad ct F S σ) (pc + 1) lv (.int (ph_A σ 1 i.toNatClampNeg) :: st)) : gV X k n (cw ad ct F S σ) pc lv (.int i :: .ref (ad 6) :: st) := gV_iald C 6 0 rfl rfl hin hdg kk
theorem cs_sw (C : gC X cc nL own rm rt D (gt ct) post) {i x : Int32} (hin : vp_in i (16 * S)) (hdg : decode cc pc = .ok (.iastore, 1)) (kk : gV X k n (cw ad ct F S (ph_sA σ 1 i.toNatClampNeg x)) (pc + 1) lv st) : gV X k n (cw ad ct F S σ) pc lv (.int x :: .int i :: .ref (ad 6) :: st) := gV_iast C 6 0 rfl rfl hin hdg kk
theorem cl_us (C : gC X cc nL own rm rt D (gt ct) post) (hdg : decode cc pc = .ok (.arraylength, 1)) (kk : gV X k n (cw ad ct F S σ) (pc + 1) lv (.int (nI (F)) :: st)) : gV X k n (cw ad ct F S σ) pc lv (.ref (ad 7) :: st) := gV_alen C 7 1 rfl rfl hdg kk
theorem ca_us (C : gC X cc nL own rm rt D (gt ct) post) {i : Int32} (hin : vp_in i (F)) (hdg : decode cc pc = .ok (.baload, 1)) (kk : gV X k n (cw ad ct F S σ) (pc + 1) lv (.int (ph_A σ 2 i.toNatClampNeg) :: st)) : gV X k n (cw ad ct F S σ) pc lv (.int i :: .ref (ad 7) :: st) := gV_zald C 7 1 rfl rfl hin hdg kk
theorem cs_us (C : gC X cc nL own rm rt D (gt ct) post) {i x : Int32} (hin : vp_in i (F)) (hv9 : x = 0 ∨ x = 1) (hdg : decode cc pc = .ok (.bastore, 1)) (kk : gV X k n (cw ad ct F S (ph_sA σ 2 i.toNatClampNeg x)) (pc + 1) lv st) : gV X k n (cw ad ct F S σ) pc lv (.int x :: .int i :: .ref (ad 7) :: st) := gV_zast C 7 1 rfl rfl hin hv9 hdg kk
theorem cl_pn (C : gC X cc nL own rm rt D (gt ct) post) (hdg : decode cc pc = .ok (.arraylength, 1)) (kk : gV X k n (cw ad ct F S σ) (pc + 1) lv (.int (nI (8)) :: st)) : gV X k n (cw ad ct F S σ) pc lv (.ref (ad 8) :: st) := gV_alen C 8 0 rfl rfl hdg kk
theorem ca_pn (C : gC X cc nL own rm rt D (gt ct) post) {i : Int32} (hin : vp_in i (8)) (hdg : decode cc pc = .ok (.iaload, 1)) (kk : gV X k n (cw ad ct F S σ) (pc + 1) lv (.int (ph_A σ 3 i.toNatClampNeg) :: st)) : gV X k n (cw ad ct F S σ) pc lv (.int i :: .ref (ad 8) :: st) := gV_iald C 8 0 rfl rfl hin hdg kk
theorem cs_pn (C : gC X cc nL own rm rt D (gt ct) post) {i x : Int32} (hin : vp_in i (8)) (hdg : decode cc pc = .ok (.iastore, 1)) (kk : gV X k n (cw ad ct F S (ph_sA σ 3 i.toNatClampNeg x)) (pc + 1) lv st) : gV X k n (cw ad ct F S σ) pc lv (.int x :: .int i :: .ref (ad 8) :: st) := gV_iast C 8 0 rfl rfl hin hdg kk
theorem cl_bo (C : gC X cc nL own rm rt D (gt ct) post) (hdg : decode cc pc = .ok (.arraylength, 1)) (kk : gV X k n (cw ad ct F S σ) (pc + 1) lv (.int (nI (256)) :: st)) : gV X k n (cw ad ct F S σ) pc lv (.ref (ad 9) :: st) := gV_alen C 9 2 rfl rfl hdg kk
theorem ca_bo (C : gC X cc nL own rm rt D (gt ct) post) {i : Int32} (hin : vp_in i (256)) (hdg : decode cc pc = .ok (.aaload, 1)) (kk : gV X k n (cw ad ct F S σ) (pc + 1) lv (va_rf (ph_R σ 2 i.toNatClampNeg) :: st)) : gV X k n (cw ad ct F S σ) pc lv (.int i :: .ref (ad 9) :: st) := gV_aldq C 9 2 rfl rfl hin hdg kk
theorem cs_bo_n (C : gC X cc nL own rm rt D (gt ct) post) {i : Int32} (hin : vp_in i (256)) (hdg : decode cc pc = .ok (.aastore, 1)) (kk : gV X k n (cw ad ct F S (ph_sR σ 2 i.toNatClampNeg none)) (pc + 1) lv st) : gV X k n (cw ad ct F S σ) pc lv (.null :: .int i :: .ref (ad 9) :: st) := gV_astqN C 9 2 rfl rfl hin hdg kk
theorem cs_bo (C : gC X cc nL own rm rt D (gt ct) post) {i : Int32} {a : Nat} (ha : a ∈ ph_L σ) (hin : vp_in i (256)) (hdg : decode cc pc = .ok (.aastore, 1)) (kk : gV X k n (cw ad ct F S (ph_sR σ 2 i.toNatClampNeg (some a))) (pc + 1) lv st) : gV X k n (cw ad ct F S σ) pc lv (.ref a :: .int i :: .ref (ad 9) :: st) := by
  obtain ⟨q0, hq⟩ := va_pl_get (X := cw_X ad ct F S σ) (f := cw_E σ) ha
  exact gV_astqS C 9 2 q0 0 rfl rfl hq rfl hin hdg kk
end CWR
