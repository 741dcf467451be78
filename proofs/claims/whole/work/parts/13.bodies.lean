/-- the method is a constructor -/
def gI (X : gx_T) : Prop := match X with
  | ((_, _, _, _, _, _, _, _, meth, _, _), _) => meth.name = "<init>"
theorem gM_inI {y : MethodName} {bytes : ByteArray} {maxL : Nat} {rt : Option FieldType} {rm : Room} {D : va_G} {tys : List (ClassId × FieldType)} {ws : va_W} {av : List Value} {post : Option Value → va_W → Prop} (own : String) (ho : y.cls = own) (hn : y.name = "<init>")
    (hy : plainName own = true) (hav : (lg_sl av).length ≤ maxL) (h : ∀ X : gx_T, gC X bytes maxL own rm rt D tys post → gI X → gV X 0 0 ws 0 (lv_args 0 av) []) : gM y bytes maxL rt rm D tys ws av post := by
  subst ho
  intro l sz hl0
  refine Met.ofW (cc := bytes) (maxL := maxL) (ret := rt) hy rfl ?_
  intro p e s m args below meth c s₁ B hml hv
  obtain ⟨rfl, hsz, hP, hK, hN, hD0⟩ := hv
  subst hsz
  have hts := atoms_spec (ws := Cond.code y bytes maxL rt :: pw_all) B.pre
  have hl := lv_entry av (n := maxL) hav
  rw [lg_entry_eq]
  exact h ((p, l, e, rm, s, m, av.toArray, below, meth, c, MQ below (gQ post D (va_A ws s.heap.size)) av.toArray s rm.cells rm.slots (va_A ws s.heap.size)), (maxL, D, tys, va_A ws s.heap.size))
    ⟨B.exec, B.bytes, hml, findClass_of_methodNamed B.named, fun w hw => hts w (List.mem_cons_of_mem _ hw), hN, hK, fun q hq => Or.inr hq, B.notSynchronized, rfl, rfl, rfl, rfl, hl0, B.returns, fun _ _ _ _ _ k => k⟩
    (((name_of_methodNamed B.named B.method).1).trans hn) s.heap [] _ hP (hD0.self (sz := s.heap.size)) va_S.rf hl
theorem w_obj_i : Cond.instanceMethod Lib.objectInit ∈ pw_all := pw_t 28 (by decide +kernel) rfl
theorem w_obj_c : Cond.code Lib.objectInit ⟨#[0xb1]⟩ 1 none ∈ pw_all := pw_t 29 rfl rfl
theorem w_obj_X1 : Cond.methodLink RX1 3 Lib.objectInit ∈ pw_all := pw_t 41 (by decide +kernel) rfl
theorem w_obj_X2 : Cond.methodLink RX2 1 Lib.objectInit ∈ pw_all := pw_t 27 (by decide +kernel) rfl
theorem w_obj_X0 : Cond.methodLink RX0 3 Lib.objectInit ∈ pw_all := pw_t 342 (by decide +kernel) rfl
theorem w_obj_X3 : Cond.methodLink RX3 1 Lib.objectInit ∈ pw_all := pw_t 638 (by decide +kernel) rfl
theorem w_pgn : Cond.fieldLink RX0 9 "PagerHouse$Body" "pageNumber" "I" ∈ pw_all := pw_t 343 (by decide +kernel) rfl
section CNB
variable {X : gx_T} {cc : ByteArray} {nL : Nat} {own : String} {rm : Room} {rt : Option FieldType} {D : va_G} {post : Option Value → va_W → Prop} {k n : Nat} {pc : Nat} {lv : List (Nat × Value)} {st : List Value} {idx : Nat}
variable {ad : Nat → Nat} {ct : Nat → ClassId} {F S : Nat} {σ : ph_S}
theorem cp_b_pageNumber (C : gC X cc nL RX0 rm rt D (gt ct) post) (hI : gI X) {a : Nat} (ha : a ∈ ph_L σ) {v : Int32} (hdg : decode cc pc = .ok (.putfield 9, 3)) (kk : gV X k n (cw ad ct F S (ph_sB σ 0 a v)) (pc + 3) lv st) : gV X k n (cw ad ct F S σ) pc lv (.int v :: .ref a :: st) := by
  obtain ⟨q0, hq⟩ := va_pl_get (X := cw_X ad ct F S σ) (f := cw_E σ) ha
  refine gV_putF (ty := .int) C hI pw_fl_X0 tyX0 tyX0_ok nmX0 q0 0 0 w_pgn hq rfl (by decide) rfl rfl (by decide +kernel) rfl rfl (Nat.le_of_ble_eq_true rfl) hdg ?_
  obtain ⟨⟨p, l, e, R, s, m, args, below, meth, c, Q⟩, nL', D', tys', A⟩ := X
  intro H locs ls hP hD hS hl
  have hD0 : va_D A (cw_X ad ct F S σ ++ va_pl (ph_L σ) (cw_E σ)) := by
    refine ⟨fun i j p q hi hj e => ?_, fun i p hi => ?_⟩
    · obtain ⟨p', hp', ep⟩ := cw_unset hq hi
      obtain ⟨q', hq', eq⟩ := cw_unset hq hj
      exact hD.1 i j p' q' hp' hq' (by rw [ep, eq, e])
    · obtain ⟨p', hp', ep⟩ := cw_unset hq hi
      rw [← ep]; exact hD.2 i p' hp'
  have e : (cw ad ct F S σ).set q0 (a, .inr (0, [.int v, .int (ph_B σ 1 a), .int (ph_B σ 2 a), .int (ph_B σ 3 a), .int (ph_B σ 4 a)])) = cw ad ct F S (ph_sB σ 0 a v) := by
    refine (va_pl_set hD0 ha hq).trans ?_
    refine congrArg (fun l => cw_X ad ct F S σ ++ l) (va_pl_congr fun b => ?_)
    by_cases hb : b = a
    · subst hb; simp [va_up, cw_E, ph_B, ph_sB]
    · simp [va_up, cw_E, ph_B, ph_sB, hb]
  have hP' : va_P D' vwc ((cw ad ct F S σ).set q0 (a, .inr (0, [.int v, .int (ph_B σ 1 a), .int (ph_B σ 2 a), .int (ph_B σ 3 a), .int (ph_B σ 4 a)]))) H := hP
  have hD' : va_D A ((cw ad ct F S σ).set q0 (a, .inr (0, [.int v, .int (ph_B σ 1 a), .int (ph_B σ 2 a), .int (ph_B σ 3 a), .int (ph_B σ 4 a)]))) := hD
  rw [e] at hP' hD'
  exact kk H locs ls hP' hD' hS hl
theorem cw_push {q : Nat} (hq : q ∉ ph_L σ) : cw ad ct F S σ ++ [(q, .inr (0, [.int 0, .int 0, .int 0, .int 0, .int 0]))] = cw ad ct F S (ph_nB σ q) := by
  show (cw_X ad ct F S σ ++ va_pl (ph_L σ) (cw_E σ)) ++ _ = _
  rw [List.append_assoc, va_pl_push hq]
  refine congrArg (fun l => cw_X ad ct F S σ ++ l) (va_pl_congr (L := ph_L σ ++ [q]) fun b => ?_)
  by_cases hb : b = q
  · subst hb; simp [va_up, cw_E, ph_B, ph_nB]
  · simp [va_up, cw_E, ph_B, ph_nB, hb]
theorem cn_body (C : gC X cc nL RX2 rm rt D (gt ct) post) (hcells : k + 1 ≤ rm.cells) (hslots : n + 5 ≤ rm.slots) (hdg : decode cc pc = .ok (.new 38, 3)) (kk : ∀ q : Nat, q ∉ ph_L σ → gV X (k + 1) (n + 5) (cw ad ct F S (ph_nB σ q)) (pc + 3) lv (.ref q :: st)) : gV X k n (cw ad ct F S σ) pc lv st := by
  refine gV_new C pw_fl_X0 tyX0 tyX0_ok cl_X2_38 in_X0 ini_X0 0 rfl (fs := [.int 0, .int 0, .int 0, .int 0, .int 0]) (fun j hj => by rcases (show j = 0 ∨ j = 1 ∨ j = 2 ∨ j = 3 ∨ j = 4 by omega) with rfl | rfl | rfl | rfl | rfl <;> rfl) hcells hslots hdg (fun q hq => ?_)
  have hq' : q ∉ ph_L σ := fun h => by
    obtain ⟨q0, h0⟩ := va_pl_get (X := cw_X ad ct F S σ) (f := cw_E σ) h
    exact hq q0 _ h0 rfl
  exact gV_ws (cw_push hq') (kk q hq')
end CNB
def ph_bi (σ : ph_S) (q : Nat) (g : Int32) : ph_S := ph_sB (ph_sB (ph_sB (ph_sB σ 0 q g) 1 q (-1)) 2 q (-1)) 3 q 1
def ph_nb (F : Nat) (σ : ph_S) (q : Nat) (g : Int32) (f : Nat) : ph_S := ph_zero F (ph_lay (ph_bi (ph_nB σ q) q g) q f) f
theorem ph_nb_L (F : Nat) (σ : ph_S) (q : Nat) (g : Int32) (f : Nat) : ph_L (ph_nb F σ q g f) = ph_L σ ++ [q] := rfl
theorem B_nB (σ : ph_S) (q k a : Nat) : ph_B (ph_nB σ q) k a = if a = q then 0 else ph_B σ k a := rfl
theorem ok_nbi {F S : Nat} {σ : ph_S} {q : Nat} {g : Int32} (h : ph_ok F S σ) (hg : ∃ j, j < 32 ∧ g = nI j) : ph_ok F S (ph_bi (ph_nB σ q) q g) := by
  obtain ⟨h1, h2, h3, h4, h5, h6⟩ := h
  refine ⟨h1, fun k j a e => List.mem_append_left _ (h2 k j a e), fun a ha => ?_, h4, h5, h6⟩
  unfold ph_bi
  simp only [B_sB, B_nB]
  by_cases e : a = q
  · subst e
    simp
    exact hg
  · have ha' : a ∈ ph_L σ := by
      rcases List.mem_append.mp (show a ∈ ph_L σ ++ [q] from ha) with h | h
      · exact h
      · exact absurd (List.mem_singleton.mp h) e
    simp [e]
    exact h3 a ha'
theorem ok_nb {F S : Nat} {σ : ph_S} {q f : Nat} {g : Int32} (h : ph_ok F S σ) (hg : ∃ j, j < 32 ∧ g = nI j) (hf : f < F) : ph_ok F S (ph_nb F σ q g f) :=
  ok_fA (ok_lay (ok_nbi h hg) (List.mem_append_right _ (List.mem_singleton.mpr rfl)) hf) (by decide) _
def ph_cb3 (σ : ph_S) : ph_S := ph_sI σ 5 (ph_I σ 5 + 1)
def ph_cb2 (σ : ph_S) (a : Nat) : ph_S := ph_cb3 (ph_sB σ 3 a (ph_B σ 3 a - 1))
def ph_cb1 (F : Nat) (σ : ph_S) (a f : Nat) : ph_S := ph_cb2 (ph_cpy F F 0 0 σ (nI f) (ph_B σ 1 a)) a
def ph_cbd (F : Nat) (σ : ph_S) (a f q : Nat) : ph_S := ph_cb1 F (ph_nb F σ q (ph_B σ 0 a) f) a f
theorem ph_cbd_L (F : Nat) (σ : ph_S) (a f q : Nat) : ph_L (ph_cbd F σ a f q) = ph_L σ ++ [q] := by
  show ph_L (ph_cpy _ _ _ _ _ _ _) = _
  rw [ph_cpy_L, ph_nb_L]
theorem ok_cbd {F S : Nat} {σ : ph_S} {a f q : Nat} (h : ph_ok F S σ) (ha : a ∈ ph_L σ) (hf : f < F) : ph_ok F S (ph_cbd F σ a f q) :=
  ok_sI (ok_ho (ok_cpy (ok_nb h (h.pg ha) hf) (by decide)) _ _) _ (by decide)
def ph_own2 (F S : Nat) (σ : ph_S) (a b : Nat) (σ' : ph_S) : Prop := if ph_B σ 3 a ≤ 1 then b = a ∧ σ' = σ else b ∉ ph_L σ ∧ σ' = ph_cbd F (ph_tkS F S (ph_B σ 1 a) σ) a (ph_tkN F S (ph_B σ 1 a) σ) b
def ph_own1 (F S : Nat) (σ : ph_S) (a : Nat) : ph_S := if ph_B σ 1 a = -1 then ph_br F S (ph_tkS F S (-1) σ) a (ph_tkN F S (-1) σ) else σ
def ph_own (F S : Nat) (σ : ph_S) (r : Option Nat) (g : Int32) (b : Nat) (σ' : ph_S) : Prop := match r with
  | none => b ∉ ph_L σ ∧ σ' = ph_nb F (ph_tkS F S (-1) σ) b g (ph_tkN F S (-1) σ)
  | some a => ph_own2 F S (ph_own1 F S σ a) a b σ'
theorem ph_own1_L (F S : Nat) (σ : ph_S) (a : Nat) : ph_L (ph_own1 F S σ a) = ph_L σ := by
  unfold ph_own1; split
  · rw [ph_br_L, ph_tkS_L]
  · rfl
theorem ok_own1 {F S : Nat} {σ : ph_S} {a : Nat} (h : ph_ok F S σ) (ha : a ∈ ph_L σ) : ph_ok F S (ph_own1 F S σ a) := by
  unfold ph_own1; split
  · exact ok_br (ok_tkS h) (by rw [ph_tkS_L]; exact ha) (tkN_lt h)
  · exact h
theorem ok_own {F S : Nat} {σ σ' : ph_S} {r : Option Nat} {g : Int32} {b : Nat} (h : ph_ok F S σ) (hr : ∀ a, r = some a → a ∈ ph_L σ) (hg : ∃ j, j < 32 ∧ g = nI j) (ho : ph_own F S σ r g b σ') : ph_ok F S σ' ∧ b ∈ ph_L σ' := by
  cases r with
  | none =>
    obtain ⟨-, rfl⟩ := ho
    exact ⟨ok_nb (ok_tkS h) hg (tkN_lt h), by rw [ph_nb_L]; exact List.mem_append_right _ (List.mem_singleton.mpr rfl)⟩
  | some a =>
    have ha := hr a rfl
    have h1 := ok_own1 h ha
    have ha1 : a ∈ ph_L (ph_own1 F S σ a) := by rw [ph_own1_L]; exact ha
    simp only [ph_own, ph_own2] at ho
    split at ho
    · obtain ⟨rfl, rfl⟩ := ho
      exact ⟨h1, ha1⟩
    · obtain ⟨-, rfl⟩ := ho
      exact ⟨ok_cbd (ok_tkS h1) (by rw [ph_tkS_L]; exact ha1) (tkN_lt h1), by rw [ph_cbd_L]; exact List.mem_append_right _ (List.mem_singleton.mpr rfl)⟩
abbrev rm_X0_init : Room := { frames := 1, cells := 0, slots := 0, locals := 60 }
set_option maxHeartbeats 4000000 in
set_option maxRecDepth 100000 in
/-- Body() -/
theorem c_body {D : va_G} {ad : Nat → Nat} {ct : Nat → ClassId} {F S : Nat} {σ : ph_S} {q : Nat} {g : Int32} (m_q : q ∈ ph_L σ) : gM yX0_init cX0_init 2 none rm_X0_init D (gt ct) (cw ad ct F S σ) [.ref q, .int g] (fun v w => v = none ∧ w = cw ad ct F S (ph_bi σ q g)) := by
  refine gM_inI RX0 rfl rfl (by decide) (Nat.le_of_ble_eq_true rfl) (fun X C hI => ?_)
  refine gV_aload_n (pc := 0) (x := q) C dX0_init_0 0 rfl rfl ?_
  refine gV_objInit (pc := 1) C w_obj_X0 w_obj_i w_obj_c (Nat.le_of_ble_eq_true rfl) (by decide) dX0_init_1 ?_
  refine gV_aload_n (pc := 4) (x := q) C dX0_init_4 0 rfl rfl ?_
  refine gV_iload_n (pc := 5) C dX0_init_5 1 rfl rfl ?_
  refine cp_b_pageNumber (pc := 6) (σ := σ) C hI m_q dX0_init_6 ?_
  refine gV_aload_n (pc := 9) (x := q) C dX0_init_9 0 rfl rfl ?_
  refine gV_iconst (pc := 10) (v := (-1)) C dX0_init_10 (by decide) ?_
  refine cp_b_frame (pc := 11) (σ := ph_sB σ 0 q g) C m_q fl_X0_15 dX0_init_11 ?_
  refine gV_aload_n (pc := 14) (x := q) C dX0_init_14 0 rfl rfl ?_
  refine gV_iconst (pc := 15) (v := (-1)) C dX0_init_15 (by decide) ?_
  refine cp_b_sector (pc := 16) (σ := ph_sB (ph_sB σ 0 q g) 1 q ((-1))) C m_q fl_X0_18 dX0_init_16 ?_
  refine gV_aload_n (pc := 19) (x := q) C dX0_init_19 0 rfl rfl ?_
  refine gV_iconst (pc := 20) (v := 1) C dX0_init_20 (by decide) ?_
  refine cp_b_holders (pc := 21) (σ := ph_sB (ph_sB (ph_sB σ 0 q g) 1 q ((-1))) 2 q ((-1))) C m_q fl_X0_21 dX0_init_21 ?_
  refine gV_vret (pc := 24) C dX0_init_24 (by decide) (by decide) ?_
  exact ⟨rfl, rfl⟩
abbrev rm_X2_newBody : Room := { frames := 3, cells := 1, slots := 5, locals := 81 }
set_option maxHeartbeats 4000000 in
set_option maxRecDepth 100000 in
/-- newBody -/
theorem c_newBody {D : va_G} {ad : Nat → Nat} {ct : Nat → ClassId} {F S : Nat} {σ : ph_S} {g : Int32} {f : Nat} (hf : f < F) (hF : F ≤ 16) : gM yX2_newBody cX2_newBody 4 (some (.object "PagerHouse$Body")) rm_X2_newBody D (gt ct) (cw ad ct F S σ) [.ref (ad 0), .int g, .int (nI f)] (fun v w => ∃ q, q ∉ ph_L σ ∧ v = some (va_rf (some q)) ∧ w = cw ad ct F S (ph_nb F σ q g f)) := by
  refine gM_in RX2 rfl (by decide) (Nat.le_of_ble_eq_true rfl) (fun X C => ?_)
  refine cn_body (pc := 0) C (by decide) (by decide) dX2_newBody_0 (fun q hq => ?_)
  have m_q : q ∈ ph_L (ph_nB σ q) := List.mem_append_right _ (List.mem_singleton.mpr rfl)
  refine gV_dup (pc := 3) C dX2_newBody_3 rfl ?_
  refine gV_iload_n (pc := 4) C dX2_newBody_4 1 rfl rfl ?_
  refine gV_callI (pc := 5) (As := [.int g]) (rest := [.ref q]) C ml_X2_175 gy_X0_init gi_X0_init (c_body (q := q) (g := g) m_q)  rfl rfl ⟨by decide, by decide⟩ (Nat.le_of_ble_eq_true rfl) (by decide) (by decide) dX2_newBody_5 ?_
  rintro _ _ ⟨rfl, rfl⟩
  refine gV_astore_n (pc := 8) (x := q) (lv' := [(3, .ref q), (0, .ref (ad 0)), (1, .int g), (2, .int (nI f))]) C dX2_newBody_8 rfl (by decide) rfl ?_
  refine gV_aload_n (pc := 9) (x := ad 0) C dX2_newBody_9 1 rfl rfl ?_
  refine gV_aload_n (pc := 10) (x := q) C dX2_newBody_10 0 rfl rfl ?_
  refine gV_iload_n (pc := 11) C dX2_newBody_11 3 rfl rfl ?_
  refine gV_callV (pc := 12) (As := [.ref q, .int (nI f)]) (rest := []) C ml_X2_176 gy_X2_lay gv_X2_lay (c_lay (a := q) (f := f) m_q hf (by omega)) ⟨0, 2, _, _, rfl, rfl, rfl⟩ rfl rfl ⟨by decide, by decide⟩ (Nat.le_of_ble_eq_true rfl) (by decide) (by decide) dX2_newBody_12 ?_
  rintro _ _ ⟨rfl, rfl⟩
  refine gV_aload_n (pc := 15) (x := ad 0) C dX2_newBody_15 1 rfl rfl ?_
  refine cg_frames (pc := 16) C fl_X2_23 dX2_newBody_16 ?_
  refine gV_iload_n (pc := 19) C dX2_newBody_19 3 rfl rfl ?_
  refine gV_callV (pc := 20) (As := [.int (nI f)]) (rest := []) C ml_X2_179 gy_X1_zero gv_X1_zero (c_zero (r := f) (by omega) hf) ⟨1, 1, _, _, rfl, rfl, rfl⟩ rfl rfl ⟨by decide, by decide⟩ (Nat.le_of_ble_eq_true rfl) (by decide) (by decide) dX2_newBody_20 ?_
  rintro _ _ ⟨rfl, rfl⟩
  refine gV_aload_n (pc := 23) (x := q) C dX2_newBody_23 0 rfl rfl ?_
  refine gV_aret (pc := 24) (r := some q) C dX2_newBody_24 (by decide) (by decide) ?_
  exact ⟨q, hq, rfl, rfl⟩
abbrev rm_X2_copyBody : Room := { frames := 4, cells := 1, slots := 5, locals := 104 }
set_option maxHeartbeats 4000000 in
set_option maxRecDepth 100000 in
/-- copyBody -/
theorem c_copyBody {D : va_G} {ad : Nat → Nat} {ct : Nat → ClassId} {F S : Nat} {σ : ph_S} {a f : Nat} (hok : ph_ok F S σ) (m_a : a ∈ ph_L σ) (hf : f < F) : gM yX2_copyBody cX2_copyBody 4 (some (.object "PagerHouse$Body")) rm_X2_copyBody D (gt ct) (cw ad ct F S σ) [.ref (ad 0), .ref a, .int (nI f)] (fun v w => ∃ q, q ∉ ph_L σ ∧ v = some (va_rf (some q)) ∧ w = cw ad ct F S (ph_cbd F σ a f q)) := by
  refine gM_in RX2 rfl (by decide) (Nat.le_of_ble_eq_true rfl) (fun X C => ?_)
  have hF := hok.F16
  have hS := hok.S64
  refine gV_aload_n (pc := 0) (x := ad 0) C dX2_copyBody_0 0 rfl rfl ?_
  refine gV_aload_n (pc := 1) (x := a) C dX2_copyBody_1 1 rfl rfl ?_
  refine cg_b_pageNumber (pc := 2) (σ := σ) C m_a fl_X2_127 dX2_copyBody_2 ?_
  refine gV_iload_n (pc := 5) C dX2_copyBody_5 2 rfl rfl ?_
  refine gV_callV (pc := 6) (As := [.int (ph_B σ 0 a), .int (nI f)]) (rest := []) C ml_X2_168 gy_X2_newBody gv_X2_newBody (c_newBody (g := (ph_B σ 0 a)) (f := f) hf (by omega)) ⟨0, 2, _, _, rfl, rfl, rfl⟩ rfl rfl ⟨by decide, by decide⟩ (Nat.le_of_ble_eq_true rfl) (by decide) (by decide) dX2_copyBody_6 ?_
  rintro _ _ ⟨q_1, hq_1, rfl, rfl⟩
  have m_2 : a ∈ ph_L (ph_nb F σ q_1 (ph_B σ 0 a) f) := by rw [ph_nb_L]; exact List.mem_append_left _ m_a
  have m_3 : q_1 ∈ ph_L (ph_nb F σ q_1 (ph_B σ 0 a) f) := by rw [ph_nb_L]; exact List.mem_append_right _ (List.mem_singleton.mpr rfl)
  refine gV_astore_n (pc := 9) (x := q_1) (lv' := [(3, .ref q_1), (0, .ref (ad 0)), (1, .ref a), (2, .int (nI f))]) C dX2_copyBody_9 rfl (by decide) rfl ?_
  refine gV_aload_n (pc := 10) (x := ad 0) C dX2_copyBody_10 1 rfl rfl ?_
  refine cg_frames (pc := 11) C fl_X2_23 dX2_copyBody_11 ?_
  refine gV_iload_n (pc := 14) C dX2_copyBody_14 3 rfl rfl ?_
  refine gV_aload_n (pc := 15) (x := ad 0) C dX2_copyBody_15 1 rfl rfl ?_
  refine cg_frames (pc := 16) C fl_X2_23 dX2_copyBody_16 ?_
  refine gV_aload_n (pc := 19) (x := a) C dX2_copyBody_19 2 rfl rfl ?_
  refine cg_b_frame (pc := 20) (σ := ph_nb F σ q_1 (ph_B σ 0 a) f) C m_2 fl_X2_76 dX2_copyBody_20 ?_
  refine gV_callV (pc := 23) (As := [.int (nI f), .ref (ad 1), .int (ph_B (ph_nb F σ q_1 (ph_B σ 0 a) f) 1 a)]) (rest := []) C ml_X2_182 gy_X1_copyWords gv_X1_copyWords (c_copyWords11 _ _ (by omega) (by omega)) ⟨1, 1, _, _, rfl, rfl, rfl⟩ rfl rfl ⟨by decide, by decide⟩ (Nat.le_of_ble_eq_true rfl) (by decide) (by decide) dX2_copyBody_23 ?_
  rintro _ _ ⟨rfl, rfl⟩
  have m_4 : a ∈ ph_L (ph_cpy F F 0 0 (ph_nb F σ q_1 (ph_B σ 0 a) f) (nI f) (ph_B (ph_nb F σ q_1 (ph_B σ 0 a) f) 1 a)) := by rw [ph_cpy_L]; exact m_2
  have m_5 : q_1 ∈ ph_L (ph_cpy F F 0 0 (ph_nb F σ q_1 (ph_B σ 0 a) f) (nI f) (ph_B (ph_nb F σ q_1 (ph_B σ 0 a) f) 1 a)) := by rw [ph_cpy_L]; exact m_3
  refine gV_aload_n (pc := 26) (x := a) C dX2_copyBody_26 2 rfl rfl ?_
  refine gV_dup (pc := 27) C dX2_copyBody_27 rfl ?_
  refine cg_b_holders (pc := 28) (σ := ph_cpy F F 0 0 (ph_nb F σ q_1 (ph_B σ 0 a) f) (nI f) (ph_B (ph_nb F σ q_1 (ph_B σ 0 a) f) 1 a)) C m_4 fl_X2_55 dX2_copyBody_28 ?_
  refine gV_iconst (pc := 31) (v := 1) C dX2_copyBody_31 (by decide) ?_
  refine gV_isub (pc := 32) C dX2_copyBody_32 ?_
  refine cp_b_holders (pc := 33) (σ := ph_cpy F F 0 0 (ph_nb F σ q_1 (ph_B σ 0 a) f) (nI f) (ph_B (ph_nb F σ q_1 (ph_B σ 0 a) f) 1 a)) C m_4 fl_X2_55 dX2_copyBody_33 ?_
  refine gV_aload_n (pc := 36) (x := ad 0) C dX2_copyBody_36 1 rfl rfl ?_
  refine gV_dup (pc := 37) C dX2_copyBody_37 rfl ?_
  refine cg_copies (pc := 38) C fl_X2_158 dX2_copyBody_38 ?_
  refine gV_iconst (pc := 41) (v := 1) C dX2_copyBody_41 (by decide) ?_
  refine gV_iadd (pc := 42) C dX2_copyBody_42 ?_
  refine cp_copies (pc := 43) C fl_X2_158 dX2_copyBody_43 ?_
  refine gV_aload_n (pc := 46) (x := q_1) C dX2_copyBody_46 0 rfl rfl ?_
  refine gV_aret (pc := 47) (r := some q_1) C dX2_copyBody_47 (by decide) (by decide) ?_
  exact ⟨q_1, hq_1, rfl, rfl⟩
abbrev rm_X2_ownBody : Room := { frames := 5, cells := 1, slots := 5, locals := 149 }
set_option maxHeartbeats 4000000 in
set_option maxRecDepth 100000 in
/-- ownBody -/
theorem c_ownBody {D : va_G} {ad : Nat → Nat} {ct : Nat → ClassId} {F S : Nat} {σ : ph_S} {r : Option Nat} {g : Int32} (hok : ph_ok F S σ) (hr : ∀ a, r = some a → a ∈ ph_L σ) : gM yX2_ownBody cX2_ownBody 3 (some (.object "PagerHouse$Body")) rm_X2_ownBody D (gt ct) (cw ad ct F S σ) [.ref (ad 0), va_rf r, .int g] (fun v w => ∃ b σ2, ph_own F S σ r g b σ2 ∧ v = some (va_rf (some b)) ∧ w = cw ad ct F S σ2) := by
  have hF := hok.F16
  cases r with
  | none =>
    refine gM_in RX2 rfl (by decide) (Nat.le_of_ble_eq_true rfl) (fun X C => ?_)
    refine gV_aloadq_n (pc := 0) (r := none) C dX2_ownBody_0 1 rfl rfl ?_
    refine gV_ifnonnull (pc := 1) (r := none) C 15 dX2_ownBody_1 (by decide) (fun _ h => nomatch h) (fun _ => ?_)
    refine gV_aload_n (pc := 4) (x := ad 0) C dX2_ownBody_4 0 rfl rfl ?_
    refine gV_iload_n (pc := 5) C dX2_ownBody_5 2 rfl rfl ?_
    refine gV_aload_n (pc := 6) (x := ad 0) C dX2_ownBody_6 0 rfl rfl ?_
    refine gV_iconst (pc := 7) (v := (-1)) C dX2_ownBody_7 (by decide) ?_
    refine gV_callV (pc := 8) (As := [.int ((-1))]) (rest := [.int g, .ref (ad 0)]) C ml_X2_79 gy_X2_take gv_X2_take (c_take ((-1)) hok) ⟨0, 2, _, _, rfl, rfl, rfl⟩ rfl rfl ⟨by decide, by decide⟩ (Nat.le_of_ble_eq_true rfl) (by decide) (by decide) dX2_ownBody_8 ?_
    rintro _ _ ⟨rfl, rfl⟩
    refine gV_callV (pc := 11) (As := [.int g, .int (nI (ph_tkN F S ((-1)) σ))]) (rest := []) C ml_X2_168 gy_X2_newBody gv_X2_newBody (c_newBody (g := g) (f := (ph_tkN F S ((-1)) σ)) (tkN_lt hok) (by omega)) ⟨0, 2, _, _, rfl, rfl, rfl⟩ rfl rfl ⟨by decide, by decide⟩ (Nat.le_of_ble_eq_true rfl) (by decide) (by decide) dX2_ownBody_11 ?_
    rintro _ _ ⟨q_1, hq_1, rfl, rfl⟩
    have m_2 : q_1 ∈ ph_L (ph_nb F (ph_tkS F S ((-1)) σ) q_1 g (ph_tkN F S ((-1)) σ)) := by rw [ph_nb_L]; exact List.mem_append_right _ (List.mem_singleton.mpr rfl)
    refine gV_aret (pc := 14) (r := some q_1) C dX2_ownBody_14 (by decide) (by decide) ?_
    exact ⟨q_1, _, ⟨by rw [← ph_tkS_L F S (-1) σ]; exact hq_1, rfl⟩, rfl, rfl⟩
  | some a =>
    have m_a := hr a rfl
    have hok1 := ok_own1 hok m_a
    refine gM_in RX2 rfl (by decide) (Nat.le_of_ble_eq_true rfl) (fun X C => ?_)
    refine gV_aload_n (pc := 0) (x := a) C dX2_ownBody_0 1 rfl rfl ?_
    refine gV_ifnonnull (pc := 1) (r := some a) C 15 dX2_ownBody_1 (by decide) (fun _ _ => ?_) (fun h => nomatch h)
    refine gV_aload_n (pc := 15) (x := a) C dX2_ownBody_15 1 rfl rfl ?_
    refine cg_b_frame (pc := 16) (σ := σ) C m_a fl_X2_76 dX2_ownBody_16 ?_
    refine gV_iconst (pc := 19) (v := (-1)) C dX2_ownBody_19 (by decide) ?_
    refine gV_icmp_ne (pc := 20) C 33 dX2_ownBody_20 (by decide) (fun c_1 => ?_) (fun c_1 => ?_)
    · skip
      refine gV_ws (congrArg (cw ad ct F S) (show σ = ph_own1 F S σ a by rw [ph_own1, if_neg c_1])) ?_
      have m_b : a ∈ ph_L (ph_own1 F S σ a) := by rw [ph_own1_L]; exact m_a
      refine gV_aload_n (pc := 33) (x := a) C dX2_ownBody_33 1 rfl rfl ?_
      refine cg_b_holders (pc := 34) (σ := ph_own1 F S σ a) C m_b fl_X2_55 dX2_ownBody_34 ?_
      refine gV_iconst (pc := 37) (v := 1) C dX2_ownBody_37 (by decide) ?_
      refine gV_icmp_le (pc := 38) C 57 dX2_ownBody_38 (by decide) (fun c_12 => ?_) (fun c_12 => ?_)
      · skip
        refine gV_aload_n (pc := 57) (x := a) C dX2_ownBody_57 1 rfl rfl ?_
        refine gV_aret (pc := 58) (r := some a) C dX2_ownBody_58 (by decide) (by decide) ?_
        exact ⟨_, _, by show ph_own2 _ _ _ _ _ _; unfold ph_own2; rw [if_pos c_12]; exact ⟨rfl, rfl⟩, rfl, rfl⟩
      · skip
        refine gV_aload_n (pc := 41) (x := ad 0) C dX2_ownBody_41 0 rfl rfl ?_
        refine gV_aload_n (pc := 42) (x := a) C dX2_ownBody_42 1 rfl rfl ?_
        refine gV_aload_n (pc := 43) (x := ad 0) C dX2_ownBody_43 0 rfl rfl ?_
        refine gV_aload_n (pc := 44) (x := a) C dX2_ownBody_44 1 rfl rfl ?_
        refine cg_b_frame (pc := 45) (σ := ph_own1 F S σ a) C m_b fl_X2_76 dX2_ownBody_45 ?_
        refine gV_callV (pc := 48) (As := [.int (ph_B (ph_own1 F S σ a) 1 a)]) (rest := [.ref a, .ref (ad 0)]) C ml_X2_79 gy_X2_take gv_X2_take (c_take (ph_B (ph_own1 F S σ a) 1 a) hok1) ⟨0, 2, _, _, rfl, rfl, rfl⟩ rfl rfl ⟨by decide, by decide⟩ (Nat.le_of_ble_eq_true rfl) (by decide) (by decide) dX2_ownBody_48 ?_
        rintro _ _ ⟨rfl, rfl⟩
        have m_13 : a ∈ ph_L (ph_tkS F S (ph_B (ph_own1 F S σ a) 1 a) (ph_own1 F S σ a)) := by rw [ph_tkS_L]; exact m_b
        refine gV_callV (pc := 51) (As := [.ref a, .int (nI (ph_tkN F S (ph_B (ph_own1 F S σ a) 1 a) (ph_own1 F S σ a)))]) (rest := []) C ml_X2_172 gy_X2_copyBody gv_X2_copyBody (c_copyBody (a := a) (f := (ph_tkN F S (ph_B (ph_own1 F S σ a) 1 a) (ph_own1 F S σ a))) (ok_tkS hok1) m_13 (tkN_lt hok1)) ⟨0, 2, _, _, rfl, rfl, rfl⟩ rfl rfl ⟨by decide, by decide⟩ (Nat.le_of_ble_eq_true rfl) (by decide) (by decide) dX2_ownBody_51 ?_
        rintro _ _ ⟨q_14, hq_14, rfl, rfl⟩
        refine gV_goto (pc := 54) C 58 dX2_ownBody_54 (by decide) ?_
        refine gV_aret (pc := 58) (r := some q_14) C dX2_ownBody_58 (by decide) (by decide) ?_
        exact ⟨_, _, by show ph_own2 _ _ _ _ _ _; unfold ph_own2; rw [if_neg c_12]; exact ⟨by rw [← ph_tkS_L F S (ph_B (ph_own1 F S σ a) 1 a) (ph_own1 F S σ a)]; exact hq_14, rfl⟩, rfl, rfl⟩
    · skip
      refine gV_aload_n (pc := 23) (x := ad 0) C dX2_ownBody_23 0 rfl rfl ?_
      refine gV_aload_n (pc := 24) (x := a) C dX2_ownBody_24 1 rfl rfl ?_
      refine gV_aload_n (pc := 25) (x := ad 0) C dX2_ownBody_25 0 rfl rfl ?_
      refine gV_iconst (pc := 26) (v := (-1)) C dX2_ownBody_26 (by decide) ?_
      refine gV_callV (pc := 27) (As := [.int ((-1))]) (rest := [.ref a, .ref (ad 0)]) C ml_X2_79 gy_X2_take gv_X2_take (c_take ((-1)) hok) ⟨0, 2, _, _, rfl, rfl, rfl⟩ rfl rfl ⟨by decide, by decide⟩ (Nat.le_of_ble_eq_true rfl) (by decide) (by decide) dX2_ownBody_27 ?_
      rintro _ _ ⟨rfl, rfl⟩
      have m_15 : a ∈ ph_L (ph_tkS F S ((-1)) σ) := by rw [ph_tkS_L]; exact m_a
      refine gV_callV (pc := 30) (As := [.ref a, .int (nI (ph_tkN F S ((-1)) σ))]) (rest := []) C ml_X2_83 gy_X2_bring gv_X2_bring (c_bring (a := a) (f := (ph_tkN F S ((-1)) σ)) (ok_tkS hok) m_15 (tkN_lt hok)) ⟨0, 2, _, _, rfl, rfl, rfl⟩ rfl rfl ⟨by decide, by decide⟩ (Nat.le_of_ble_eq_true rfl) (by decide) (by decide) dX2_ownBody_30 ?_
      rintro _ _ ⟨rfl, rfl⟩
      have m_16 : a ∈ ph_L (ph_br F S (ph_tkS F S ((-1)) σ) a (ph_tkN F S ((-1)) σ)) := by rw [ph_br_L]; exact m_15
      refine gV_ws (congrArg (cw ad ct F S) (show ph_br F S (ph_tkS F S ((-1)) σ) a (ph_tkN F S ((-1)) σ) = ph_own1 F S σ a by rw [ph_own1, if_pos c_1])) ?_
      have m_b : a ∈ ph_L (ph_own1 F S σ a) := by rw [ph_own1_L]; exact m_a
      refine gV_aload_n (pc := 33) (x := a) C dX2_ownBody_33 1 rfl rfl ?_
      refine cg_b_holders (pc := 34) (σ := ph_own1 F S σ a) C m_b fl_X2_55 dX2_ownBody_34 ?_
      refine gV_iconst (pc := 37) (v := 1) C dX2_ownBody_37 (by decide) ?_
      refine gV_icmp_le (pc := 38) C 57 dX2_ownBody_38 (by decide) (fun c_27 => ?_) (fun c_27 => ?_)
      · skip
        refine gV_aload_n (pc := 57) (x := a) C dX2_ownBody_57 1 rfl rfl ?_
        refine gV_aret (pc := 58) (r := some a) C dX2_ownBody_58 (by decide) (by decide) ?_
        exact ⟨_, _, by show ph_own2 _ _ _ _ _ _; unfold ph_own2; rw [if_pos c_27]; exact ⟨rfl, rfl⟩, rfl, rfl⟩
      · skip
        refine gV_aload_n (pc := 41) (x := ad 0) C dX2_ownBody_41 0 rfl rfl ?_
        refine gV_aload_n (pc := 42) (x := a) C dX2_ownBody_42 1 rfl rfl ?_
        refine gV_aload_n (pc := 43) (x := ad 0) C dX2_ownBody_43 0 rfl rfl ?_
        refine gV_aload_n (pc := 44) (x := a) C dX2_ownBody_44 1 rfl rfl ?_
        refine cg_b_frame (pc := 45) (σ := ph_own1 F S σ a) C m_b fl_X2_76 dX2_ownBody_45 ?_
        refine gV_callV (pc := 48) (As := [.int (ph_B (ph_own1 F S σ a) 1 a)]) (rest := [.ref a, .ref (ad 0)]) C ml_X2_79 gy_X2_take gv_X2_take (c_take (ph_B (ph_own1 F S σ a) 1 a) hok1) ⟨0, 2, _, _, rfl, rfl, rfl⟩ rfl rfl ⟨by decide, by decide⟩ (Nat.le_of_ble_eq_true rfl) (by decide) (by decide) dX2_ownBody_48 ?_
        rintro _ _ ⟨rfl, rfl⟩
        have m_28 : a ∈ ph_L (ph_tkS F S (ph_B (ph_own1 F S σ a) 1 a) (ph_own1 F S σ a)) := by rw [ph_tkS_L]; exact m_b
        refine gV_callV (pc := 51) (As := [.ref a, .int (nI (ph_tkN F S (ph_B (ph_own1 F S σ a) 1 a) (ph_own1 F S σ a)))]) (rest := []) C ml_X2_172 gy_X2_copyBody gv_X2_copyBody (c_copyBody (a := a) (f := (ph_tkN F S (ph_B (ph_own1 F S σ a) 1 a) (ph_own1 F S σ a))) (ok_tkS hok1) m_28 (tkN_lt hok1)) ⟨0, 2, _, _, rfl, rfl, rfl⟩ rfl rfl ⟨by decide, by decide⟩ (Nat.le_of_ble_eq_true rfl) (by decide) (by decide) dX2_ownBody_51 ?_
        rintro _ _ ⟨q_29, hq_29, rfl, rfl⟩
        refine gV_goto (pc := 54) C 58 dX2_ownBody_54 (by decide) ?_
        refine gV_aret (pc := 58) (r := some q_29) C dX2_ownBody_58 (by decide) (by decide) ?_
        exact ⟨_, _, by show ph_own2 _ _ _ _ _ _; unfold ph_own2; rw [if_neg c_27]; exact ⟨by rw [← ph_tkS_L F S (ph_B (ph_own1 F S σ a) 1 a) (ph_own1 F S σ a)]; exact hq_29, rfl⟩, rfl, rfl⟩
