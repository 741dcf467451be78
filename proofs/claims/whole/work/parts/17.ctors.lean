section GAR
variable {X : gx_T} {cc : ByteArray} {nL : Nat} {own : String} {rm : Room} {rt : Option FieldType} {D : va_G} {tys : List (ClassId × FieldType)} {post : Option Value → va_W → Prop} {k n : Nat} {ws : va_W} {pc : Nat} {lv : List (Nat × Value)} {st : List Value} {idx : Nat}
theorem va_K_cls {D : va_G} {tys : List (ClassId × FieldType)} {s : State} {cA c0 : ClassId} {ty : FieldType} {t0 : Nat} (hK : va_K D vwc (tys ++ [(cA, ty)]) s) (ht : tys[t0]? = some (c0, ty)) : cA = c0 := by
  have h1 := (hK.2 t0 (c0, ty) (by rw [List.getElem?_append_left (List.getElem?_eq_some_iff.mp ht).1]; exact ht)).2
  have h2 := (hK.2 tys.length (cA, ty) (by rw [List.getElem?_append_right (Nat.le_refl _), Nat.sub_self]; rfl)).2
  have find : ∀ c, va_RA s c ty → s.vm.findClass ("[" ++ ty.toString) = some c := by
    intro c h
    cases ty with
    | object C => obtain ⟨kA, comp, -, -, -, h4⟩ := h; exact h4
    | _ => exact h
  exact Option.some.inj ((find cA h2).symm.trans (find c0 h1))
theorem gV_newa (C : gC X cc nL own rm rt D tys post) {atype : ArrayType} (harr : Cond.arrayClass (newarray.typeOf atype) ∈ pw_all) {ty : FieldType} (hty : newarray.typeOf atype = ty) (t0 : Nat) {c0 : ClassId} (ht : tys[t0]? = some (c0, ty)) {z : Int32} {N : Nat} {a0 : vp_A} (ha : ∀ cA : ClassId, vp_cell cA a0 = arrV cA N (fun _ => defaultValue ty)) (hn : ¬ z < 0) (hN : z.toNatClampNeg = N) (hbytes : N * componentBytes ty ≤ 536870912) (hcells : k + 1 ≤ rm.cells) (hslots : n + N ≤ rm.slots) (hdg : decode cc pc = .ok (.newarray atype, 2))
    (kk : ∀ q : Nat, gV X (k + 1) (n + N) (ws ++ [(q, .inl (c0, a0))]) (pc + 2) lv (.ref q :: st)) : gV X k n ws pc lv (.int z :: st) := by
  obtain ⟨⟨p, l, e, R, s, m, args, below, meth, c, Q⟩, nL', D', tys', A⟩ := X
  obtain ⟨hx, hb, hml, hown, hts, hN, hK, hA, hlks, rfl, rfl, rfl, rfl, hl0, hr, hret⟩ := C
  intro H locs ls hP hD hS hl
  exact va_newa hx hb (hts _ harr) hty hK hP hD hS hA ha hn ‹_› hbytes hcells hslots hdg (fun q cA H1 hK1 hP1 hD1 hS1 => by
    have e := va_K_cls hK1 ht
    subst e
    exact kk q H1 locs ls hP1 hD1 hS1 hl)
theorem gV_newq (C : gC X cc nL own rm rt D tys post) {Cn : String} (hclink : Cond.classLink own idx Cn ∈ pw_all) (hover : Cond.arrayOver (.object Cn) ∈ pw_nst) (t0 : Nat) {c0 : ClassId} (ht : tys[t0]? = some (c0, .object Cn)) {z : Int32} {N : Nat} (hn : ¬ z < 0) (hN : z.toNatClampNeg = N) (hbytes : N * 4 ≤ 536870912) (hcells : k + 1 ≤ rm.cells) (hslots : n + N ≤ rm.slots) (hdg : decode cc pc = .ok (.anewarray idx, 3))
    (kk : ∀ q : Nat, gV X (k + 1) (n + N) (ws ++ [(q, .inl (c0, N, .inr (.inr (.inr (.inr (fun _ => none))))))]) (pc + 3) lv (.ref q :: st)) : gV X k n ws pc lv (.int z :: st) := by
  have hNN := hN
  obtain ⟨⟨p, l, e, R, s, m, args, below, meth, c, Q⟩, nL', D', tys', A⟩ := X
  obtain ⟨hx, hb, hml, hown, hts, hN, hK, hA, hlks, rfl, rfl, rfl, rfl, hl0, hr, hret⟩ := C
  intro H locs ls hP hD hS hl
  exact va_newq hx hb hown (hts _ hclink) (hN _ hover) hK hP hD hS hA hn hNN hbytes hcells hslots hdg (fun q cA H1 hK1 hP1 hD1 hS1 => by
    have e := va_K_cls hK1 ht
    subst e
    exact kk q H1 locs ls hP1 hD1 hS1 hl)
theorem gV_mmax (C : gC X cc nL own rm rt D tys post) (hlink : Cond.methodLink own idx Lib.Math.max.name ∈ pw_all) (hf : 1 ≤ rm.frames) (hlo : (st.map fun v => v.category).sum + 13 ≤ rm.locals) (hc : k ≤ rm.cells) (hs : n ≤ rm.slots) {x y : Int32} (hdg : decode cc pc = .ok (.invokestatic idx, 3)) (kk : gV X k n ws (pc + 3) lv (.int (if x < y then y else x) :: st)) : gV X k n ws pc lv (.int y :: .int x :: st) := by
  obtain ⟨⟨p, l, e, R, s, m, args, below, meth, c, Q⟩, nL', D', tys', A⟩ := X
  obtain ⟨hx, hb, hml, hown, hts, hN, hK, hA, hlks, rfl, rfl, rfl, rfl, hl0, hr, hret⟩ := C
  intro H locs ls hP hD hS hl
  exact va_mmax hx hb (hml.trans hl.1.symm) hown (hts _ hlink) (hts _ (pw_t 31 (by decide +kernel) rfl)) (hts _ (pw_t 2 (by decide +kernel) rfl)) (hts _ (pw_t 32 rfl rfl)) hf hlo hc hs hdg (kk H locs ls hP hD hS hl)
theorem gV_mmin (C : gC X cc nL own rm rt D tys post) (hlink : Cond.methodLink own idx Lib.Math.min.name ∈ pw_all) (hf : 1 ≤ rm.frames) (hlo : (st.map fun v => v.category).sum + 13 ≤ rm.locals) (hc : k ≤ rm.cells) (hs : n ≤ rm.slots) {x y : Int32} (hdg : decode cc pc = .ok (.invokestatic idx, 3)) (kk : gV X k n ws (pc + 3) lv (.int (if y < x then y else x) :: st)) : gV X k n ws pc lv (.int y :: .int x :: st) := by
  obtain ⟨⟨p, l, e, R, s, m, args, below, meth, c, Q⟩, nL', D', tys', A⟩ := X
  obtain ⟨hx, hb, hml, hown, hts, hN, hK, hA, hlks, rfl, rfl, rfl, rfl, hl0, hr, hret⟩ := C
  intro H locs ls hP hD hS hl
  exact va_mmin hx hb (hml.trans hl.1.symm) hown (hts _ hlink) (hts _ (pw_t 34 (by decide +kernel) rfl)) (hts _ (pw_t 2 (by decide +kernel) rfl)) (hts _ (pw_t 35 rfl rfl)) hf hlo hc hs hdg (kk H locs ls hP hD hS hl)
theorem gV_sub {ws' : va_W} (is : List Nat) (h1 : is.filterMap (fun i => ws[i]?) = ws') (h2 : va_nd is = true) (h3 : is.map (fun i => ws[i]?) = ws'.map some) (kk : gV X k n ws' pc lv st) : gV X k n ws pc lv st := by
  obtain ⟨⟨p, l, e, R, s, m, args, below, meth, c, Q⟩, nL', D', tys', A⟩ := X
  intro H locs ls hP hD hS hl
  exact kk H locs ls (hP.sub is h1) (hD.sub is h2 h3) hS hl
end GAR
theorem w_over : Cond.arrayOver (.object RX0) ∈ pw_nst := pw_n 43 (by decide +kernel) rfl
theorem w_arrI : Cond.arrayClass (newarray.typeOf .int) ∈ pw_all := pw_t 53 (by decide +kernel) rfl
theorem w_arrZ : Cond.arrayClass (newarray.typeOf .boolean) ∈ pw_all := pw_t 89 (by decide +kernel) rfl
theorem w_arrJ : Cond.arrayClass (newarray.typeOf .long) ∈ pw_all := pw_t 798 (by decide +kernel) rfl
theorem wf_X1_11 : Cond.fieldLink RX1 11 "PagerHouse$Rows" "content" "[LPagerHouse$Body;" ∈ pw_all := pw_t 44 (by decide +kernel) rfl
theorem wf_X1_17 : Cond.fieldLink RX1 17 "PagerHouse$Rows" "words" "[I" ∈ pw_all := pw_t 46 (by decide +kernel) rfl
theorem wf_X2_23 : Cond.fieldLink RX2 23 "PagerHouse" "frames" "LPagerHouse$Rows;" ∈ pw_all := pw_t 55 (by decide +kernel) rfl
theorem wf_X2_27 : Cond.fieldLink RX2 27 "PagerHouse" "sectors" "LPagerHouse$Rows;" ∈ pw_all := pw_t 56 (by decide +kernel) rfl
theorem wf_X2_30 : Cond.fieldLink RX2 30 "PagerHouse" "used" "[Z" ∈ pw_all := pw_t 57 (by decide +kernel) rfl
theorem wf_X2_34 : Cond.fieldLink RX2 34 "PagerHouse" "pageCounts" "[I" ∈ pw_all := pw_t 59 (by decide +kernel) rfl
theorem wf_X2_40 : Cond.fieldLink RX2 40 "PagerHouse" "bodies" "[LPagerHouse$Body;" ∈ pw_all := pw_t 60 (by decide +kernel) rfl
theorem w_m_9 : Cond.methodLink RX2 9 Lib.Math.max.name ∈ pw_all := pw_t 30 (by decide +kernel) rfl
theorem w_m_15 : Cond.methodLink RX2 15 Lib.Math.min.name ∈ pw_all := pw_t 33 (by decide +kernel) rfl
abbrev rm_X1_init : Room := { frames := 1, cells := 2, slots := 1088, locals := 60 }
set_option maxHeartbeats 4000000 in
set_option maxRecDepth 100000 in
/-- Rows(N) -/
theorem c_rows {D : va_G} {ct : Nat → ClassId} {b N : Nat} (hN : N ≤ 64) : gM yX1_init cX1_init 2 none rm_X1_init D (gt ct) [(b, .inr (1, [.null, .null]))] [.ref b, .int (nI N)] (fun v w => ∃ c e, v = none ∧ w = [(b, .inr (1, [.ref c, .ref e])), (c, .inl (ct 2, N, .inr (.inr (.inr (.inr (fun _ => none)))))), (e, .inl (ct 0, 16 * N, .inl (fun _ => 0)))]) := by
  refine gM_inI RX1 rfl rfl (by decide) (Nat.le_of_ble_eq_true rfl) (fun X C hI => ?_)
  refine gV_aload_n (pc := 0) (x := b) C dX1_init_0 0 rfl rfl ?_
  refine gV_objInit (pc := 1) C w_obj_X1 w_obj_i w_obj_c (Nat.le_of_ble_eq_true rfl) (by decide) dX1_init_1 ?_
  refine gV_aload_n (pc := 4) (x := b) C dX1_init_4 0 rfl rfl ?_
  refine gV_iload_n (pc := 5) C dX1_init_5 1 rfl rfl ?_
  refine gV_newq (pc := 6) C cl_X1_9 w_over 2 rfl (nI_pos (by omega)) (nI_clamp (by omega)) (by omega) (by decide) (show 0 + N ≤ 1088 by omega) dX1_init_6 (fun c => ?_)
  refine gV_putF (pc := 9) (ty := .array (.object "PagerHouse$Body")) C hI pw_fl_X1 tyX1 tyX1_ok nmX1 0 1 0 wf_X1_11 rfl rfl (by decide) rfl rfl (by decide +kernel) rfl rfl (Nat.le_of_ble_eq_true rfl) dX1_init_9 ?_
  refine gV_aload_n (pc := 12) (x := b) C dX1_init_12 0 rfl rfl ?_
  refine gV_iload_n (pc := 13) C dX1_init_13 1 rfl rfl ?_
  refine gV_bipush (pc := 14) (v := 16) C dX1_init_14 (by decide) ?_
  refine gV_imul (pc := 16) C dX1_init_16 ?_
  rw [mul16]
  refine gV_newa (pc := 17) C w_arrI rfl 0 (a0 := (16 * N, .inl (fun _ => 0))) rfl (fun _ => rfl) (nI_pos (by omega)) (nI_clamp (by omega)) (show 16 * N * 4 ≤ 536870912 by omega) (by decide) (show 0 + N + 16 * N ≤ 1088 by omega) dX1_init_17 (fun e => ?_)
  refine gV_putF (pc := 19) (ty := .array .int) C hI pw_fl_X1 tyX1 tyX1_ok nmX1 0 1 1 wf_X1_17 rfl rfl (by decide) rfl rfl (by decide +kernel) rfl rfl (Nat.le_of_ble_eq_true rfl) dX1_init_19 ?_
  refine gV_vret (pc := 22) C dX1_init_22 (by decide) (show 0 + N + 16 * N ≤ 1088 by omega) ?_
  exact ⟨c, e, rfl, rfl⟩
def ph_cl (lo hi x : Int32) : Int32 := if hi < (if x < lo then lo else x) then hi else (if x < lo then lo else x)
theorem cl_in {x : Int32} (a b : Nat) (hab : a ≤ b) (hb : b < 2 ^ 31) : ∃ j, a ≤ j ∧ j ≤ b ∧ ph_cl (nI a) (nI b) x = nI j := by
  unfold ph_cl
  by_cases h : x < nI a
  · rw [if_pos h, if_neg (nI_nlt hab hb)]
    exact ⟨a, Nat.le_refl a, hab, rfl⟩
  · rw [if_neg h]
    have h0 : ¬ x < 0 := fun z => h (Int32.lt_of_lt_of_le z (nI_pos' (by omega)))
    obtain ⟨j, hj, rfl⟩ := nI_of h0
    have h1 : a ≤ j := Nat.le_of_not_lt fun z => h (nI_lt z (by omega))
    by_cases h2 : nI b < nI j
    · rw [if_pos h2]; exact ⟨b, hab, Nat.le_refl b, rfl⟩
    · rw [if_neg h2]
      exact ⟨j, h1, Nat.le_of_not_lt fun z => h2 (nI_lt z hj), rfl⟩
def ph_F (x : Int32) : Nat := (ph_cl 2 16 x).toNatClampNeg
def ph_Sn (x : Int32) : Nat := (ph_cl 0 64 x).toNatClampNeg
theorem ph_F_in (x : Int32) : 2 ≤ ph_F x ∧ ph_F x ≤ 16 ∧ ph_cl 2 16 x = nI (ph_F x) := by
  obtain ⟨j, h1, h2, h3⟩ := cl_in (x := x) 2 16 (by decide) (by decide)
  have e : ph_cl 2 16 x = nI j := h3
  unfold ph_F
  rw [e, nI_clamp (by omega)]
  exact ⟨h1, h2, rfl⟩
theorem ph_Sn_in (x : Int32) : ph_Sn x ≤ 64 ∧ ph_cl 0 64 x = nI (ph_Sn x) := by
  obtain ⟨j, h1, h2, h3⟩ := cl_in (x := x) 0 64 (by decide) (by decide)
  have e : ph_cl 0 64 x = nI j := h3
  unfold ph_Sn
  rw [e, nI_clamp (by omega)]
  exact ⟨h2, rfl⟩
/-- a new object's state -/
def ph_0 : ph_S := (fun _ => 0, fun _ _ => none, fun _ _ => 0, fun _ _ => 0, [])
theorem ok_0 {F S : Nat} (h1 : 2 ≤ F) (h2 : F ≤ 16) (h3 : S ≤ 64) : ph_ok F S ph_0 :=
  ⟨⟨h1, h2, h3⟩, fun k j a e => (nomatch e), fun a ha => (nomatch ha), ⟨0, by omega, rfl⟩, fun p _ => ⟨0, by omega, rfl⟩, fun f => Or.inl rfl⟩
def ad_of (l : List Nat) (k : Nat) : Nat := l.getD k 0
abbrev rm_X2_init : Room := { frames := 2, cells := 9, slots := 2600, locals := 81 }
set_option maxHeartbeats 4000000 in
set_option maxRecDepth 100000 in
/-- PagerHouse(frames, sectors) -/
theorem c_pager {D : va_G} {ct : Nat → ClassId} {h0 : Nat} (f s : Int32) : gM yX2_init cX2_init 5 none rm_X2_init D (gt ct) [(h0, .inr (2, [.null, .null, .null, .int 0, .null, .null, .int 0, .int 0, .int 0, .int 0, .int 0]))] [.ref h0, .int f, .int s] (fun v w => ∃ ad : Nat → Nat, ad 0 = h0 ∧ v = none ∧ w = cw ad ct (ph_F f) (ph_Sn s) ph_0) := by
  obtain ⟨hF2, hF16, eF⟩ := ph_F_in f
  obtain ⟨hS64, eS⟩ := ph_Sn_in s
  refine gM_inI RX2 rfl rfl (by decide) (Nat.le_of_ble_eq_true rfl) (fun X C hI => ?_)
  refine gV_aload_n (pc := 0) (x := h0) C dX2_init_0 0 rfl rfl ?_
  refine gV_objInit (pc := 1) C w_obj_X2 w_obj_i w_obj_c (Nat.le_of_ble_eq_true rfl) (by decide) dX2_init_1 ?_
  refine gV_iload_n (pc := 4) C dX2_init_4 1 rfl rfl ?_
  refine gV_iconst (pc := 5) (v := 2) C dX2_init_5 (by decide) ?_
  refine gV_mmax (pc := 6) C w_m_9 (by decide) (Nat.le_of_ble_eq_true rfl) (by decide) (by decide) dX2_init_6 ?_
  refine gV_bipush (pc := 9) (v := 16) C dX2_init_9 (by decide) ?_
  refine gV_mmin (pc := 11) C w_m_15 (by decide) (Nat.le_of_ble_eq_true rfl) (by decide) (by decide) dX2_init_11 ?_
  refine gV_st (congrArg (fun z => [Value.int z]) (show _ = nI (ph_F f) from eF)) ?_
  refine gV_istore_n (pc := 14) (lv' := [(3, .int (nI (ph_F f))), (0, .ref h0), (1, .int f), (2, .int s)]) C dX2_init_14 rfl (by decide) rfl ?_
  refine gV_iload_n (pc := 15) C dX2_init_15 3 rfl rfl ?_
  refine gV_iconst (pc := 16) (v := 0) C dX2_init_16 (by decide) ?_
  refine gV_mmax (pc := 17) C w_m_9 (by decide) (Nat.le_of_ble_eq_true rfl) (by decide) (by decide) dX2_init_17 ?_
  refine gV_bipush (pc := 20) (v := 64) C dX2_init_20 (by decide) ?_
  refine gV_mmin (pc := 22) C w_m_15 (by decide) (Nat.le_of_ble_eq_true rfl) (by decide) (by decide) dX2_init_22 ?_
  refine gV_st (congrArg (fun z => [Value.int z]) (show _ = nI (ph_Sn s) from eS)) ?_
  refine gV_istore (pc := 25) (lv' := [(4, .int (nI (ph_Sn s))), (3, .int (nI (ph_F f))), (0, .ref h0), (1, .int f), (2, .int s)]) C dX2_init_25 (by decide) rfl ?_
  refine gV_aload_n (pc := 27) (x := h0) C dX2_init_27 2 rfl rfl ?_
  refine gV_new (pc := 28) C pw_fl_X1 tyX1 tyX1_ok cl_X2_18 in_X1 ini_X1 1 rfl (fs := [.null, .null]) (fun j hj => by rcases (show j = 0 ∨ j = 1 by omega) with rfl | rfl <;> rfl) (by decide) (by decide) dX2_init_28 (fun q1 _ => ?_)
  refine gV_dup (pc := 31) C dX2_init_31 rfl ?_
  refine gV_iload_n (pc := 32) C dX2_init_32 1 rfl rfl ?_
  refine gV_sub (ws' := [(q1, .inr (1, [.null, .null]))] ++ [(h0, .inr (2, [.null, .null, .null, .int 0, .null, .null, .int 0, .int 0, .int 0, .int 0, .int 0]))]) [1, 0] rfl (by decide) rfl ?_
  refine gV_callIr (pc := 33) (As := [.int (nI (ph_F f))]) (rest := [.ref q1, .ref h0]) C ml_X2_20 gy_X1_init gi_X1_init (c_rows (N := ph_F f) (by omega)) rfl rfl rfl ⟨by decide, by decide⟩ (Nat.le_of_ble_eq_true rfl) (by decide) (by decide) dX2_init_33 ?_
  rintro _ _ ⟨c1, e1, rfl, rfl⟩
  refine gV_putF (pc := 36) (ty := .object "PagerHouse$Rows") C hI pw_fl_X2 tyX2 tyX2_ok nmX2 3 2 0 wf_X2_23 rfl rfl (by decide) rfl rfl (by decide +kernel) rfl rfl (Nat.le_of_ble_eq_true rfl) dX2_init_36 ?_
  refine gV_ws (ws' := [(q1, .inr (1, [.ref c1, .ref e1])), (c1, .inl (ct 2, ph_F f, .inr (.inr (.inr (.inr (fun _ => none)))))), (e1, .inl (ct 0, 16 * ph_F f, .inl (fun _ => 0))), (h0, .inr (2, [.ref q1, .null, .null, .int 0, .null, .null, .int 0, .int 0, .int 0, .int 0, .int 0]))]) rfl ?_
  refine gV_aload_n (pc := 39) (x := h0) C dX2_init_39 2 rfl rfl ?_
  refine gV_new (pc := 40) C pw_fl_X1 tyX1 tyX1_ok cl_X2_18 in_X1 ini_X1 1 rfl (fs := [.null, .null]) (fun j hj => by rcases (show j = 0 ∨ j = 1 by omega) with rfl | rfl <;> rfl) (by decide) (by decide) dX2_init_40 (fun q2 _ => ?_)
  refine gV_dup (pc := 43) C dX2_init_43 rfl ?_
  refine gV_iload (pc := 44) C dX2_init_44 0 rfl ?_
  refine gV_sub (ws' := [(q2, .inr (1, [.null, .null]))] ++ [(q1, .inr (1, [.ref c1, .ref e1])), (c1, .inl (ct 2, ph_F f, .inr (.inr (.inr (.inr (fun _ => none)))))), (e1, .inl (ct 0, 16 * ph_F f, .inl (fun _ => 0))), (h0, .inr (2, [.ref q1, .null, .null, .int 0, .null, .null, .int 0, .int 0, .int 0, .int 0, .int 0]))]) [4, 0, 1, 2, 3] rfl (by decide) rfl ?_
  refine gV_callIr (pc := 46) (As := [.int (nI (ph_Sn s))]) (rest := [.ref q2, .ref h0]) C ml_X2_20 gy_X1_init gi_X1_init (c_rows (N := ph_Sn s) hS64) rfl rfl rfl ⟨by decide, by decide⟩ (Nat.le_of_ble_eq_true rfl) (by decide) (by decide) dX2_init_46 ?_
  rintro _ _ ⟨c2, e2, rfl, rfl⟩
  refine gV_putF (pc := 49) (ty := .object "PagerHouse$Rows") C hI pw_fl_X2 tyX2 tyX2_ok nmX2 6 2 1 wf_X2_27 rfl rfl (by decide) rfl rfl (by decide +kernel) rfl rfl (Nat.le_of_ble_eq_true rfl) dX2_init_49 ?_
  refine gV_ws (ws' := [(q2, .inr (1, [.ref c2, .ref e2])), (c2, .inl (ct 2, ph_Sn s, .inr (.inr (.inr (.inr (fun _ => none)))))), (e2, .inl (ct 0, 16 * ph_Sn s, .inl (fun _ => 0))), (q1, .inr (1, [.ref c1, .ref e1])), (c1, .inl (ct 2, ph_F f, .inr (.inr (.inr (.inr (fun _ => none)))))), (e1, .inl (ct 0, 16 * ph_F f, .inl (fun _ => 0))), (h0, .inr (2, [.ref q1, .ref q2, .null, .int 0, .null, .null, .int 0, .int 0, .int 0, .int 0, .int 0]))]) rfl ?_
  refine gV_aload_n (pc := 52) (x := h0) C dX2_init_52 2 rfl rfl ?_
  refine gV_iload_n (pc := 53) C dX2_init_53 1 rfl rfl ?_
  refine gV_newa (pc := 54) C w_arrZ rfl 1 (a0 := (ph_F f, .inl (fun _ => 0))) rfl (fun _ => rfl) (nI_pos (by omega)) (nI_clamp (by omega)) (show ph_F f * 1 ≤ 536870912 by omega) (by decide) (show 0 + 2 + 1088 + 2 + 1088 + ph_F f ≤ 2600 by omega) dX2_init_54 (fun u1 => ?_)
  refine gV_putF (pc := 56) (ty := .array .boolean) C hI pw_fl_X2 tyX2 tyX2_ok nmX2 6 2 2 wf_X2_30 rfl rfl (by decide) rfl rfl (by decide +kernel) rfl rfl (Nat.le_of_ble_eq_true rfl) dX2_init_56 ?_
  refine gV_widen (n' := 2300) (Nat.le_refl _) (show 0 + 2 + 1088 + 2 + 1088 + ph_F f ≤ 2300 by omega) ?_
  refine gV_aload_n (pc := 59) (x := h0) C dX2_init_59 2 rfl rfl ?_
  refine gV_bipush (pc := 60) (v := 8) C dX2_init_60 (by decide) ?_
  refine gV_newa (pc := 62) C w_arrI rfl 0 (N := 8) (a0 := (8, .inl (fun _ => 0))) rfl (fun _ => rfl) (by decide) (by decide) (by decide) (by decide) (by decide) dX2_init_62 (fun p1 => ?_)
  refine gV_putF (pc := 64) (ty := .array .int) C hI pw_fl_X2 tyX2 tyX2_ok nmX2 6 2 4 wf_X2_34 rfl rfl (by decide) rfl rfl (by decide +kernel) rfl rfl (Nat.le_of_ble_eq_true rfl) dX2_init_64 ?_
  refine gV_aload_n (pc := 67) (x := h0) C dX2_init_67 2 rfl rfl ?_
  refine gV_sipush (pc := 68) (v := 256) C dX2_init_68 (by decide) ?_
  refine gV_newq (pc := 71) C cl_X2_38 w_over 2 (N := 256) rfl (by decide) (by decide) (by decide) (by decide) (by decide) dX2_init_71 (fun b1 => ?_)
  refine gV_putF (pc := 74) (ty := .array (.object "PagerHouse$Body")) C hI pw_fl_X2 tyX2 tyX2_ok nmX2 6 2 5 wf_X2_40 rfl rfl (by decide) rfl rfl (by decide +kernel) rfl rfl (Nat.le_of_ble_eq_true rfl) dX2_init_74 ?_
  refine gV_sub (ws' := cw (ad_of [h0, q1, q2, c1, e1, c2, e2, u1, p1, b1]) ct (ph_F f) (ph_Sn s) ph_0) [6, 3, 0, 4, 5, 1, 2, 7, 8, 9] rfl (by decide) rfl ?_
  refine gV_vret (pc := 77) C dX2_init_77 (by decide) (by decide) ?_
  exact ⟨_, rfl, rfl, rfl⟩
