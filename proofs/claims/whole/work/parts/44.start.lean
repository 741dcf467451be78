theorem arr_of {s : State} {args : Array Value} {ty : FieldType} (hno : ∀ C, ty ≠ .object C) (h : (Cond.arrayClass ty).before args s = true) : ∃ cA, ArrOfT s cA ty ∧ va_RA s cA ty := by
  obtain ⟨cA, kA, comp, h1, h2, h3⟩ := Cond.arrayClass_spec h
  refine ⟨cA, fun n z => ⟨fun k h => (by cases h), kA, h2, comp, h3⟩, ?_⟩
  cases ty with
  | object C => exact absurd rfl (hno C)
  | _ => exact h1
theorem arr_ofO {s : State} {args : Array Value} {C : String} (h : (Cond.arrayOver (.object C)).before args s = true) : ∃ cA, ArrOfT s cA (.object C) ∧ va_RA s cA (.object C) := by
  obtain ⟨comp, cA, kA, h1, h2, h3, h4, h5⟩ := Cond.arrayOver_spec h
  exact ⟨cA, fun n z => ⟨fun k h => (by cases h), kA, h3, comp, h4⟩, kA, comp, h3, h4, h1, h5⟩
theorem txt_of {s : State} {args : Array Value} {own tx : String} {k : Nat} (h1 : (Cond.stringRef own k tx).before args s = true) (h2 : (Cond.exactly (.string own k) "java/lang/String").before args s = true) : ∃ a, vk_R own k tx a s := by
  obtain ⟨a, c, cA, kA, q1, -⟩ := Cond.exactly_spec (args := args) (first := s) (o := none) (s := s) (idx := []) (t := .string own k) (cls := "java/lang/String") h2
  exact ⟨a, vk_R.of h1 q1⟩
set_option maxHeartbeats 4000000 in
set_option maxRecDepth 100000 in
theorem whole_start {p : Program} {e : Env} {s : State} {m : MethodId} {below : List Frame} {meth : Method} {c : Code} (l : Launch) (hl0 : l.stackTraces = false) {b L : Nat} {xs : Nat → Int32} (hL : L ≤ 2050) (C0 : lw_At p s m meth c b L xs) : W p l e room_1 s m #[Value.ref b] below meth c s.heap [] 0 0 (lw_Z below #[Value.ref b] s) (entryFrame m ([Value.ref b] : List Value).toArray 7) := by
  obtain ⟨hx, hb, hr, hml, hown, hts, hX, hbl, hlocks, hgv⟩ := id C0
  have hpw : ∀ w ∈ pw_all, w.before #[Value.ref b] s = true := fun w hw => hts w (List.mem_filter.mp hw).1
  have htb : ∀ w ∈ tables_1, w.before #[Value.ref b] s = true := fun w hw => hts w (List.mem_append_right _ hw)
  have hnst : ∀ w ∈ pw_nst, va_Nw w s := by
    intro w hw
    have h1 := htb w (List.mem_filter.mp hw).1
    rcases pw_nst_cases hw with h2 | ⟨C, rfl⟩
    · exact va_Nw.of h2 h1
    · exact va_AO.of (C := C) h1
  obtain ⟨c0, i0, k0⟩ := u_known (C := RX0) (T := TX0) (N := 5) (n := 5) hpw pw_fl_X0 (hpw _ in_X0)
  obtain ⟨c1, i1, k1⟩ := u_known (C := RX1) (T := TX1) (N := 2) (n := 2) hpw pw_fl_X1 (hpw _ in_X1)
  obtain ⟨c2, i2, k2⟩ := u_known (C := RX2) (T := TX2) (N := 11) (n := 11) hpw pw_fl_X2 (hpw _ in_X2)
  obtain ⟨c3, i3, k3⟩ := u_known (C := RX3) (T := TX3) (N := 18) (n := 18) hpw pw_fl_X3 (hpw _ in_X3)
  obtain ⟨a0, r0, s0⟩ := arr_of (ty := .int) (fun _ => by simp) (hpw _ w_arrI)
  obtain ⟨a1, r1, s1⟩ := arr_of (ty := .boolean) (fun _ => by simp) (hpw _ w_arrZ)
  obtain ⟨a2, r2, s2⟩ := arr_ofO (C := RX0) (args := #[Value.ref b]) (pw_nst_use w_over (hnst _ w_over))
  obtain ⟨a3, r3, s3⟩ := arr_of (ty := .long) (fun _ => by simp) (hpw _ w_arrJ)
  obtain ⟨D, ct, hK⟩ : ∃ (D : va_G) (ct : Nat → ClassId), va_K D vwc (gt ct) s := by
    refine ⟨(fun k => if k = 0 then c0 else if k = 1 then c1 else if k = 2 then c2 else c3, fun k => if k = 0 then i0 else if k = 1 then i1 else if k = 2 then i2 else i3), fun k => if k = 0 then a0 else if k = 1 then a1 else if k = 2 then a2 else a3, ?_⟩
    constructor
    · intro k q hq
      match k, hq with
      | 0, hq => cases hq; exact k0
      | 1, hq => cases hq; exact k1
      | 2, hq => cases hq; exact k2
      | 3, hq => cases hq; exact k3
      | k + 4, hq => simp [vwc] at hq
    · intro k q hq
      match k, hq with
      | 0, hq => cases hq; exact ⟨r0, s0⟩
      | 1, hq => cases hq; exact ⟨r1, s1⟩
      | 2, hq => cases hq; exact ⟨r2, s2⟩
      | 3, hq => cases hq; exact ⟨r3, s3⟩
      | k + 4, hq => simp [gt] at hq
  have hg := flat_of_before _ hgv
  have hZ : gZ (fun q : Nat => s.heap.size ≤ q) s s.heap := by
    refine ⟨vx_Zqof (htb _ (List.mem_of_getElem? (i := 232) (by decide +kernel))) (htb _ (List.mem_of_getElem? (i := 5) (by decide +kernel))) (hg (Cond.isRef (.static "java/lang/Throwable" "UNASSIGNED_STACK" "[Ljava/lang/StackTraceElement;")) (by decide +kernel)) (fun a h1 h2 => absurd h1 (Nat.not_lt.mpr h2)), vx_Zqof (htb _ (List.mem_of_getElem? (i := 234) (by decide +kernel))) (htb _ (List.mem_of_getElem? (i := 5) (by decide +kernel))) (hg (Cond.isRef (.static "java/lang/Throwable" "SUPPRESSED_SENTINEL" "Ljava/util/List;")) (by decide +kernel)) (fun a h1 h2 => absurd h1 (Nat.not_lt.mpr h2)), ?_, ?_, ?_⟩
    · exact txt_of (htb _ (List.mem_of_getElem? (i := 246) (by decide +kernel))) (hg (Cond.exactly (.string "PagerHouse" 161) "java/lang/String") (by decide +kernel))
    · exact txt_of (htb _ (List.mem_of_getElem? (i := 289) (by decide +kernel))) (hg (Cond.exactly (.string "PagerHouse" 165) "java/lang/String") (by decide +kernel))
    · exact txt_of (htb _ (List.mem_of_getElem? (i := 632) (by decide +kernel))) (hg (Cond.exactly (.string "PagerHouse" 132) "java/lang/String") (by decide +kernel))
  have hNc : va_Nc "java/lang/IllegalStateException" "java/lang/IndexOutOfBoundsException" s := va_Nc.of (hg (Cond.not (.castable "java/lang/IllegalStateException" "java/lang/IndexOutOfBoundsException")) (by decide +kernel))
  have hl := lv_entry ([.ref b]) (n := 7) (Nat.le_of_ble_eq_true rfl)
  rw [lg_entry_eq]
  exact law_start (X := ((p, l, e, room_1, s, m, #[Value.ref b], below, meth, c, lw_Z below #[Value.ref b] s), (7, D, gt ct, fun q => s.heap.size ≤ q)))
    ⟨hx, hb, hml, hown, hpw, hnst, hK, fun _ h => h, hlocks, rfl, rfl, rfl, rfl, hl0, hr, fun H locs k n g hw T hT X9 => by
      obtain ⟨t, -, o, -, -, ⟨⟨r, w, -, hf, -⟩, -⟩, -⟩ := hw T hT X9
      exact hf.elim⟩
    ⟨hX, hbl, Nat.not_le.mpr hbl⟩ ⟨hZ, hNc⟩ ⟨fun _ h => h, fun H ls => lw_ret hx hb hr hlocks dL_law_575⟩ hL
    s.heap [] _ (fun k q h => by simp at h) ⟨fun i j p q h => by simp at h, fun k q h => by simp at h⟩ va_S.rf hl
