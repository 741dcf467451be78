theorem cl_L_13 : Cond.classLink RL 13 "java/lang/IndexOutOfBoundsException" ∈ pw_all := pw_t 195 (by decide +kernel) rfl
theorem cl_L_15 : Cond.classLink RL 15 "java/lang/IllegalStateException" ∈ pw_all := pw_t 196 (by decide +kernel) rfl
theorem ca_iob : Cond.castable "java/lang/IndexOutOfBoundsException" "java/lang/IndexOutOfBoundsException" ∈ pw_nst := pw_n 207 (by decide +kernel) rfl
theorem ca_ise : Cond.castable "java/lang/IllegalStateException" "java/lang/IllegalStateException" ∈ pw_nst := pw_n 282 (by decide +kernel) rfl
/-- two worlds side by side, the other way round -/
theorem gj_swap {A : Nat → Prop} {D : va_G} {cl : List vw_C} {w1 w2 : va_W} {H : Heap} (hP : va_P D cl (w1 ++ w2) H) (hD : va_D A (w1 ++ w2)) : va_P D cl (w2 ++ w1) H ∧ va_D A (w2 ++ w1) := by
  have l1 : ∀ (k : Nat) (q : Nat × va_E), w1[k]? = some q → (w1 ++ w2)[k]? = some q := fun k q h => by
    rw [List.getElem?_append_left (List.getElem?_eq_some_iff.mp h).1]; exact h
  have l2 : ∀ (k : Nat) (q : Nat × va_E), w2[k]? = some q → (w1 ++ w2)[w1.length + k]? = some q := fun k q h => by
    rw [List.getElem?_append_right (Nat.le_add_right _ _), Nat.add_sub_cancel_left]; exact h
  refine ⟨va_P.app (fun k q h => hP _ q (l2 k q h)) (fun k q h => hP _ q (l1 k q h)), va_D.app ⟨fun i j x y hx hy e => ?_, fun k q h => hD.2 _ q (l2 k q h)⟩ ⟨fun i j x y hx hy e => hD.1 i j x y (l1 i x hx) (l1 j y hy) e, fun k q h => hD.2 _ q (l1 k q h)⟩ (fun i j x y hx hy e => ?_)⟩
  · have := hD.1 _ _ x y (l2 i x hx) (l2 j y hy) e
    omega
  · have h9 := hD.1 _ _ x y (l2 i x hx) (l1 j y hy) e
    have := (List.getElem?_eq_some_iff.mp hy).1
    omega
/-- the script, as the law's method finds it -/
def gS (X : gx_T) (b L : Nat) (xs : Nat → Int32) : Prop :=
  match X with
  | ((p, l, e, R, s, m, args, below, meth, c, Q), (nL, D, tys, A)) => va_X b L xs s s.heap ∧ b < s.heap.size ∧ ¬ A b
/-- what a call that may throw rests on, and the table of the handlers -/
def gCH (X : gx_T) : Prop :=
  match X with
  | ((p, l, e, R, s, m, args, below, meth, c, Q), (nL, D, tys, A)) => gZ A s s.heap ∧ va_Nc "java/lang/IllegalStateException" "java/lang/IndexOutOfBoundsException" s
def gTab (X : gx_T) (hh : List (Nat × Nat × Nat × Nat)) : Prop :=
  match X with
  | ((p, l, e, R, s, m, args, below, meth, c, Q), (nL, D, tys, A)) => c.exceptionTable.toList = tableOf hh
section LAWR
variable {X : gx_T} {cc : ByteArray} {nL : Nat} {own : String} {rm : Room} {rt : Option FieldType} {D : va_G} {tys : List (ClassId × FieldType)} {post : Option Value → va_W → Prop} {k n : Nat} {ws : va_W} {pc : Nat} {lv : List (Nat × Value)} {st : List Value}
theorem gV_lald (C : gC X cc nL own rm rt D tys post) (q0 t0 : Nat) {a : Nat} {cA : ClassId} {N : Nat} {f : Nat → Int64} (ha : ws[q0]? = some (a, .inl (cA, N, .inr (.inl f)))) (ht : tys[t0]? = some (cA, .long)) {i : Int32} (hin : vp_in i N) (hdg : decode cc pc = .ok (.laload, 1)) (kk : gV X k n ws (pc + 1) lv (.long (f i.toNatClampNeg) :: st)) : gV X k n ws pc lv (.int i :: .ref a :: st) := by
  obtain ⟨⟨p, l, e, R, s, m, args, below, meth, c, Q⟩, nL', D', tys', A⟩ := X
  obtain ⟨hx, hb, hml, hown, hts, hN, hK, hA, hlks, rfl, rfl, rfl, rfl, hl0, hr, hret⟩ := C
  intro H locs ls hP hD hS hl
  exact va_lald hx hb hK hP q0 t0 ha ht hin hdg (kk H locs ls hP hD hS hl)
theorem gV_last (C : gC X cc nL own rm rt D tys post) (q0 t0 : Nat) {a : Nat} {cA : ClassId} {N : Nat} {f : Nat → Int64} (ha : ws[q0]? = some (a, .inl (cA, N, .inr (.inl f)))) (ht : tys[t0]? = some (cA, .long)) {i : Int32} {x : Int64} (hin : vp_in i N) (hdg : decode cc pc = .ok (.lastore, 1)) (kk : gV X k n (ws.set q0 (a, .inl (cA, N, .inr (.inl (vp_updL f i.toNatClampNeg x))))) (pc + 1) lv st) : gV X k n ws pc lv (.long x :: .int i :: .ref a :: st) := by
  obtain ⟨⟨p, l, e, R, s, m, args, below, meth, c, Q⟩, nL', D', tys', A⟩ := X
  obtain ⟨hx, hb, hml, hown, hts, hN, hK, hA, hlks, rfl, rfl, rfl, rfl, hl0, hr, hret⟩ := C
  intro H locs ls hP hD hS hl
  exact va_last hx hb hK hP hD hS q0 t0 ha ht hin hdg (fun H1 locs1 hP1 hD1 hS1 => kk H1 locs1 ls hP1 hD1 hS1 hl)
theorem gV_lcmp (C : gC X cc nL own rm rt D tys post) {x y : Int64} (hdg : decode cc pc = .ok (.lcmp, 1)) (kk : gV X k n ws (pc + 1) lv (.int (lg_cmp x y) :: st)) : gV X k n ws pc lv (.long y :: .long x :: st) := by
  obtain ⟨⟨p, l, e, R, s, m, args, below, meth, c, Q⟩, nL', D', tys', A⟩ := X
  obtain ⟨hx, hb, hml, hown, hts, hN, hK, hA, hlks, rfl, rfl, rfl, rfl, hl0, hr, hret⟩ := C
  intro H locs ls hP hD hS hl
  exact W.lcmp hx hb hdg (kk H locs ls hP hD hS hl)
theorem gV_swap {w1 w2 : va_W} (kk : gV X k n (w2 ++ w1) pc lv st) : gV X k n (w1 ++ w2) pc lv st := by
  obtain ⟨⟨p, l, e, R, s, m, args, below, meth, c, Q⟩, nL', D', tys', A⟩ := X
  intro H locs ls hP hD hS hl
  obtain ⟨h1, h2⟩ := gj_swap hP hD
  exact kk H locs ls h1 h2 hS hl
theorem gV_sld (C : gC X cc nL own rm rt D tys post) {b L : Nat} {xs : Nat → Int32} (hX : gS X b L xs) {i : Int32} (hin : vp_in i L) (hdg : decode cc pc = .ok (.iaload, 1)) (kk : gV X k n ws (pc + 1) lv (.int (xs i.toNatClampNeg) :: st)) : gV X k n ws pc lv (.int i :: .ref b :: st) := by
  obtain ⟨⟨p, l, e, R, s, m, args, below, meth, c, Q⟩, nL', D', tys', A⟩ := X
  obtain ⟨hx, hb, hml, hown, hts, hN, hK, hA, hlks, rfl, rfl, rfl, rfl, hl0, hr, hret⟩ := C
  intro H locs ls hP hD hS hl
  exact va_sld hx hb hX.1 hX.2.1 hX.2.2 hS hin hdg (kk H locs ls hP hD hS hl)
theorem gV_slen (C : gC X cc nL own rm rt D tys post) {b L : Nat} {xs : Nat → Int32} (hX : gS X b L xs) (hdg : decode cc pc = .ok (.arraylength, 1)) (kk : gV X k n ws (pc + 1) lv (.int (nI L) :: st)) : gV X k n ws pc lv (.ref b :: st) := by
  obtain ⟨⟨p, l, e, R, s, m, args, below, meth, c, Q⟩, nL', D', tys', A⟩ := X
  obtain ⟨hx, hb, hml, hown, hts, hN, hK, hA, hlks, rfl, rfl, rfl, rfl, hl0, hr, hret⟩ := C
  intro H locs ls hP hD hS hl
  exact va_slen hx hb hX.1 hX.2.1 hX.2.2 hS hdg (kk H locs ls hP hD hS hl)
end LAWR
/-- a static method that reads the script -/
def gPS (D : va_G) (tys : List (ClassId × FieldType)) (b L : Nat) (xs : Nat → Int32) (sz : Nat) (U : State) : Prop := gP D tys [] sz U ∧ va_X b L xs U U.heap ∧ b < sz
def gMS (b L : Nat) (xs : Nat → Int32) (y : MethodName) (bytes : ByteArray) (maxL : Nat) (rt : Option FieldType) (rm : Room) (D : va_G) (tys : List (ClassId × FieldType)) (av : List Value) (post : Option Value → va_W → Prop) : Prop :=
  ∀ (l : Launch) (sz : Nat), l.stackTraces = false → Met l y (Cond.code y bytes maxL rt :: pw_all) rm (va_Pc av (gPS D tys b L xs sz)) (gQ post D (va_A [] sz)) rm.cells rm.slots (va_A [] sz)
theorem va_X_moved {b L : Nat} {xs : Nat → Int32} {u U : State} {H H1 : Heap} (hvm : u.vm.Alike U.vm) (h : va_X b L xs u H) (he : H1[b]? = H[b]?) : va_X b L xs U H1 := by
  obtain ⟨scr, h1, h2, h3⟩ := h
  exact ⟨scr, he.trans h1, State.isArrayOf_alike hvm h2, h3⟩
theorem gPS_blind {av : List Value} {D : va_G} {tys : List (ClassId × FieldType)} {b L : Nat} {xs : Nat → Int32} {sz : Nat} : FrameBlind (va_Pc av (gPS D tys b L xs sz)) := by
  intro a U g mk h
  obtain ⟨h0, h1, h2, h3⟩ := h
  obtain ⟨h4, h5⟩ := gP_blind (av := av) a U g mk ⟨h0, h1⟩
  exact ⟨h4, h5, va_X_moved (u := U) (U := U.calling g mk a) (Vm.Alike.refl U.vm) h2 rfl, h3⟩
theorem gMS_in {b L : Nat} {xs : Nat → Int32} {y : MethodName} {bytes : ByteArray} {maxL : Nat} {rt : Option FieldType} {rm : Room} {D : va_G} {tys : List (ClassId × FieldType)} {av : List Value} {post : Option Value → va_W → Prop} (own : String) (ho : y.cls = own)
    (hy : plainName own = true) (hav : (lg_sl av).length ≤ maxL) (h : ∀ X : gx_T, gC X bytes maxL own rm rt D tys post → gS X b L xs → gV X 0 0 [] 0 (lv_args 0 av) []) : gMS b L xs y bytes maxL rt rm D tys av post := by
  subst ho
  intro l sz hl0
  refine Met.ofW (cc := bytes) (maxL := maxL) (ret := rt) hy rfl ?_
  intro p e s m args below meth c s₁ B hml hv
  obtain ⟨rfl, ⟨hsz, hP, hK, hN, hD0⟩, hX, hbl⟩ := hv
  subst hsz
  have hts := atoms_spec (ws := Cond.code y bytes maxL rt :: pw_all) B.pre
  have hl := lv_entry av (n := maxL) hav
  rw [lg_entry_eq]
  exact h ((p, l, e, rm, s, m, av.toArray, below, meth, c, MQ below (gQ post D (va_A [] s.heap.size)) av.toArray s rm.cells rm.slots (va_A [] s.heap.size)), (maxL, D, tys, va_A [] s.heap.size))
    ⟨B.exec, B.bytes, hml, findClass_of_methodNamed B.named, fun w hw => hts w (List.mem_cons_of_mem _ hw), hN, hK, fun q hq => Or.inr hq, B.notSynchronized, rfl, rfl, rfl, rfl, hl0, B.returns, fun _ _ _ _ _ k => k⟩
    ⟨hX, hbl, fun z => by rcases z with ⟨k2, e2, h2⟩ | h2; exact absurd h2 (by simp); omega⟩
    s.heap [] _ hP (hD0.self (sz := s.heap.size)) va_S.rf hl
/-- a method with handlers that lets nothing out -/
def gPL (D : va_G) (tys : List (ClassId × FieldType)) (ws : va_W) (sz : Nat) (U : State) : Prop := gP D tys ws sz U ∧ gZ (va_A ws sz) U U.heap ∧ va_Nc "java/lang/IllegalStateException" "java/lang/IndexOutOfBoundsException" U
def gMH (y : MethodName) (bytes : ByteArray) (maxL : Nat) (rt : Option FieldType) (hh : List (Nat × Nat × Nat × Nat)) (rm : Room) (D : va_G) (tys : List (ClassId × FieldType)) (ws : va_W) (av : List Value) (post : Option Value → va_W → Prop) : Prop :=
  ∀ (l : Launch) (sz : Nat), l.stackTraces = false → Met l y (Cond.codeWith y bytes maxL rt hh :: pw_all) rm (va_Pc av (gPL D tys ws sz)) (gQ post D (va_A ws sz)) rm.cells rm.slots (va_A ws sz)
theorem gPL_blind {av : List Value} {D : va_G} {tys : List (ClassId × FieldType)} {ws : va_W} {sz : Nat} : FrameBlind (va_Pc av (gPL D tys ws sz)) := by
  intro a U g mk h
  obtain ⟨h0, h1, h2, h3⟩ := h
  obtain ⟨h4, h5, h6⟩ := gPX_blind (av := av) a U g mk ⟨h0, h1, h2⟩
  exact ⟨h4, h5, h6, va_Nc.moved (u := U) (U := U.calling g mk a) (Vm.Alike.refl U.vm) h3⟩
theorem met_ofWH {l : Launch} {y : MethodName} {ws ws' : List Cond} {rm : Room} {Pc : Array Value → State → Prop} {Qc : Array Value → State → Outcome → State → Prop} {mc ms : Nat} {free : Addr → Prop} {cc : ByteArray} {maxL : Nat} {ret : Option FieldType} {hh : List (Nat × Nat × Nat × Nat)}
    (hy : plainName y.cls = true) (hw : ws = Cond.codeWith y cc maxL ret hh :: ws')
    (body : ∀ p e s m args below meth c s₁, BodyLoose p l y (headSpec ws rm) cc maxL ret e s m args below meth c s₁ → c.maxLocals = maxL → Pc args s →
      W p l e (headSpec ws rm).room s m args below meth c s.heap [] 0 0 (MQ below Qc args s mc ms free) (entryFrame m args maxL)) : Met l y ws rm Pc Qc mc ms free := by
  refine MetFree.of_bodyS (code := cc) (maxLocals := maxL) (ret := ret) hy ?_ ?_
  · intro args s m h hn
    obtain ⟨m9, meth, c, hn9, h1, h2, h3, h4, -, h5, h6, -⟩ := Cond.codeWith_spec (atoms_spec (ws := ws) h _ (by rw [hw]; exact List.mem_cons_self))
    cases hn.symm.trans hn9
    exact ⟨meth, c, h1, h2, h3, h4, h5, h6⟩
  · intro p e s m args below meth c s₁ B hml hP _
    have hh0 : s₁.heap = s.heap := by rw [B.state]; rfl
    obtain ⟨t, a1, o, b1, b2, b3⟩ := body p e s m args below meth c s₁ B hml hP s₁ hh0 (Stand.of_body B)
    exact ⟨t, o, a1, b1, b2, b3⟩
theorem gMH_in {y : MethodName} {bytes : ByteArray} {maxL : Nat} {rt : Option FieldType} {hh : List (Nat × Nat × Nat × Nat)} {rm : Room} {D : va_G} {tys : List (ClassId × FieldType)} {ws : va_W} {av : List Value} {post : Option Value → va_W → Prop} (own : String) (ho : y.cls = own)
    (hy : plainName own = true) (hav : (lg_sl av).length ≤ maxL) (h : ∀ X : gx_T, gC X bytes maxL own rm rt D tys post → gCH X → gTab X hh → gV X 0 0 ws 0 (lv_args 0 av) []) : gMH y bytes maxL rt hh rm D tys ws av post := by
  subst ho
  intro l sz hl0
  refine met_ofWH (cc := bytes) (maxL := maxL) (ret := rt) (hh := hh) hy rfl ?_
  intro p e s m args below meth c s₁ B hml hv
  obtain ⟨rfl, ⟨hsz, hP, hK, hN, hD0⟩, hZ, hNc⟩ := hv
  subst hsz
  have hts := atoms_spec (ws := Cond.codeWith y bytes maxL rt hh :: pw_all) B.pre
  have hl := lv_entry av (n := maxL) hav
  rw [lg_entry_eq]
  exact h ((p, l, e, rm, s, m, av.toArray, below, meth, c, MQ below (gQ post D (va_A ws s.heap.size)) av.toArray s rm.cells rm.slots (va_A ws s.heap.size)), (maxL, D, tys, va_A ws s.heap.size))
    ⟨B.exec, B.bytes, hml, findClass_of_methodNamed B.named, fun w hw => hts w (List.mem_cons_of_mem _ hw), hN, hK, fun q hq => Or.inr hq, B.notSynchronized, rfl, rfl, rfl, rfl, hl0, B.returns, fun _ _ _ _ _ k => k⟩
    ⟨hZ, hNc⟩ (vx_table (x := y) B (hts _ List.mem_cons_self)) s.heap [] _ hP (hD0.self (sz := s.heap.size)) va_S.rf hl
section LAWC
variable {X : gx_T} {cc : ByteArray} {nL : Nat} {own : String} {rm : Room} {rt : Option FieldType} {D : va_G} {tys : List (ClassId × FieldType)} {post : Option Value → va_W → Prop} {k n : Nat} {ws : va_W} {pc : Nat} {lv : List (Nat × Value)} {st : List Value}
variable {y : MethodName} {bytes : ByteArray} {maxL : Nat} {ret : Option FieldType} {np : Nat} {rm' : Room} {wc wr : va_W} {As rest : List Value} {b idx : Nat} {post' : Option Value → va_W → Prop} {postX' : String → va_W → Prop} {hh : List (Nat × Nat × Nat × Nat)}
/-- where a throw is caught -/
def gCatch (own : String) (hh : List (Nat × Nat × Nat × Nat)) (pc : Nat) (E : String) (hpc : Nat) : Prop :=
  ∃ (pre : List ExceptionTableEntry) (x : ExceptionTableEntry) (suf : List ExceptionTableEntry) (name : String), tableOf hh = pre ++ x :: suf ∧
    (∀ z ∈ pre, z.catchType ≠ 0 ∧ Cond.classLink own z.catchType "java/lang/IndexOutOfBoundsException" ∈ pw_all ∧ E = "java/lang/IllegalStateException") ∧
    covers x pc = true ∧ x.catchType ≠ 0 ∧ Cond.classLink own x.catchType name ∈ pw_all ∧ Cond.castable E name ∈ pw_nst ∧ x.handlerPc = hpc
/-- a call that may throw, in a method that catches it -/
theorem gV_callVC (C : gC X cc nL own rm rt D tys post) (CH : gCH X) (CT : gTab X hh) (hlk : Cond.methodLink own idx y ∈ pw_all) (hY : gl_Y y bytes maxL ret np) (hV : gl_V y) (hM : gMX y bytes maxL ret rm' D tys wc (.ref b :: As) post' postX') (hb0 : ∃ (q0 ci : Nat) (q : vw_C) (fs : List Value), ws[q0]? = some (b, .inr (ci, fs)) ∧ vwc[ci]? = some q ∧ q.1 = y.cls) (hn : As.length = np) (hst : st = As.reverse ++ .ref b :: rest) (hw : ws = wc ++ wr)
    (hR : rm'.frames + 1 ≤ rm.frames ∧ 8 + (maxL + 11) + rm'.locals ≤ rm.locals) (hcat : (rest.map fun v => v.category).sum ≤ 8) (h1 : k + rm'.cells ≤ rm.cells) (h2 : n + rm'.slots ≤ rm.slots) (hdg : decode cc pc = .ok (.invokevirtual idx, 3))
    (kx : ∀ E w, postX' E w → ∃ hpc, gCatch own hh pc E hpc ∧ ∀ q : Nat, gV X (k + rm'.cells) (n + rm'.slots) (w ++ wr) hpc lv [.ref q])
    (kk : ∀ r w, post' r w → gV X (k + rm'.cells) (n + rm'.slots) (w ++ wr) (pc + 3) lv (r.toList ++ rest)) : gV X k n ws pc lv st := by
  subst hw
  obtain ⟨⟨p, l, e, R, s, m, args, below, meth, c, Q⟩, nL', D', tys', A⟩ := X
  obtain ⟨hx, hb, hml, hown, hts, hN, hK, hA, hlks, rfl, rfl, rfl, rfl, hl0, hr, hret⟩ := C
  obtain ⟨hZ, hNc⟩ := CH
  have htab : c.exceptionTable.toList = tableOf hh := CT
  intro H locs ls hP hD hS hl
  have hF := gj_free hD hS hA
  have hpre := gc_pre (av := .ref b :: As) hP hD hK hN
  obtain ⟨q0, ci, q, fs, g1, g2, g3⟩ := hb0
  have hrecv := va_recv hK hP (q0 := q0) (ci := ci) (q := q) (fs := fs) (a := b) g2 g1
  rw [g3] at hrecv
  have hsig : ∀ sig, parseMethodDescriptor y.desc = some sig → np = sig.parameters.length := fun sig h => by
    have h9 := hY.2.2.2.2
    rw [h] at h9
    exact (Option.some.inj h9).symm
  have base := gc_words hts hY.1
  have run := vx_runV (C := y.cls) (b := b) (As := As) (rest := rest) ⟨hx, hb, hml, hown, hts⟩ (hM l H.size hl0) ⟨⟨rfl, rfl, hR.1, hR.2, base, List.mem_cons_self, hts _ hY.1, hts _ hY.2.1, ⟨hY.2.2.1, hY.2.2.2.1⟩, hsig, hts _ hlk⟩, hts _ hV.1, hts _ hV.2⟩ ⟨gPX_blind, hrecv, fun U hU hW => ⟨(hpre.2 U hU hW).1, (hpre.2 U hU hW).2, by rw [hU]; exact gZ.moved hW hZ hS.2.1 hF⟩⟩ (locs := locs) (cells := k) (slots := n) (below := below) (meth := meth) (e := e) (g := F0 m pc ls st) rfl hn hl.1 hst (lv_room hcat) hdg ⟨h1, h2⟩
  intro T hT X
  rcases run T hT X with ⟨v, st₀, t, T', L, h0, X', hL, e1, e2, ⟨⟨r, w, hv, hp, hPw, hDw⟩, hz, hk⟩, go⟩ | ⟨q9, st₀, t, T', L, E, ce, h0, X', hL, e1, e2, ⟨⟨w, hp, hPw, hDw⟩, hz, hk⟩, hce, hcv, hcl, go⟩
  · cases hv
    rw [h0] at hz hk
    obtain ⟨hP2, hD2⟩ := gj_join (w1 := w) hP hD (H1 := T'.heap) (fun q h1 h2 => by rw [e1]; exact hk q h1 h2) hF (by rw [e1]; exact hPw) hDw
    have hS2 : va_S A s.heap T'.heap (locs ++ L) := ⟨Nat.le_trans hS.1 (by rw [e1]; exact hz), fun q h1 h2 => by rw [e1, hk q (Nat.lt_of_lt_of_le h1 hS.1) (fun z => h2 (hF q z))]; exact hS.2.1 q h1 h2, fun q hq => by
        rcases List.mem_append.mp hq with h | h
        · exact hS.2.2 q h
        · exact hF _ (hL q h)⟩
    obtain ⟨t2, a1, b1⟩ := kk v w hp T'.heap (locs ++ L) ls hP2 hD2 hS2 hl T' rfl X'
    exact ⟨t2, go t2 a1, b1⟩
  · rw [h0] at hz hk
    obtain ⟨hP2, hD2⟩ := gj_join (w1 := w) hP hD (H1 := T'.heap) (fun q h1 h2 => by rw [e1]; exact hk q h1 h2) hF (by rw [e1]; exact hPw) hDw
    have hS2 : va_S A s.heap T'.heap (locs ++ L) := ⟨Nat.le_trans hS.1 (by rw [e1]; exact hz), fun q h1 h2 => by rw [e1, hk q (Nat.lt_of_lt_of_le h1 hS.1) (fun z => h2 (hF q z))]; exact hS.2.1 q h1 h2, fun q hq => by
        rcases List.mem_append.mp hq with h | h
        · exact hS.2.2 q h
        · exact hF _ (hL q h)⟩
    obtain ⟨hpc, ⟨pre, x, suf, name, i1, i2, i3, i4, i5, i6, i7⟩, go2⟩ := kx E w hp
    obtain ⟨t2, a1, b1⟩ := vx_catch (own := own) (name := name) (E := E) (ce := ce) (q := q9) (pc := pc) (ls := ls) (rest := rest) hown pre x suf (by rw [htab]; exact i1)
      (fun z hz9 => Or.inr ⟨(i2 z hz9).1, _, hts _ (i2 z hz9).2.1, by rw [(i2 z hz9).2.2]; exact hNc⟩) i3 i4 (hts _ i5) (pw_nst_use i6 (hN _ i6)) (by rw [e1]; exact hce) hcv hcl
      (by rw [i7]; exact go2 q9 T'.heap (locs ++ L) ls hP2 hD2 hS2 hl) T' rfl X'
    exact ⟨t2, go.trans a1, b1⟩
/-- a static method with handlers, called -/
theorem gV_callSH (C : gC X cc nL own rm rt D tys post) (CH : gCH X) (hlk : Cond.methodLink own idx y ∈ pw_all) (hcode : Cond.codeWith y bytes maxL ret hh ∈ pw_all) (hini : Cond.initialized y.cls ∈ pw_all) (hd : y.cls ≠ "java/lang/invoke/MethodHandle" ∧ y.cls ≠ "java/lang/invoke/VarHandle" ∧ (parseMethodDescriptor y.desc).map (fun d => d.parameters.length) = some np) (hV : gl_S y) (hM : gMH y bytes maxL ret hh rm' D tys wc As post') (hn : As.length = np) (hst : st = As.reverse ++ rest) (hw : ws = wc ++ wr)
    (hR : rm'.frames + 1 ≤ rm.frames ∧ 8 + (maxL + 11) + rm'.locals ≤ rm.locals) (hcat : (rest.map fun v => v.category).sum ≤ 8) (h1 : k + rm'.cells ≤ rm.cells) (h2 : n + rm'.slots ≤ rm.slots) (hdg : decode cc pc = .ok (.invokestatic idx, 3))
    (kk : ∀ r w, post' r w → gV X (k + rm'.cells) (n + rm'.slots) (w ++ wr) (pc + 3) lv (r.toList ++ rest)) : gV X k n ws pc lv st := by
  subst hw
  obtain ⟨⟨p, l, e, R, s, m, args, below, meth, c, Q⟩, nL', D', tys', A⟩ := X
  obtain ⟨hx, hb, hml, hown, hts, hN, hK, hA, hlks, rfl, rfl, rfl, rfl, hl0, hr, hret⟩ := C
  obtain ⟨hZ, hNc⟩ := CH
  intro H locs ls hP hD hS hl
  have hF := gj_free hD hS hA
  have hpre := gc_pre (av := As) hP hD hK hN
  have hsig : ∀ sig, parseMethodDescriptor y.desc = some sig → np = sig.parameters.length := fun sig h => by
    have h9 := hd.2.2
    rw [h] at h9
    exact (Option.some.inj h9).symm
  have base := gc_words hts hcode
  exact gc_back (vx_runSW (As := As) (rest := rest) ⟨hx, hb, hml, hown, hts⟩ (hM l H.size hl0) ⟨⟨rfl, rfl, hR.1, hR.2, base, List.mem_cons_self⟩, hts _ hcode, hts _ hini, ⟨hd.1, hd.2.1⟩, hsig, hts _ hlk, hts _ hV⟩ ⟨gPL_blind, fun U hU hW => ⟨(hpre.2 U hU hW).1, (hpre.2 U hU hW).2, by rw [hU]; exact gZ.moved hW hZ hS.2.1 hF, va_Nc.moved hW.alike hNc⟩⟩ rfl hn hl.1 hst (lv_room hcat) hdg ⟨h1, h2⟩) hP hD hS hA hl kk
/-- a static method that reads the script, called -/
theorem gV_callSS {b0 L : Nat} {xs : Nat → Int32} (C : gC X cc nL own rm rt D tys post) (CS : gS X b0 L xs) (hlk : gl_L own idx y) (hlk1 : Cond.methodLink own idx y ∈ pw_all) (hY : gl_Y y bytes maxL ret np) (hV : gl_S y) (hM : gMS b0 L xs y bytes maxL ret rm' D tys As post') (hn : As.length = np) (hst : st = As.reverse ++ rest)
    (hR : rm'.frames + 1 ≤ rm.frames ∧ 8 + (maxL + 11) + rm'.locals ≤ rm.locals) (hcat : (rest.map fun v => v.category).sum ≤ 8) (h1 : k + rm'.cells ≤ rm.cells) (h2 : n + rm'.slots ≤ rm.slots) (hdg : decode cc pc = .ok (.invokestatic idx, 3))
    (kk : ∀ r w, post' r w → gV X (k + rm'.cells) (n + rm'.slots) (w ++ ws) (pc + 3) lv (r.toList ++ rest)) : gV X k n ws pc lv st := by
  obtain ⟨⟨p, l, e, R, s, m, args, below, meth, c, Q⟩, nL', D', tys', A⟩ := X
  obtain ⟨hx, hb, hml, hown, hts, hN, hK, hA, hlks, rfl, rfl, rfl, rfl, hl0, hr, hret⟩ := C
  obtain ⟨hX1, hX2, hX3⟩ := CS
  intro H locs ls hP hD hS hl
  have hP0 : va_P D' vwc ([] ++ ws) H := hP
  have hD0 : va_D A ([] ++ ws) := hD
  have hpre := gc_pre (av := As) hP0 hD0 hK hN
  have hsig : ∀ sig, parseMethodDescriptor y.desc = some sig → np = sig.parameters.length := fun sig h => by
    have h9 := hY.2.2.2.2
    rw [h] at h9
    exact (Option.some.inj h9).symm
  have base := gc_words hts hY.1
  exact gc_back (va_runS (As := As) (rest := rest) ⟨hx, hb, hml, hown, hts⟩ (hM l H.size hl0) ⟨⟨rfl, rfl, hR.1, hR.2, base, List.mem_cons_self, hts _ hY.1, hts _ hY.2.1, ⟨hY.2.2.1, hY.2.2.2.1⟩, hsig, hts _ hlk1⟩, hts _ hV⟩ ⟨gPS_blind, fun U hU hW => ⟨(hpre.2 U hU hW).1, (hpre.2 U hU hW).2, by rw [hU]; exact va_X_moved hW.alike hX1 (hS.2.1 b0 hX2 hX3), by have := hS.1; omega⟩⟩ rfl hn hl.1 hst (lv_room hcat) hdg ⟨h1, h2⟩) hP0 hD0 hS hA hl kk
end LAWC
