/-- what a throw rests on beside the tables: two statics of Throwable, three texts -/
def gZ (A : Nat → Prop) (U : State) (H : Heap) : Prop := vx_Zq Bundle.tN "UNASSIGNED_STACK" Bundle.steD A U H ∧ vx_Zq Bundle.tN "SUPPRESSED_SENTINEL" Bundle.listD A U H ∧ (∃ a, vk_R RX2 161 "no such process or address" a U) ∧ (∃ a, vk_R RX2 165 "no room" a U) ∧ ∃ a, vk_R RX2 132 "no such sector or word" a U
theorem gZ.moved {A B : Nat → Prop} {u U : State} {H H1 : Heap} (hW : u.WarmedH U.vm) (h : gZ A u H) (hq : ∀ a : Nat, a < H.size → ¬ A a → H1[a]? = H[a]?) (hAB : ∀ q, B q → A q) : gZ B U H1 := by
  obtain ⟨h1, h2, ⟨a1, h3⟩, ⟨a2, h4⟩, ⟨a3, h5⟩⟩ := h
  exact ⟨((h1.kept hq).narrow hAB).moved hW.alike, ((h2.kept hq).narrow hAB).moved hW.alike, ⟨a1, vk_R.warm hW h3⟩, ⟨a2, vk_R.warm hW h4⟩, ⟨a3, vk_R.warm hW h5⟩⟩
def gXC (postX : String → va_W → Prop) (D : va_G) (A : Nat → Prop) : String → State → State → Prop := fun E st t => (∃ w, postX E w ∧ va_P D vwc w t.heap ∧ va_D A w) ∧ va_F A st t
def gPX (D : va_G) (tys : List (ClassId × FieldType)) (ws : va_W) (sz : Nat) (U : State) : Prop := gP D tys ws sz U ∧ gZ (va_A ws sz) U U.heap
/-- a contract of a method that returns or throws -/
def gMX (y : MethodName) (bytes : ByteArray) (maxL : Nat) (rt : Option FieldType) (rm : Room) (D : va_G) (tys : List (ClassId × FieldType)) (ws : va_W) (av : List Value) (post : Option Value → va_W → Prop) (postX : String → va_W → Prop) : Prop :=
  ∀ (l : Launch) (sz : Nat), l.stackTraces = false → vx_Met l y (Cond.code y bytes maxL rt :: pw_all) rm (va_Pc av (gPX D tys ws sz)) (gQ post D (va_A ws sz)) (gXC postX D (va_A ws sz)) rm.cells rm.slots (va_A ws sz)
def gCX (X : gx_T) (postX : String → va_W → Prop) (rm : Room) (post : Option Value → va_W → Prop) : Prop :=
  match X with
  | ((p, l, e, R, s, m, args, below, meth, c, Q), (nL', D', tys', A)) => gZ A s s.heap ∧ (∀ x ∈ c.exceptionTable.toList, False) ∧ Q = vx_MQ below (gQ post D' A) (gXC postX D' A) args s rm.cells rm.slots A
theorem gMX_in {y : MethodName} {bytes : ByteArray} {maxL : Nat} {rt : Option FieldType} {rm : Room} {D : va_G} {tys : List (ClassId × FieldType)} {ws : va_W} {av : List Value} {post : Option Value → va_W → Prop} {postX : String → va_W → Prop} (own : String) (ho : y.cls = own)
    (hy : plainName own = true) (hav : (lg_sl av).length ≤ maxL) (h : ∀ X : gx_T, gC X bytes maxL own rm rt D tys post → gCX X postX rm post → gV X 0 0 ws 0 (lv_args 0 av) []) : gMX y bytes maxL rt rm D tys ws av post postX := by
  subst ho
  intro l sz hl0
  refine vx_ofW (cc := bytes) (maxL := maxL) (ret := rt) hy rfl ?_
  intro p e s m args below meth c s₁ B hml htab hv
  obtain ⟨rfl, ⟨hsz, hP, hK, hN, hD0⟩, hZ⟩ := hv
  subst hsz
  have hts := atoms_spec (ws := Cond.code y bytes maxL rt :: pw_all) B.pre
  have hl := lv_entry av (n := maxL) hav
  rw [lg_entry_eq]
  exact h ((p, l, e, rm, s, m, av.toArray, below, meth, c, vx_MQ below (gQ post D (va_A ws s.heap.size)) (gXC postX D (va_A ws s.heap.size)) av.toArray s rm.cells rm.slots (va_A ws s.heap.size)), (maxL, D, tys, va_A ws s.heap.size))
    ⟨B.exec, B.bytes, hml, findClass_of_methodNamed B.named, fun w hw => hts w (List.mem_cons_of_mem _ hw), hN, hK, fun q hq => Or.inr hq, B.notSynchronized, rfl, rfl, rfl, rfl, hl0, B.returns, fun _ _ _ _ _ k => vx_ret k⟩
    ⟨hZ, htab, rfl⟩ s.heap [] _ hP (hD0.self (sz := s.heap.size)) va_S.rf hl
theorem gPX_blind {av : List Value} {D : va_G} {tys : List (ClassId × FieldType)} {ws : va_W} {sz : Nat} : FrameBlind (va_Pc av (gPX D tys ws sz)) := by
  intro a U g mk h
  obtain ⟨h0, h1, h2⟩ := h
  obtain ⟨h3, h4⟩ := gP_blind (av := av) a U g mk ⟨h0, h1⟩
  exact ⟨h3, h4, gZ.moved (u := U) (U := U.calling g mk a) (State.WarmedH.refl U) h2 (fun _ _ _ => rfl) (fun _ h => h)⟩
section GXR
variable {X : gx_T} {cc : ByteArray} {nL : Nat} {own : String} {rm : Room} {rt : Option FieldType} {D : va_G} {tys : List (ClassId × FieldType)} {post : Option Value → va_W → Prop} {postX : String → va_W → Prop} {k n : Nat} {ws : va_W} {pc : Nat} {lv : List (Nat × Value)} {st : List Value}
variable {y : MethodName} {bytes : ByteArray} {maxL : Nat} {ret : Option FieldType} {np : Nat} {rm' : Room} {As rest : List Value} {b idx : Nat} {post' : Option Value → va_W → Prop} {postX' : String → va_W → Prop}
/-- throw new cls(text) -/
theorem gV_throwS (C : gC X cc nL own rm rt D tys post) (CX : gCX X postX rm post) {cls text : String} {names : List String} {ik is ic : Nat} (hcls : Bundle.fit cls = true) (hnames : ∀ n ∈ names, Bundle.fit n = true) (hk : Cond.classLink own ik cls ∈ pw_all) (hini : Cond.initialized cls ∈ pw_all)
    (hstr : ∀ A U H, gZ A U H → ∃ a, vk_R own is text a U) (h1 : ∀ w ∈ (vx_atS own ic cls names).filter goodWord, w ∈ lw_tbl) (h2 : ∀ w ∈ (vx_atS own ic cls names).filter (fun w => !goodWord w), w ∈ pw_nst) (hgood : ∀ w ∈ Cond.classLink own ik cls :: Cond.initialized cls :: vx_atS own ic cls names, vx_ot w = true)
    (d0 : decode cc pc = .ok (.new ik, 3)) (d3 : decode cc (pc + 3) = .ok (.dup, 1)) (d4 : decode cc (pc + 4) = .ok (.ldc is, 2)) (d6 : decode cc (pc + 6) = .ok (.invokespecial ic, 3)) (d9 : decode cc (pc + 9) = .ok (.athrow, 1))
    (hRf : names.length + 3 < rm.frames) (hRl : (st.map fun v => v.category).sum + (13 * (names.length + 1) + 43) ≤ rm.locals) (hRc : k + 1 ≤ rm.cells) (hRs : n + 6 ≤ rm.slots) (hp : postX cls ws) : gV X k n ws pc lv st := by
  obtain ⟨⟨p, l, e, R, s, m, args, below, meth, c, Q⟩, nL', D', tys', A⟩ := X
  obtain ⟨hx, hb, hml, hown, hts, hN, hK, hA, hlks, rfl, rfl, rfl, rfl, hl0, hr, hret⟩ := C
  obtain ⟨hZ, htab, rfl⟩ := CX
  intro H locs ls hP hD hS hl
  obtain ⟨sa, hsa⟩ := hstr _ _ _ hZ
  have hat : ∀ w ∈ vx_atS own ic cls names, w.before args s = true := by
    intro w hw
    cases hg : goodWord w with
    | true => exact hts w (List.mem_filter.mpr ⟨h1 w (List.mem_filter.mpr ⟨hw, hg⟩), hg⟩)
    | false =>
      have h9 := h2 w (List.mem_filter.mpr ⟨hw, by rw [hg]; rfl⟩)
      exact pw_nst_use h9 (hN w h9)
  exact vx_throwS hx hb hl0 hown hcls hnames (hts _ hk) (hts _ hini) hsa hat hgood hZ.1 hZ.2.1 hS (hl.1.trans hml.symm) d0 d3 d4 d6 d9 (fun x hx => (htab x hx).elim) hRf hRl hRc hRs hlks
    (fun t _ hz hq => ⟨⟨ws, hp, hP.kept (fun j q hj => hq q.1 (hP j q hj).lt), hD⟩, Nat.le_trans hS.1 hz, fun q h1 h2 => by rw [hq q (Nat.lt_of_lt_of_le h1 hS.1)]; exact hS.2.1 q h1 h2⟩)
    hS.2.2 hRc hRs
/-- a call that may throw; what is thrown goes on to the caller -/
theorem gV_callVX (C : gC X cc nL own rm rt D tys post) (CX : gCX X postX rm post) (hlk : Cond.methodLink own idx y ∈ pw_all) (hY : gl_Y y bytes maxL ret np) (hV : gl_V y) (hM : gMX y bytes maxL ret rm' D tys ws (.ref b :: As) post' postX') (hb0 : ∃ (q0 ci : Nat) (q : vw_C) (fs : List Value), ws[q0]? = some (b, .inr (ci, fs)) ∧ vwc[ci]? = some q ∧ q.1 = y.cls) (hn : As.length = np) (hst : st = As.reverse ++ .ref b :: rest)
    (hR : rm'.frames + 1 ≤ rm.frames ∧ 8 + (maxL + 11) + rm'.locals ≤ rm.locals) (hcat : (rest.map fun v => v.category).sum ≤ 8) (h1 : k + rm'.cells ≤ rm.cells) (h2 : n + rm'.slots ≤ rm.slots) (hdg : decode cc pc = .ok (.invokevirtual idx, 3)) (hthrow : ∀ E w, postX' E w → postX E w)
    (kk : ∀ r w, post' r w → gV X (k + rm'.cells) (n + rm'.slots) w (pc + 3) lv (r.toList ++ rest)) : gV X k n ws pc lv st := by
  obtain ⟨⟨p, l, e, R, s, m, args, below, meth, c, Q⟩, nL', D', tys', A⟩ := X
  obtain ⟨hx, hb, hml, hown, hts, hN, hK, hA, hlks, rfl, rfl, rfl, rfl, hl0, hr, hret⟩ := C
  obtain ⟨hZ, htab, rfl⟩ := CX
  intro H locs ls hP hD hS hl
  have hwn : ws ++ [] = ws := List.append_nil ws
  have hP0 : va_P D' vwc (ws ++ []) H := by rw [hwn]; exact hP
  have hD0 : va_D A (ws ++ []) := by rw [hwn]; exact hD
  have hF := gj_free hD0 hS hA
  have hpre := gc_pre (av := .ref b :: As) hP0 hD0 hK hN
  obtain ⟨q0, ci, q, fs, g1, g2, g3⟩ := hb0
  have hrecv := va_recv hK hP (q0 := q0) (ci := ci) (q := q) (fs := fs) (a := b) g2 g1
  rw [g3] at hrecv
  have hsig : ∀ sig, parseMethodDescriptor y.desc = some sig → np = sig.parameters.length := fun sig h => by
    have h9 := hY.2.2.2.2
    rw [h] at h9
    exact (Option.some.inj h9).symm
  have base := gc_words hts hY.1
  have run := vx_runV (C := y.cls) (b := b) (As := As) (rest := rest) ⟨hx, hb, hml, hown, hts⟩ (hM l H.size hl0) ⟨⟨rfl, rfl, hR.1, hR.2, base, List.mem_cons_self, hts _ hY.1, hts _ hY.2.1, ⟨hY.2.2.1, hY.2.2.2.1⟩, hsig, hts _ hlk⟩, hts _ hV.1, hts _ hV.2⟩ ⟨gPX_blind, hrecv, fun U hU hW => ⟨(hpre.2 U hU hW).1, (hpre.2 U hU hW).2, by rw [hU]; exact gZ.moved hW hZ hS.2.1 hF⟩⟩ (locs := locs) (cells := k) (slots := n) (below := below) (meth := meth) (e := e) (g := F0 m pc ls st) rfl hn hl.1 hst (lv_room hcat) hdg ⟨h1, h2⟩
  intro T hT X
  rcases run T hT X with ⟨v, st₀, t, T', L, h0, X', hL, e1, e2, ⟨⟨r, w, hv, hp, hPw, hDw⟩, hz, hk⟩, go⟩ | ⟨q9, st₀, t, T', L, E, ce, h0, X', hL, e1, e2, ⟨⟨w, hp, hPw, hDw⟩, hz, hk⟩, hce, hcv, hcl, go⟩
  · cases hv
    rw [h0] at hz hk
    obtain ⟨hP2, hD2⟩ := gj_join (w1 := w) hP0 hD0 (H1 := T'.heap) (fun q h1 h2 => by rw [e1]; exact hk q h1 h2) hF (by rw [e1]; exact hPw) hDw
    rw [List.append_nil] at hP2 hD2
    have hS2 : va_S A s.heap T'.heap (locs ++ L) := ⟨Nat.le_trans hS.1 (by rw [e1]; exact hz), fun q h1 h2 => by rw [e1, hk q (Nat.lt_of_lt_of_le h1 hS.1) (fun z => h2 (hF q z))]; exact hS.2.1 q h1 h2, fun q hq => by
        rcases List.mem_append.mp hq with h | h
        · exact hS.2.2 q h
        · exact hF _ (hL q h)⟩
    obtain ⟨t2, a1, b1⟩ := kk v w hp T'.heap (locs ++ L) ls hP2 hD2 hS2 hl T' rfl X'
    exact ⟨t2, go t2 a1, b1⟩
  · rw [h0] at hz hk
    obtain ⟨hP2, hD2⟩ := gj_join (w1 := w) hP0 hD0 (H1 := T'.heap) (fun q h1 h2 => by rw [e1]; exact hk q h1 h2) hF (by rw [e1]; exact hPw) hDw
    rw [List.append_nil] at hP2 hD2
    have hS2 : va_S A s.heap T'.heap (locs ++ L) := ⟨Nat.le_trans hS.1 (by rw [e1]; exact hz), fun q h1 h2 => by rw [e1, hk q (Nat.lt_of_lt_of_le h1 hS.1) (fun z => h2 (hF q z))]; exact hS.2.1 q h1 h2, fun q hq => by
        rcases List.mem_append.mp hq with h | h
        · exact hS.2.2 q h
        · exact hF _ (hL q h)⟩
    obtain ⟨t2, a1, b1⟩ := vx_out (Qc := gQ post D' A) (XC := gXC postX D' A) (free := A) (pc := pc) (ls := ls) (rest := rest) (E := E) (ce := ce) (q := q9) (mc := R.cells) (ms := R.slots) (fun x hx => (htab x hx).elim) hlks (by rw [e1]; exact hce) hcv hcl
      (fun t2 ht2 _ => ⟨⟨w, hthrow E w hp, by rw [ht2]; exact hP2, hD2⟩, hS2.F ht2⟩) hS2.2.2 h1 h2 T' rfl X'
    exact ⟨t2, go.trans a1, b1⟩
end GXR
theorem w_iob_1 : ∀ w ∈ (vx_atS RX2 134 "java/lang/IndexOutOfBoundsException" ["java/lang/RuntimeException", "java/lang/Exception"]).filter goodWord, w ∈ lw_tbl := by decide +kernel
theorem w_iob_2 : ∀ w ∈ (vx_atS RX2 134 "java/lang/IndexOutOfBoundsException" ["java/lang/RuntimeException", "java/lang/Exception"]).filter (fun w => !goodWord w), w ∈ pw_nst := by
  have h : ∀ w ∈ (vx_atS RX2 134 "java/lang/IndexOutOfBoundsException" ["java/lang/RuntimeException", "java/lang/Exception"]).filter (fun w => !goodWord w), w ∈ tables_1 ∧ pw_isN w = true := by decide +kernel
  exact fun w hw => List.mem_filter.mpr (h w hw)
theorem w_ise_1 : ∀ w ∈ (vx_atS RX2 167 "java/lang/IllegalStateException" ["java/lang/RuntimeException", "java/lang/Exception"]).filter goodWord, w ∈ lw_tbl := by decide +kernel
theorem w_ise_2 : ∀ w ∈ (vx_atS RX2 167 "java/lang/IllegalStateException" ["java/lang/RuntimeException", "java/lang/Exception"]).filter (fun w => !goodWord w), w ∈ pw_nst := by
  have h : ∀ w ∈ (vx_atS RX2 167 "java/lang/IllegalStateException" ["java/lang/RuntimeException", "java/lang/Exception"]).filter (fun w => !goodWord w), w ∈ tables_1 ∧ pw_isN w = true := by decide +kernel
  exact fun w hw => List.mem_filter.mpr (h w hw)
theorem w_iob_3 : ∀ w ∈ Cond.classLink RX2 130 "java/lang/IndexOutOfBoundsException" :: Cond.initialized "java/lang/IndexOutOfBoundsException" :: vx_atS RX2 134 "java/lang/IndexOutOfBoundsException" ["java/lang/RuntimeException", "java/lang/Exception"], vx_ot w = true := by decide +kernel
theorem w_iob_k : Cond.classLink RX2 130 "java/lang/IndexOutOfBoundsException" ∈ pw_all := pw_t 205 (by decide +kernel) rfl
theorem w_iob_i : Cond.initialized "java/lang/IndexOutOfBoundsException" ∈ pw_all := pw_t 8 (by decide +kernel) rfl
theorem w_ise_3 : ∀ w ∈ Cond.classLink RX2 163 "java/lang/IllegalStateException" :: Cond.initialized "java/lang/IllegalStateException" :: vx_atS RX2 167 "java/lang/IllegalStateException" ["java/lang/RuntimeException", "java/lang/Exception"], vx_ot w = true := by decide +kernel
theorem w_ise_k : Cond.classLink RX2 163 "java/lang/IllegalStateException" ∈ pw_all := pw_t 280 (by decide +kernel) rfl
theorem w_ise_i : Cond.initialized "java/lang/IllegalStateException" ∈ pw_all := pw_t 9 (by decide +kernel) rfl
