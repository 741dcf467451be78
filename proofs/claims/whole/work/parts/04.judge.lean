/-- what a method's walk is held against: the machine's own things, then the number of locals, the classes' numbers, the array classes, what may be written -/
abbrev gx_T : Type := (Program × Launch × Env × Room × State × MethodId × Array Value × List Frame × Method × Code × (State → Prop)) × (Nat × va_G × List (ClassId × FieldType) × (Nat → Prop))
/-- the machine goes on from pc with the locals lv and the stack st, over the world ws, k cells of n slots having been made -/
def gV (X : gx_T) (k n : Nat) (ws : va_W) (pc : Nat) (lv : List (Nat × Value)) (st : List Value) : Prop :=
  match X with
  | ((p, l, e, R, s, m, args, below, meth, c, Q), (nL, D, tys, A)) => ∀ (H : Heap) (locs : List Loc) (ls : Array Slot), va_P D vwc ws H → va_D A ws → va_S A s.heap H locs → lv_has ls nL lv → W p l e R s m args below meth c H locs k n Q (F0 m pc ls st)
def gQ (post : Option Value → va_W → Prop) (D : va_G) (A : Nat → Prop) : Array Value → State → Outcome → State → Prop := fun _ st oc t =>
  (∃ (r : Option Value) (w : va_W), oc = .returned r ∧ post r w ∧ va_P D vwc w t.heap ∧ va_D A w) ∧ va_F A st t
/-- what is the same all through a method -/
def gC (X : gx_T) (cc : ByteArray) (nL : Nat) (own : String) (rm : Room) (rt : Option FieldType) (D : va_G) (tys : List (ClassId × FieldType)) (post : Option Value → va_W → Prop) : Prop :=
  match X with
  | ((p, l, e, R, s, m, args, below, meth, c, Q), (nL', D', tys', A)) =>
    p.tables.exec = Jvm.exec ∧ c.code = cc ∧ c.maxLocals = nL ∧ s.vm.findClass own = some m.cls ∧ (∀ w ∈ pw_all, w.before args s = true) ∧ (∀ w ∈ pw_nst, va_Nw w s) ∧ va_K D' vwc tys' s ∧ (∀ q, s.heap.size ≤ q → A q) ∧ meth.locks = false ∧
    nL' = nL ∧ R = rm ∧ D' = D ∧ tys' = tys ∧ l.stackTraces = false ∧ meth.sig.returnType = rt ∧
    ∀ (H : Heap) (locs : List Loc) (k n : Nat) (g : JFrame), W p l e R s m args below meth c H locs k n (MQ below (gQ post D' A) args s rm.cells rm.slots A) g → W p l e R s m args below meth c H locs k n Q g
/-- where a method begins -/
def gP (D : va_G) (tys : List (ClassId × FieldType)) (ws : va_W) (sz : Nat) (U : State) : Prop := U.heap.size = sz ∧ va_P D vwc ws U.heap ∧ va_K D vwc tys U ∧ (∀ w ∈ pw_nst, va_Nw w U) ∧ va_D (fun _ => True) ws
/-- a contract: called with av over the world ws, it returns r and leaves the world w, as post says -/
def gM (y : MethodName) (bytes : ByteArray) (maxL : Nat) (rt : Option FieldType) (rm : Room) (D : va_G) (tys : List (ClassId × FieldType)) (ws : va_W) (av : List Value) (post : Option Value → va_W → Prop) : Prop :=
  ∀ (l : Launch) (sz : Nat), l.stackTraces = false → Met l y (Cond.code y bytes maxL rt :: pw_all) rm (va_Pc av (gP D tys ws sz)) (gQ post D (va_A ws sz)) rm.cells rm.slots (va_A ws sz)
theorem gP_blind {av : List Value} {D : va_G} {tys : List (ClassId × FieldType)} {ws : va_W} {sz : Nat} : FrameBlind (va_Pc av (gP D tys ws sz)) := by
  intro a U g mk h
  obtain ⟨h0, h1, h2, h3, h4, h5⟩ := h
  exact ⟨h0, h1, h2, va_K.moved (u := U) (U := U.calling g mk a) (Vm.Alike.refl U.vm) h3, fun w hw => pw_nst_same hw (u := U) (U := U.calling g mk a) rfl (h4 w hw), h5⟩
theorem gM_intro {y : MethodName} {bytes : ByteArray} {maxL : Nat} {rt : Option FieldType} {rm : Room} {D : va_G} {tys : List (ClassId × FieldType)} {ws : va_W} {av : List Value} {post : Option Value → va_W → Prop}
    (hy : plainName y.cls = true) (hav : (lg_sl av).length ≤ maxL) (h : ∀ X : gx_T, gC X bytes maxL y.cls rm rt D tys post → gV X 0 0 ws 0 (lv_args 0 av) []) : gM y bytes maxL rt rm D tys ws av post := by
  intro l sz hl0
  refine Met.ofW (cc := bytes) (maxL := maxL) (ret := rt) hy rfl ?_
  intro p e s m args below meth c s₁ B hml hv
  obtain ⟨rfl, hsz, hP, hK, hN, hD0⟩ := hv
  subst hsz
  have hts := atoms_spec (ws := Cond.code y bytes maxL rt :: pw_all) B.pre
  have hl := lv_entry av (n := maxL) hav
  rw [lg_entry_eq]
  exact h ((p, l, e, rm, s, m, av.toArray, below, meth, c, MQ below (gQ post D (va_A ws s.heap.size)) av.toArray s rm.cells rm.slots (va_A ws s.heap.size)), (maxL, D, tys, va_A ws s.heap.size))
    ⟨B.exec, B.bytes, hml, findClass_of_methodNamed B.named, fun w hw => hts w (List.mem_cons_of_mem _ hw), hN, hK, fun q hq => Or.inr hq, B.notSynchronized, rfl, rfl, rfl, rfl, hl0, B.returns, fun _ _ _ _ _ k => k⟩
    s.heap [] _ hP (hD0.self (sz := s.heap.size)) va_S.rf hl
/-- the caller's other cells beside what came back -/
theorem gj_join {A0 : Nat → Prop} {D : va_G} {cl : List vw_C} {wc wr w1 : va_W} {H H1 : Heap} (hP : va_P D cl (wc ++ wr) H) (hD : va_D A0 (wc ++ wr))
    (hk : ∀ q : Nat, q < H.size → ¬ va_A wc H.size q → H1[q]? = H[q]?) (hF : ∀ q, va_A wc H.size q → A0 q) (hP1 : va_P D cl w1 H1) (hD1 : va_D (va_A wc H.size) w1) : va_P D cl (w1 ++ wr) H1 ∧ va_D A0 (w1 ++ wr) := by
  have at' : ∀ (k : Nat) (q : Nat × va_E), wr[k]? = some q → (wc ++ wr)[wc.length + k]? = some q := by
    intro k q h
    rw [List.getElem?_append_right (Nat.le_add_right _ _), Nat.add_sub_cancel_left]
    exact h
  have apart : ∀ (k : Nat) (q : Nat × va_E), wr[k]? = some q → q.1 < H.size ∧ ¬ va_A wc H.size q.1 := by
    intro k q h
    have h1 := at' k q h
    refine ⟨(hP _ q h1).lt, fun hA => ?_⟩
    rcases hA with ⟨k2, e2, h2⟩ | h2
    · have hl2 : k2 < wc.length := (List.getElem?_eq_some_iff.mp h2).1
      have h3 : (wc ++ wr)[k2]? = some (q.1, e2) := by rw [List.getElem?_append_left hl2]; exact h2
      have h4 := hD.1 _ _ q (q.1, e2) h1 h3 rfl
      omega
    · have := (hP _ q h1).lt
      omega
  refine ⟨va_P.app hP1 (fun k q h => (hP _ q (at' k q h)).kept (hk q.1 (apart k q h).1 (apart k q h).2)), va_D.app (hD1.weaken (fun _ q _ h => hF q.1 h)) ⟨fun i j x y hx hy hxy => ?_, fun k q h => hD.2 _ q (at' k q h)⟩ (fun i j x y hx hy hxy => (apart j y hy).2 (by rw [← hxy]; exact hD1.2 i x hx))⟩
  have := hD.1 _ _ x y (at' i x hx) (at' j y hy) hxy
  omega
theorem gj_free {A0 : Nat → Prop} {wc wr : va_W} {H0 H : Heap} {locs : List Loc} (hD : va_D A0 (wc ++ wr)) (hS : va_S A0 H0 H locs) (hA : ∀ q, H0.size ≤ q → A0 q) : ∀ q, va_A wc H.size q → A0 q := by
  intro q h
  rcases h with ⟨k, e, h⟩ | h
  · have hl : k < wc.length := (List.getElem?_eq_some_iff.mp h).1
    exact hD.2 k (q, e) (by rw [List.getElem?_append_left hl]; exact h)
  · exact hA q (Nat.le_trans hS.1 h)
section GVR
variable {X : gx_T} {cc : ByteArray} {nL : Nat} {own : String} {rm : Room} {rt : Option FieldType} {D : va_G} {tys : List (ClassId × FieldType)} {post : Option Value → va_W → Prop} {k n : Nat} {ws : va_W} {pc : Nat} {lv : List (Nat × Value)} {st : List Value}
theorem gV_iconst (C : gC X cc nL own rm rt D tys post) {z : Int} {v : Int32} (hdg : decode cc pc = .ok (.iconst z, 1)) (hv : Int32.ofInt z = v) (kk : gV X k n ws (pc + 1) lv (.int v :: st)) : gV X k n ws pc lv (st) := by
  obtain ⟨⟨p, l, e, R, s, m, args, below, meth, c, Q⟩, nL', D', tys', A⟩ := X
  obtain ⟨hx, hb, hml, hown, hts, hN, hK, hA, hlks, rfl, rfl, rfl, rfl, hl0, hr, hret⟩ := C
  intro H locs ls hP hD hS hl
  exact lv_iconst hx hb hdg hv (kk H locs ls hP hD hS hl)
theorem gV_bipush (C : gC X cc nL own rm rt D tys post) {z : Int} {v : Int32} (hdg : decode cc pc = .ok (.bipush z, 2)) (hv : (Int8.ofInt z).toInt32 = v) (kk : gV X k n ws (pc + 2) lv (.int v :: st)) : gV X k n ws pc lv (st) := by
  obtain ⟨⟨p, l, e, R, s, m, args, below, meth, c, Q⟩, nL', D', tys', A⟩ := X
  obtain ⟨hx, hb, hml, hown, hts, hN, hK, hA, hlks, rfl, rfl, rfl, rfl, hl0, hr, hret⟩ := C
  intro H locs ls hP hD hS hl
  exact lv_bipush hx hb hdg hv (kk H locs ls hP hD hS hl)
theorem gV_sipush (C : gC X cc nL own rm rt D tys post) {z : Int} {v : Int32} (hdg : decode cc pc = .ok (.sipush z, 3)) (hv : (Int16.ofInt z).toInt32 = v) (kk : gV X k n ws (pc + 3) lv (.int v :: st)) : gV X k n ws pc lv (st) := by
  obtain ⟨⟨p, l, e, R, s, m, args, below, meth, c, Q⟩, nL', D', tys', A⟩ := X
  obtain ⟨hx, hb, hml, hown, hts, hN, hK, hA, hlks, rfl, rfl, rfl, rfl, hl0, hr, hret⟩ := C
  intro H locs ls hP hD hS hl
  exact lv_sipush hx hb hdg hv (kk H locs ls hP hD hS hl)
theorem gV_lconst (C : gC X cc nL own rm rt D tys post) {z : Fin 2} {v : Int64} (hdg : decode cc pc = .ok (.lconst z, 1)) (hv : Int64.ofNat (z : Nat) = v) (kk : gV X k n ws (pc + 1) lv (.long v :: st)) : gV X k n ws pc lv (st) := by
  obtain ⟨⟨p, l, e, R, s, m, args, below, meth, c, Q⟩, nL', D', tys', A⟩ := X
  obtain ⟨hx, hb, hml, hown, hts, hN, hK, hA, hlks, rfl, rfl, rfl, rfl, hl0, hr, hret⟩ := C
  intro H locs ls hP hD hS hl
  exact lv_lconst hx hb hdg hv (kk H locs ls hP hD hS hl)
theorem gV_iadd (C : gC X cc nL own rm rt D tys post) {x y : Int32} (hdg : decode cc pc = .ok (.iadd, 1))  (kk : gV X k n ws (pc + 1) lv (.int (x + y) :: st)) : gV X k n ws pc lv (.int y :: .int x :: st) := by
  obtain ⟨⟨p, l, e, R, s, m, args, below, meth, c, Q⟩, nL', D', tys', A⟩ := X
  obtain ⟨hx, hb, hml, hown, hts, hN, hK, hA, hlks, rfl, rfl, rfl, rfl, hl0, hr, hret⟩ := C
  intro H locs ls hP hD hS hl
  exact lv_iadd hx hb hdg  (kk H locs ls hP hD hS hl)
theorem gV_isub (C : gC X cc nL own rm rt D tys post) {x y : Int32} (hdg : decode cc pc = .ok (.isub, 1))  (kk : gV X k n ws (pc + 1) lv (.int (x - y) :: st)) : gV X k n ws pc lv (.int y :: .int x :: st) := by
  obtain ⟨⟨p, l, e, R, s, m, args, below, meth, c, Q⟩, nL', D', tys', A⟩ := X
  obtain ⟨hx, hb, hml, hown, hts, hN, hK, hA, hlks, rfl, rfl, rfl, rfl, hl0, hr, hret⟩ := C
  intro H locs ls hP hD hS hl
  exact lv_isub hx hb hdg  (kk H locs ls hP hD hS hl)
theorem gV_imul (C : gC X cc nL own rm rt D tys post) {x y : Int32} (hdg : decode cc pc = .ok (.imul, 1))  (kk : gV X k n ws (pc + 1) lv (.int (x * y) :: st)) : gV X k n ws pc lv (.int y :: .int x :: st) := by
  obtain ⟨⟨p, l, e, R, s, m, args, below, meth, c, Q⟩, nL', D', tys', A⟩ := X
  obtain ⟨hx, hb, hml, hown, hts, hN, hK, hA, hlks, rfl, rfl, rfl, rfl, hl0, hr, hret⟩ := C
  intro H locs ls hP hD hS hl
  exact lv_imul hx hb hdg  (kk H locs ls hP hD hS hl)
theorem gV_iand (C : gC X cc nL own rm rt D tys post) {x y : Int32} (hdg : decode cc pc = .ok (.iand, 1))  (kk : gV X k n ws (pc + 1) lv (.int (x &&& y) :: st)) : gV X k n ws pc lv (.int y :: .int x :: st) := by
  obtain ⟨⟨p, l, e, R, s, m, args, below, meth, c, Q⟩, nL', D', tys', A⟩ := X
  obtain ⟨hx, hb, hml, hown, hts, hN, hK, hA, hlks, rfl, rfl, rfl, rfl, hl0, hr, hret⟩ := C
  intro H locs ls hP hD hS hl
  exact lv_iand hx hb hdg  (kk H locs ls hP hD hS hl)
theorem gV_idiv (C : gC X cc nL own rm rt D tys post) {x y : Int32} (hdg : decode cc pc = .ok (.idiv, 1)) (hne : ¬ y = 0) (kk : gV X k n ws (pc + 1) lv (.int (x / y) :: st)) : gV X k n ws pc lv (.int y :: .int x :: st) := by
  obtain ⟨⟨p, l, e, R, s, m, args, below, meth, c, Q⟩, nL', D', tys', A⟩ := X
  obtain ⟨hx, hb, hml, hown, hts, hN, hK, hA, hlks, rfl, rfl, rfl, rfl, hl0, hr, hret⟩ := C
  intro H locs ls hP hD hS hl
  exact lv_idiv hx hb hdg hne (kk H locs ls hP hD hS hl)
theorem gV_irem (C : gC X cc nL own rm rt D tys post) {x y : Int32} (hdg : decode cc pc = .ok (.irem, 1)) (hne : ¬ y = 0) (kk : gV X k n ws (pc + 1) lv (.int (x - x / y * y) :: st)) : gV X k n ws pc lv (.int y :: .int x :: st) := by
  obtain ⟨⟨p, l, e, R, s, m, args, below, meth, c, Q⟩, nL', D', tys', A⟩ := X
  obtain ⟨hx, hb, hml, hown, hts, hN, hK, hA, hlks, rfl, rfl, rfl, rfl, hl0, hr, hret⟩ := C
  intro H locs ls hP hD hS hl
  exact lv_irem hx hb hdg hne (kk H locs ls hP hD hS hl)
theorem gV_i2l (C : gC X cc nL own rm rt D tys post) {x : Int32} (hdg : decode cc pc = .ok (.i2l, 1))  (kk : gV X k n ws (pc + 1) lv (.long x.toInt64 :: st)) : gV X k n ws pc lv (.int x :: st) := by
  obtain ⟨⟨p, l, e, R, s, m, args, below, meth, c, Q⟩, nL', D', tys', A⟩ := X
  obtain ⟨hx, hb, hml, hown, hts, hN, hK, hA, hlks, rfl, rfl, rfl, rfl, hl0, hr, hret⟩ := C
  intro H locs ls hP hD hS hl
  exact lv_i2l hx hb hdg rfl (kk H locs ls hP hD hS hl)
theorem gV_dup (C : gC X cc nL own rm rt D tys post) {va : Value} (hdg : decode cc pc = .ok (.dup, 1)) (hva : va.category = 1) (kk : gV X k n ws (pc + 1) lv (va :: va :: st)) : gV X k n ws pc lv (va :: st) := by
  obtain ⟨⟨p, l, e, R, s, m, args, below, meth, c, Q⟩, nL', D', tys', A⟩ := X
  obtain ⟨hx, hb, hml, hown, hts, hN, hK, hA, hlks, rfl, rfl, rfl, rfl, hl0, hr, hret⟩ := C
  intro H locs ls hP hD hS hl
  exact lv_dup hx hb hdg hva (kk H locs ls hP hD hS hl)
theorem gV_pop (C : gC X cc nL own rm rt D tys post) {va : Value} (hdg : decode cc pc = .ok (.pop, 1)) (hva : va.category = 1) (kk : gV X k n ws (pc + 1) lv (st)) : gV X k n ws pc lv (va :: st) := by
  obtain ⟨⟨p, l, e, R, s, m, args, below, meth, c, Q⟩, nL', D', tys', A⟩ := X
  obtain ⟨hx, hb, hml, hown, hts, hN, hK, hA, hlks, rfl, rfl, rfl, rfl, hl0, hr, hret⟩ := C
  intro H locs ls hP hD hS hl
  exact lv_pop hx hb hdg hva (kk H locs ls hP hD hS hl)
theorem gV_dup_x1 (C : gC X cc nL own rm rt D tys post) {va vb : Value} (hdg : decode cc pc = .ok (.dup_x1, 1)) (hva : va.category = 1) (hvb : vb.category = 1) (kk : gV X k n ws (pc + 1) lv (va :: vb :: va :: st)) : gV X k n ws pc lv (va :: vb :: st) := by
  obtain ⟨⟨p, l, e, R, s, m, args, below, meth, c, Q⟩, nL', D', tys', A⟩ := X
  obtain ⟨hx, hb, hml, hown, hts, hN, hK, hA, hlks, rfl, rfl, rfl, rfl, hl0, hr, hret⟩ := C
  intro H locs ls hP hD hS hl
  exact lv_dup_x1 hx hb hdg hva hvb (kk H locs ls hP hD hS hl)
theorem gV_dup_x2 (C : gC X cc nL own rm rt D tys post) {va vb vc : Value} (hdg : decode cc pc = .ok (.dup_x2, 1)) (hva : va.category = 1) (hvb : vb.category = 1) (hvc : vc.category = 1) (kk : gV X k n ws (pc + 1) lv (va :: vb :: vc :: va :: st)) : gV X k n ws pc lv (va :: vb :: vc :: st) := by
  obtain ⟨⟨p, l, e, R, s, m, args, below, meth, c, Q⟩, nL', D', tys', A⟩ := X
  obtain ⟨hx, hb, hml, hown, hts, hN, hK, hA, hlks, rfl, rfl, rfl, rfl, hl0, hr, hret⟩ := C
  intro H locs ls hP hD hS hl
  exact lv_dup_x2 hx hb hdg hva hvb hvc (kk H locs ls hP hD hS hl)
theorem gV_dup2 (C : gC X cc nL own rm rt D tys post) {va vb : Value} (hdg : decode cc pc = .ok (.dup2, 1)) (hva : va.category = 1) (hvb : vb.category = 1) (kk : gV X k n ws (pc + 1) lv (va :: vb :: va :: vb :: st)) : gV X k n ws pc lv (va :: vb :: st) := by
  obtain ⟨⟨p, l, e, R, s, m, args, below, meth, c, Q⟩, nL', D', tys', A⟩ := X
  obtain ⟨hx, hb, hml, hown, hts, hN, hK, hA, hlks, rfl, rfl, rfl, rfl, hl0, hr, hret⟩ := C
  intro H locs ls hP hD hS hl
  exact lv_dup2_11 hx hb hdg hva hvb (kk H locs ls hP hD hS hl)
theorem gV_null (C : gC X cc nL own rm rt D tys post)  (hdg : decode cc pc = .ok (.aconst_null, 1))  (kk : gV X k n ws (pc + 1) lv (.null :: st)) : gV X k n ws pc lv (st) := by
  obtain ⟨⟨p, l, e, R, s, m, args, below, meth, c, Q⟩, nL', D', tys', A⟩ := X
  obtain ⟨hx, hb, hml, hown, hts, hN, hK, hA, hlks, rfl, rfl, rfl, rfl, hl0, hr, hret⟩ := C
  intro H locs ls hP hD hS hl
  exact lv_null hx hb hdg  (kk H locs ls hP hD hS hl)
theorem gV_iload_n (C : gC X cc nL own rm rt D tys post) {j : Fin 4} {i : Nat} {x : Int32} (hdg : decode cc pc = .ok (.iload_n j, 1)) (q : Nat) (hi : (j : Nat) = i) (hq : lv[q]? = some (i, .int x)) (kk : gV X k n ws (pc + 1) lv (.int x :: st)) : gV X k n ws pc lv st := by
  obtain ⟨⟨p, l, e, R, s, m, args, below, meth, c, Q⟩, nL', D', tys', A⟩ := X
  obtain ⟨hx, hb, hml, hown, hts, hN, hK, hA, hlks, rfl, rfl, rfl, rfl, hl0, hr, hret⟩ := C
  intro H locs ls hP hD hS hl
  exact lv_iload_n hx hb hdg hi (lv_at hl q hq) (kk H locs ls hP hD hS hl)
theorem gV_iload (C : gC X cc nL own rm rt D tys post) {i : Nat} {x : Int32} (hdg : decode cc pc = .ok (.iload i, 2)) (q : Nat) (hq : lv[q]? = some (i, .int x)) (kk : gV X k n ws (pc + 2) lv (.int x :: st)) : gV X k n ws pc lv st := by
  obtain ⟨⟨p, l, e, R, s, m, args, below, meth, c, Q⟩, nL', D', tys', A⟩ := X
  obtain ⟨hx, hb, hml, hown, hts, hN, hK, hA, hlks, rfl, rfl, rfl, rfl, hl0, hr, hret⟩ := C
  intro H locs ls hP hD hS hl
  exact lv_iload hx hb hdg (lv_at hl q hq) (kk H locs ls hP hD hS hl)
theorem gV_aload_n (C : gC X cc nL own rm rt D tys post) {j : Fin 4} {i : Nat} {x : Nat} (hdg : decode cc pc = .ok (.aload_n j, 1)) (q : Nat) (hi : (j : Nat) = i) (hq : lv[q]? = some (i, .ref x)) (kk : gV X k n ws (pc + 1) lv (.ref x :: st)) : gV X k n ws pc lv st := by
  obtain ⟨⟨p, l, e, R, s, m, args, below, meth, c, Q⟩, nL', D', tys', A⟩ := X
  obtain ⟨hx, hb, hml, hown, hts, hN, hK, hA, hlks, rfl, rfl, rfl, rfl, hl0, hr, hret⟩ := C
  intro H locs ls hP hD hS hl
  exact lv_aload_n hx hb hdg hi (lv_at hl q hq) (kk H locs ls hP hD hS hl)
theorem gV_aload (C : gC X cc nL own rm rt D tys post) {i : Nat} {x : Nat} (hdg : decode cc pc = .ok (.aload i, 2)) (q : Nat) (hq : lv[q]? = some (i, .ref x)) (kk : gV X k n ws (pc + 2) lv (.ref x :: st)) : gV X k n ws pc lv st := by
  obtain ⟨⟨p, l, e, R, s, m, args, below, meth, c, Q⟩, nL', D', tys', A⟩ := X
  obtain ⟨hx, hb, hml, hown, hts, hN, hK, hA, hlks, rfl, rfl, rfl, rfl, hl0, hr, hret⟩ := C
  intro H locs ls hP hD hS hl
  exact lv_aload hx hb hdg (lv_at hl q hq) (kk H locs ls hP hD hS hl)
theorem gV_aloadq_n (C : gC X cc nL own rm rt D tys post) {j : Fin 4} {i : Nat} {r : Option Nat} (hdg : decode cc pc = .ok (.aload_n j, 1)) (q : Nat) (hi : (j : Nat) = i) (hq : lv[q]? = some (i, va_rf r)) (kk : gV X k n ws (pc + 1) lv (va_rf r :: st)) : gV X k n ws pc lv st := by
  obtain ⟨⟨p, l, e, R, s, m, args, below, meth, c, Q⟩, nL', D', tys', A⟩ := X
  obtain ⟨hx, hb, hml, hown, hts, hN, hK, hA, hlks, rfl, rfl, rfl, rfl, hl0, hr, hret⟩ := C
  intro H locs ls hP hD hS hl
  cases r with
  | none => exact lv_aload_nN hx hb hdg hi (lv_at hl q hq) (kk H locs ls hP hD hS hl)
  | some a => exact lv_aload_n hx hb hdg hi (lv_at hl q hq) (kk H locs ls hP hD hS hl)
theorem gV_aloadq (C : gC X cc nL own rm rt D tys post) {i : Nat} {r : Option Nat} (hdg : decode cc pc = .ok (.aload i, 2)) (q : Nat) (hq : lv[q]? = some (i, va_rf r)) (kk : gV X k n ws (pc + 2) lv (va_rf r :: st)) : gV X k n ws pc lv st := by
  obtain ⟨⟨p, l, e, R, s, m, args, below, meth, c, Q⟩, nL', D', tys', A⟩ := X
  obtain ⟨hx, hb, hml, hown, hts, hN, hK, hA, hlks, rfl, rfl, rfl, rfl, hl0, hr, hret⟩ := C
  intro H locs ls hP hD hS hl
  cases r with
  | none => exact lv_aloadN hx hb hdg (lv_at hl q hq) (kk H locs ls hP hD hS hl)
  | some a => exact lv_aload hx hb hdg (lv_at hl q hq) (kk H locs ls hP hD hS hl)
theorem gV_istore_n (C : gC X cc nL own rm rt D tys post) {j : Fin 4} {i : Nat} {x : Int32} {lv' : List (Nat × Value)} (hdg : decode cc pc = .ok (.istore_n j, 1)) (hi : (j : Nat) = i) (hn : i < nL) (hq : (i, Value.int x) :: lv.filter (fun q => !(q.1 == i) && !(q.1 + 1 == i && q.2.category == 2)) = lv') (kk : gV X k n ws (pc + 1) lv' st) : gV X k n ws pc lv (Value.int x :: st) := by
  obtain ⟨⟨p, l, e, R, s, m, args, below, meth, c, Q⟩, nL', D', tys', A⟩ := X
  obtain ⟨hx, hb, hml, hown, hts, hN, hK, hA, hlks, rfl, rfl, rfl, rfl, hl0, hr, hret⟩ := C
  intro H locs ls hP hD hS hl
  exact lv_istore_n hx hb hdg hi hl hn hq (fun ls' hl' => kk H locs ls' hP hD hS hl')
theorem gV_istore (C : gC X cc nL own rm rt D tys post) {i : Nat} {x : Int32} {lv' : List (Nat × Value)} (hdg : decode cc pc = .ok (.istore i, 2)) (hn : i < nL) (hq : (i, Value.int x) :: lv.filter (fun q => !(q.1 == i) && !(q.1 + 1 == i && q.2.category == 2)) = lv') (kk : gV X k n ws (pc + 2) lv' st) : gV X k n ws pc lv (Value.int x :: st) := by
  obtain ⟨⟨p, l, e, R, s, m, args, below, meth, c, Q⟩, nL', D', tys', A⟩ := X
  obtain ⟨hx, hb, hml, hown, hts, hN, hK, hA, hlks, rfl, rfl, rfl, rfl, hl0, hr, hret⟩ := C
  intro H locs ls hP hD hS hl
  exact lv_istore hx hb hdg hl hn hq (fun ls' hl' => kk H locs ls' hP hD hS hl')
theorem gV_astore_n (C : gC X cc nL own rm rt D tys post) {j : Fin 4} {i : Nat} {x : Nat} {lv' : List (Nat × Value)} (hdg : decode cc pc = .ok (.astore_n j, 1)) (hi : (j : Nat) = i) (hn : i < nL) (hq : (i, Value.ref x) :: lv.filter (fun q => !(q.1 == i) && !(q.1 + 1 == i && q.2.category == 2)) = lv') (kk : gV X k n ws (pc + 1) lv' st) : gV X k n ws pc lv (Value.ref x :: st) := by
  obtain ⟨⟨p, l, e, R, s, m, args, below, meth, c, Q⟩, nL', D', tys', A⟩ := X
  obtain ⟨hx, hb, hml, hown, hts, hN, hK, hA, hlks, rfl, rfl, rfl, rfl, hl0, hr, hret⟩ := C
  intro H locs ls hP hD hS hl
  exact lv_astore_n hx hb hdg hi hl hn hq (fun ls' hl' => kk H locs ls' hP hD hS hl')
theorem gV_astore (C : gC X cc nL own rm rt D tys post) {i : Nat} {x : Nat} {lv' : List (Nat × Value)} (hdg : decode cc pc = .ok (.astore i, 2)) (hn : i < nL) (hq : (i, Value.ref x) :: lv.filter (fun q => !(q.1 == i) && !(q.1 + 1 == i && q.2.category == 2)) = lv') (kk : gV X k n ws (pc + 2) lv' st) : gV X k n ws pc lv (Value.ref x :: st) := by
  obtain ⟨⟨p, l, e, R, s, m, args, below, meth, c, Q⟩, nL', D', tys', A⟩ := X
  obtain ⟨hx, hb, hml, hown, hts, hN, hK, hA, hlks, rfl, rfl, rfl, rfl, hl0, hr, hret⟩ := C
  intro H locs ls hP hD hS hl
  exact lv_astore hx hb hdg hl hn hq (fun ls' hl' => kk H locs ls' hP hD hS hl')
theorem gV_astoreq_n (C : gC X cc nL own rm rt D tys post) {j : Fin 4} {i : Nat} {r : Option Nat} {lv' : List (Nat × Value)} (hdg : decode cc pc = .ok (.astore_n j, 1)) (hi : (j : Nat) = i) (hn : i < nL) (hq : (i, va_rf r) :: lv.filter (fun q => !(q.1 == i) && !(q.1 + 1 == i && q.2.category == 2)) = lv') (kk : gV X k n ws (pc + 1) lv' st) : gV X k n ws pc lv (va_rf r :: st) := by
  obtain ⟨⟨p, l, e, R, s, m, args, below, meth, c, Q⟩, nL', D', tys', A⟩ := X
  obtain ⟨hx, hb, hml, hown, hts, hN, hK, hA, hlks, rfl, rfl, rfl, rfl, hl0, hr, hret⟩ := C
  intro H locs ls hP hD hS hl
  cases r with
  | none => exact lv_astore_nN hx hb hdg hi hl hn hq (fun ls' hl' => kk H locs ls' hP hD hS hl')
  | some a => exact lv_astore_n hx hb hdg hi hl hn hq (fun ls' hl' => kk H locs ls' hP hD hS hl')
theorem gV_astoreq (C : gC X cc nL own rm rt D tys post) {i : Nat} {r : Option Nat} {lv' : List (Nat × Value)} (hdg : decode cc pc = .ok (.astore i, 2)) (hn : i < nL) (hq : (i, va_rf r) :: lv.filter (fun q => !(q.1 == i) && !(q.1 + 1 == i && q.2.category == 2)) = lv') (kk : gV X k n ws (pc + 2) lv' st) : gV X k n ws pc lv (va_rf r :: st) := by
  obtain ⟨⟨p, l, e, R, s, m, args, below, meth, c, Q⟩, nL', D', tys', A⟩ := X
  obtain ⟨hx, hb, hml, hown, hts, hN, hK, hA, hlks, rfl, rfl, rfl, rfl, hl0, hr, hret⟩ := C
  intro H locs ls hP hD hS hl
  cases r with
  | none => exact lv_astoreN hx hb hdg hl hn hq (fun ls' hl' => kk H locs ls' hP hD hS hl')
  | some a => exact lv_astore hx hb hdg hl hn hq (fun ls' hl' => kk H locs ls' hP hD hS hl')
theorem gV_iinc (C : gC X cc nL own rm rt D tys post) {i : Nat} {z : Int} {x v : Int32} {lv' : List (Nat × Value)} (hdg : decode cc pc = .ok (.iinc i z, 3)) (q : Nat) (hq : lv[q]? = some (i, .int x)) (hv : x + Int32.ofInt z = v) (hn : i < nL) (hq' : (i, Value.int v) :: lv.filter (fun q => !(q.1 == i) && !(q.1 + 1 == i && q.2.category == 2)) = lv') (kk : gV X k n ws (pc + 3) lv' st) : gV X k n ws pc lv st := by
  obtain ⟨⟨p, l, e, R, s, m, args, below, meth, c, Q⟩, nL', D', tys', A⟩ := X
  obtain ⟨hx, hb, hml, hown, hts, hN, hK, hA, hlks, rfl, rfl, rfl, rfl, hl0, hr, hret⟩ := C
  intro H locs ls hP hD hS hl
  exact lv_iinc hx hb hdg hl hq hv hn hq' (fun ls' hl' => kk H locs ls' hP hD hS hl')
theorem gV_icmp_eq (C : gC X cc nL own rm rt D tys post) {x y : Int32} {off : Int} (tgt : Nat) (hdg : decode cc pc = .ok (.if_icmp .eq off, 3)) (ht : (pc : Int) + off = (tgt : Int)) (kt : x = y → gV X k n ws tgt lv st) (kf : ¬ x = y → gV X k n ws (pc + 3) lv st) : gV X k n ws pc lv (.int y :: .int x :: st) := by
  obtain ⟨⟨p, l, e, R, s, m, args, below, meth, c, Q⟩, nL', D', tys', A⟩ := X
  obtain ⟨hx, hb, hml, hown, hts, hN, hK, hA, hlks, rfl, rfl, rfl, rfl, hl0, hr, hret⟩ := C
  intro H locs ls hP hD hS hl
  exact lv_icmp_eq hx hb hdg ht (fun h => kt h H locs ls hP hD hS hl) (fun h => kf h H locs ls hP hD hS hl)
theorem gV_if_eq (C : gC X cc nL own rm rt D tys post) {x : Int32} {off : Int} (tgt : Nat) (hdg : decode cc pc = .ok (.ifCond .eq off, 3)) (ht : (pc : Int) + off = (tgt : Int)) (kt : x = 0 → gV X k n ws tgt lv st) (kf : ¬ x = 0 → gV X k n ws (pc + 3) lv st) : gV X k n ws pc lv (.int x :: st) := by
  obtain ⟨⟨p, l, e, R, s, m, args, below, meth, c, Q⟩, nL', D', tys', A⟩ := X
  obtain ⟨hx, hb, hml, hown, hts, hN, hK, hA, hlks, rfl, rfl, rfl, rfl, hl0, hr, hret⟩ := C
  intro H locs ls hP hD hS hl
  exact lv_if_eq hx hb hdg ht (fun h => kt h H locs ls hP hD hS hl) (fun h => kf h H locs ls hP hD hS hl)
theorem gV_icmp_ne (C : gC X cc nL own rm rt D tys post) {x y : Int32} {off : Int} (tgt : Nat) (hdg : decode cc pc = .ok (.if_icmp .ne off, 3)) (ht : (pc : Int) + off = (tgt : Int)) (kt : ¬ x = y → gV X k n ws tgt lv st) (kf : x = y → gV X k n ws (pc + 3) lv st) : gV X k n ws pc lv (.int y :: .int x :: st) := by
  obtain ⟨⟨p, l, e, R, s, m, args, below, meth, c, Q⟩, nL', D', tys', A⟩ := X
  obtain ⟨hx, hb, hml, hown, hts, hN, hK, hA, hlks, rfl, rfl, rfl, rfl, hl0, hr, hret⟩ := C
  intro H locs ls hP hD hS hl
  exact lv_icmp_ne hx hb hdg ht (fun h => kt h H locs ls hP hD hS hl) (fun h => kf h H locs ls hP hD hS hl)
theorem gV_if_ne (C : gC X cc nL own rm rt D tys post) {x : Int32} {off : Int} (tgt : Nat) (hdg : decode cc pc = .ok (.ifCond .ne off, 3)) (ht : (pc : Int) + off = (tgt : Int)) (kt : ¬ x = 0 → gV X k n ws tgt lv st) (kf : x = 0 → gV X k n ws (pc + 3) lv st) : gV X k n ws pc lv (.int x :: st) := by
  obtain ⟨⟨p, l, e, R, s, m, args, below, meth, c, Q⟩, nL', D', tys', A⟩ := X
  obtain ⟨hx, hb, hml, hown, hts, hN, hK, hA, hlks, rfl, rfl, rfl, rfl, hl0, hr, hret⟩ := C
  intro H locs ls hP hD hS hl
  exact lv_if_ne hx hb hdg ht (fun h => kt h H locs ls hP hD hS hl) (fun h => kf h H locs ls hP hD hS hl)
theorem gV_icmp_lt (C : gC X cc nL own rm rt D tys post) {x y : Int32} {off : Int} (tgt : Nat) (hdg : decode cc pc = .ok (.if_icmp .lt off, 3)) (ht : (pc : Int) + off = (tgt : Int)) (kt : x < y → gV X k n ws tgt lv st) (kf : ¬ x < y → gV X k n ws (pc + 3) lv st) : gV X k n ws pc lv (.int y :: .int x :: st) := by
  obtain ⟨⟨p, l, e, R, s, m, args, below, meth, c, Q⟩, nL', D', tys', A⟩ := X
  obtain ⟨hx, hb, hml, hown, hts, hN, hK, hA, hlks, rfl, rfl, rfl, rfl, hl0, hr, hret⟩ := C
  intro H locs ls hP hD hS hl
  exact lv_icmp_lt hx hb hdg ht (fun h => kt h H locs ls hP hD hS hl) (fun h => kf h H locs ls hP hD hS hl)
theorem gV_if_lt (C : gC X cc nL own rm rt D tys post) {x : Int32} {off : Int} (tgt : Nat) (hdg : decode cc pc = .ok (.ifCond .lt off, 3)) (ht : (pc : Int) + off = (tgt : Int)) (kt : x < 0 → gV X k n ws tgt lv st) (kf : ¬ x < 0 → gV X k n ws (pc + 3) lv st) : gV X k n ws pc lv (.int x :: st) := by
  obtain ⟨⟨p, l, e, R, s, m, args, below, meth, c, Q⟩, nL', D', tys', A⟩ := X
  obtain ⟨hx, hb, hml, hown, hts, hN, hK, hA, hlks, rfl, rfl, rfl, rfl, hl0, hr, hret⟩ := C
  intro H locs ls hP hD hS hl
  exact lv_if_lt hx hb hdg ht (fun h => kt h H locs ls hP hD hS hl) (fun h => kf h H locs ls hP hD hS hl)
theorem gV_icmp_ge (C : gC X cc nL own rm rt D tys post) {x y : Int32} {off : Int} (tgt : Nat) (hdg : decode cc pc = .ok (.if_icmp .ge off, 3)) (ht : (pc : Int) + off = (tgt : Int)) (kt : y ≤ x → gV X k n ws tgt lv st) (kf : ¬ y ≤ x → gV X k n ws (pc + 3) lv st) : gV X k n ws pc lv (.int y :: .int x :: st) := by
  obtain ⟨⟨p, l, e, R, s, m, args, below, meth, c, Q⟩, nL', D', tys', A⟩ := X
  obtain ⟨hx, hb, hml, hown, hts, hN, hK, hA, hlks, rfl, rfl, rfl, rfl, hl0, hr, hret⟩ := C
  intro H locs ls hP hD hS hl
  exact lv_icmp_ge hx hb hdg ht (fun h => kt h H locs ls hP hD hS hl) (fun h => kf h H locs ls hP hD hS hl)
theorem gV_if_ge (C : gC X cc nL own rm rt D tys post) {x : Int32} {off : Int} (tgt : Nat) (hdg : decode cc pc = .ok (.ifCond .ge off, 3)) (ht : (pc : Int) + off = (tgt : Int)) (kt : 0 ≤ x → gV X k n ws tgt lv st) (kf : ¬ 0 ≤ x → gV X k n ws (pc + 3) lv st) : gV X k n ws pc lv (.int x :: st) := by
  obtain ⟨⟨p, l, e, R, s, m, args, below, meth, c, Q⟩, nL', D', tys', A⟩ := X
  obtain ⟨hx, hb, hml, hown, hts, hN, hK, hA, hlks, rfl, rfl, rfl, rfl, hl0, hr, hret⟩ := C
  intro H locs ls hP hD hS hl
  exact lv_if_ge hx hb hdg ht (fun h => kt h H locs ls hP hD hS hl) (fun h => kf h H locs ls hP hD hS hl)
theorem gV_icmp_gt (C : gC X cc nL own rm rt D tys post) {x y : Int32} {off : Int} (tgt : Nat) (hdg : decode cc pc = .ok (.if_icmp .gt off, 3)) (ht : (pc : Int) + off = (tgt : Int)) (kt : y < x → gV X k n ws tgt lv st) (kf : ¬ y < x → gV X k n ws (pc + 3) lv st) : gV X k n ws pc lv (.int y :: .int x :: st) := by
  obtain ⟨⟨p, l, e, R, s, m, args, below, meth, c, Q⟩, nL', D', tys', A⟩ := X
  obtain ⟨hx, hb, hml, hown, hts, hN, hK, hA, hlks, rfl, rfl, rfl, rfl, hl0, hr, hret⟩ := C
  intro H locs ls hP hD hS hl
  exact lv_icmp_gt hx hb hdg ht (fun h => kt h H locs ls hP hD hS hl) (fun h => kf h H locs ls hP hD hS hl)
theorem gV_if_gt (C : gC X cc nL own rm rt D tys post) {x : Int32} {off : Int} (tgt : Nat) (hdg : decode cc pc = .ok (.ifCond .gt off, 3)) (ht : (pc : Int) + off = (tgt : Int)) (kt : 0 < x → gV X k n ws tgt lv st) (kf : ¬ 0 < x → gV X k n ws (pc + 3) lv st) : gV X k n ws pc lv (.int x :: st) := by
  obtain ⟨⟨p, l, e, R, s, m, args, below, meth, c, Q⟩, nL', D', tys', A⟩ := X
  obtain ⟨hx, hb, hml, hown, hts, hN, hK, hA, hlks, rfl, rfl, rfl, rfl, hl0, hr, hret⟩ := C
  intro H locs ls hP hD hS hl
  exact lv_if_gt hx hb hdg ht (fun h => kt h H locs ls hP hD hS hl) (fun h => kf h H locs ls hP hD hS hl)
theorem gV_icmp_le (C : gC X cc nL own rm rt D tys post) {x y : Int32} {off : Int} (tgt : Nat) (hdg : decode cc pc = .ok (.if_icmp .le off, 3)) (ht : (pc : Int) + off = (tgt : Int)) (kt : x ≤ y → gV X k n ws tgt lv st) (kf : ¬ x ≤ y → gV X k n ws (pc + 3) lv st) : gV X k n ws pc lv (.int y :: .int x :: st) := by
  obtain ⟨⟨p, l, e, R, s, m, args, below, meth, c, Q⟩, nL', D', tys', A⟩ := X
  obtain ⟨hx, hb, hml, hown, hts, hN, hK, hA, hlks, rfl, rfl, rfl, rfl, hl0, hr, hret⟩ := C
  intro H locs ls hP hD hS hl
  exact lv_icmp_le hx hb hdg ht (fun h => kt h H locs ls hP hD hS hl) (fun h => kf h H locs ls hP hD hS hl)
theorem gV_if_le (C : gC X cc nL own rm rt D tys post) {x : Int32} {off : Int} (tgt : Nat) (hdg : decode cc pc = .ok (.ifCond .le off, 3)) (ht : (pc : Int) + off = (tgt : Int)) (kt : x ≤ 0 → gV X k n ws tgt lv st) (kf : ¬ x ≤ 0 → gV X k n ws (pc + 3) lv st) : gV X k n ws pc lv (.int x :: st) := by
  obtain ⟨⟨p, l, e, R, s, m, args, below, meth, c, Q⟩, nL', D', tys', A⟩ := X
  obtain ⟨hx, hb, hml, hown, hts, hN, hK, hA, hlks, rfl, rfl, rfl, rfl, hl0, hr, hret⟩ := C
  intro H locs ls hP hD hS hl
  exact lv_if_le hx hb hdg ht (fun h => kt h H locs ls hP hD hS hl) (fun h => kf h H locs ls hP hD hS hl)
theorem gV_goto (C : gC X cc nL own rm rt D tys post) {off : Int} (tgt : Nat) (hdg : decode cc pc = .ok (.goto off, 3)) (ht : (pc : Int) + off = (tgt : Int)) (kk : gV X k n ws tgt lv st) : gV X k n ws pc lv st := by
  obtain ⟨⟨p, l, e, R, s, m, args, below, meth, c, Q⟩, nL', D', tys', A⟩ := X
  obtain ⟨hx, hb, hml, hown, hts, hN, hK, hA, hlks, rfl, rfl, rfl, rfl, hl0, hr, hret⟩ := C
  intro H locs ls hP hD hS hl
  exact lv_goto hx hb hdg ht (kk H locs ls hP hD hS hl)
theorem gV_ifnull (C : gC X cc nL own rm rt D tys post) {r : Option Nat} {off : Int} (tgt : Nat) (hdg : decode cc pc = .ok (.ifnull off, 3)) (ht : (pc : Int) + off = (tgt : Int)) (kt : r = none → gV X k n ws tgt lv st) (kf : ∀ a, r = some a → gV X k n ws (pc + 3) lv st) : gV X k n ws pc lv (va_rf r :: st) := by
  obtain ⟨⟨p, l, e, R, s, m, args, below, meth, c, Q⟩, nL', D', tys', A⟩ := X
  obtain ⟨hx, hb, hml, hown, hts, hN, hK, hA, hlks, rfl, rfl, rfl, rfl, hl0, hr, hret⟩ := C
  intro H locs ls hP hD hS hl
  cases r with
  | none => exact lv_ifnullN hx hb hdg ht (kt rfl H locs ls hP hD hS hl)
  | some a => exact lv_ifnull hx hb hdg (kf a rfl H locs ls hP hD hS hl)
theorem gV_ifnonnull (C : gC X cc nL own rm rt D tys post) {r : Option Nat} {off : Int} (tgt : Nat) (hdg : decode cc pc = .ok (.ifnonnull off, 3)) (ht : (pc : Int) + off = (tgt : Int)) (kt : ∀ a, r = some a → gV X k n ws tgt lv st) (kf : r = none → gV X k n ws (pc + 3) lv st) : gV X k n ws pc lv (va_rf r :: st) := by
  obtain ⟨⟨p, l, e, R, s, m, args, below, meth, c, Q⟩, nL', D', tys', A⟩ := X
  obtain ⟨hx, hb, hml, hown, hts, hN, hK, hA, hlks, rfl, rfl, rfl, rfl, hl0, hr, hret⟩ := C
  intro H locs ls hP hD hS hl
  cases r with
  | none => exact lv_ifnonnullN hx hb hdg (kf rfl H locs ls hP hD hS hl)
  | some a => exact lv_ifnonnull hx hb hdg ht (kt a rfl H locs ls hP hD hS hl)
theorem gV_acmp_eq (C : gC X cc nL own rm rt D tys post) {rx ry : Option Nat} {off : Int} (tgt : Nat) (hdg : decode cc pc = .ok (.if_acmp .eq off, 3)) (ht : (pc : Int) + off = (tgt : Int)) (kt : rx = ry → gV X k n ws tgt lv st) (kf : ¬ rx = ry → gV X k n ws (pc + 3) lv st) : gV X k n ws pc lv (va_rf ry :: va_rf rx :: st) := by
  obtain ⟨⟨p, l, e, R, s, m, args, below, meth, c, Q⟩, nL', D', tys', A⟩ := X
  obtain ⟨hx, hb, hml, hown, hts, hN, hK, hA, hlks, rfl, rfl, rfl, rfl, hl0, hr, hret⟩ := C
  intro H locs ls hP hD hS hl
  exact lv_acmp_eq hx hb hdg ht (fun h => kt h H locs ls hP hD hS hl) (fun h => kf h H locs ls hP hD hS hl)
theorem gV_acmp_ne (C : gC X cc nL own rm rt D tys post) {rx ry : Option Nat} {off : Int} (tgt : Nat) (hdg : decode cc pc = .ok (.if_acmp .ne off, 3)) (ht : (pc : Int) + off = (tgt : Int)) (kt : ¬ rx = ry → gV X k n ws tgt lv st) (kf : rx = ry → gV X k n ws (pc + 3) lv st) : gV X k n ws pc lv (va_rf ry :: va_rf rx :: st) := by
  obtain ⟨⟨p, l, e, R, s, m, args, below, meth, c, Q⟩, nL', D', tys', A⟩ := X
  obtain ⟨hx, hb, hml, hown, hts, hN, hK, hA, hlks, rfl, rfl, rfl, rfl, hl0, hr, hret⟩ := C
  intro H locs ls hP hD hS hl
  exact lv_acmp_ne hx hb hdg ht (fun h => kt h H locs ls hP hD hS hl) (fun h => kf h H locs ls hP hD hS hl)
theorem gV_tableIn (C : gC X cc nL own rm rt D tys post) {dflt lo hi : Int} {offs : Array Int} {len : Nat} {x : Int32} {off : Int} (tgt : Nat) (hdg : decode cc pc = .ok (.tableswitch dflt lo hi offs, len)) (h1 : ¬ x.toInt < lo) (h2 : ¬ hi < x.toInt) (ho : offs[(x.toInt - lo).toNat]? = some off) (ht : (pc : Int) + off = (tgt : Int)) (kk : gV X k n ws tgt lv st) : gV X k n ws pc lv (.int x :: st) := by
  obtain ⟨⟨p, l, e, R, s, m, args, below, meth, c, Q⟩, nL', D', tys', A⟩ := X
  obtain ⟨hx, hb, hml, hown, hts, hN, hK, hA, hlks, rfl, rfl, rfl, rfl, hl0, hr, hret⟩ := C
  intro H locs ls hP hD hS hl
  exact lv_tableIn hx hb hdg h1 h2 ho ht (kk H locs ls hP hD hS hl)
theorem gV_tableOut (C : gC X cc nL own rm rt D tys post) {dflt lo hi : Int} {offs : Array Int} {len : Nat} {x : Int32} (tgt : Nat) (hdg : decode cc pc = .ok (.tableswitch dflt lo hi offs, len)) (h : x.toInt < lo ∨ hi < x.toInt) (ht : (pc : Int) + dflt = (tgt : Int)) (kk : gV X k n ws tgt lv st) : gV X k n ws pc lv (.int x :: st) := by
  obtain ⟨⟨p, l, e, R, s, m, args, below, meth, c, Q⟩, nL', D', tys', A⟩ := X
  obtain ⟨hx, hb, hml, hown, hts, hN, hK, hA, hlks, rfl, rfl, rfl, rfl, hl0, hr, hret⟩ := C
  intro H locs ls hP hD hS hl
  exact lv_tableOut hx hb hdg h ht (kk H locs ls hP hD hS hl)
theorem gV_lv {lv' : List (Nat × Value)} (ks : List Nat) (h : lv_pick lv ks = lv') (kk : gV X k n ws pc lv' st) : gV X k n ws pc lv st := by
  obtain ⟨⟨p, l, e, R, s, m, args, below, meth, c, Q⟩, nL', D', tys', A⟩ := X
  intro H locs ls hP hD hS hl
  exact kk H locs ls hP hD hS (lv_sub hl ks h)
theorem gV_widen {k' n' : Nat} (h1 : k ≤ k') (h2 : n ≤ n') (kk : gV X k' n' ws pc lv st) : gV X k n ws pc lv st := by
  obtain ⟨⟨p, l, e, R, s, m, args, below, meth, c, Q⟩, nL', D', tys', A⟩ := X
  intro H locs ls hP hD hS hl
  exact W.widen h1 h2 (kk H locs ls hP hD hS hl)
theorem gV_ws {ws' : va_W} (h : ws = ws') (kk : gV X k n ws' pc lv st) : gV X k n ws pc lv st := h ▸ kk
theorem gV_st {st' : List Value} (h : st = st') (kk : gV X k n ws pc lv st') : gV X k n ws pc lv st := h ▸ kk
theorem gV_iret (C : gC X cc nL own rm (some .int) D tys post) {v : Int32} (hdg : decode cc pc = .ok (.ireturn, 1)) (h1 : k ≤ rm.cells) (h2 : n ≤ rm.slots) (hp : post (some (.int v)) ws) : gV X k n ws pc lv [.int v] := by
  obtain ⟨⟨p, l, e, R, s, m, args, below, meth, c, Q⟩, nL', D', tys', A⟩ := X
  obtain ⟨hx, hb, hml, hown, hts, hN, hK, hA, hlks, rfl, rfl, rfl, rfl, hl0, hr, hret⟩ := C
  intro H locs ls hP hD hS hl
  refine W.widen h1 h2 (hret H locs _ _ _ ?_)
  exact W.iret hx hb hr (fun t ht hW => ⟨⟨_, ws, rfl, hp, by rw [ht]; exact hP, hD⟩, hS.F ht⟩) hS.2.2 hdg hlks
theorem gV_zret (C : gC X cc nL own rm (some .boolean) D tys post) {v : Int32} (hdg : decode cc pc = .ok (.ireturn, 1)) (hv : v = 0 ∨ v = 1) (h1 : k ≤ rm.cells) (h2 : n ≤ rm.slots) (hp : post (some (.int v)) ws) : gV X k n ws pc lv [.int v] := by
  obtain ⟨⟨p, l, e, R, s, m, args, below, meth, c, Q⟩, nL', D', tys', A⟩ := X
  obtain ⟨hx, hb, hml, hown, hts, hN, hK, hA, hlks, rfl, rfl, rfl, rfl, hl0, hr, hret⟩ := C
  intro H locs ls hP hD hS hl
  refine W.widen h1 h2 (hret H locs _ _ _ ?_)
  exact W.zret hx hb hr (by rcases hv with rfl | rfl <;> rfl) (fun t ht hW => ⟨⟨_, ws, rfl, hp, by rw [ht]; exact hP, hD⟩, hS.F ht⟩) hS.2.2 hdg hlks
theorem gV_vret (C : gC X cc nL own rm none D tys post) (hdg : decode cc pc = .ok (.return_, 1)) (h1 : k ≤ rm.cells) (h2 : n ≤ rm.slots) (hp : post none ws) : gV X k n ws pc lv [] := by
  obtain ⟨⟨p, l, e, R, s, m, args, below, meth, c, Q⟩, nL', D', tys', A⟩ := X
  obtain ⟨hx, hb, hml, hown, hts, hN, hK, hA, hlks, rfl, rfl, rfl, rfl, hl0, hr, hret⟩ := C
  intro H locs ls hP hD hS hl
  refine W.widen h1 h2 (hret H locs _ _ _ ?_)
  exact W.vret hx hb hr (fun t ht hW => ⟨⟨_, ws, rfl, hp, by rw [ht]; exact hP, hD⟩, hS.F ht⟩) hS.2.2 hdg hlks
theorem gV_aret {nm : String} (C : gC X cc nL own rm (some (.object nm)) D tys post) {r : Option Nat} (hdg : decode cc pc = .ok (.areturn, 1)) (h1 : k ≤ rm.cells) (h2 : n ≤ rm.slots) (hp : post (some (va_rf r)) ws) : gV X k n ws pc lv [va_rf r] := by
  obtain ⟨⟨p, l, e, R, s, m, args, below, meth, c, Q⟩, nL', D', tys', A⟩ := X
  obtain ⟨hx, hb, hml, hown, hts, hN, hK, hA, hlks, rfl, rfl, rfl, rfl, hl0, hr, hret⟩ := C
  intro H locs ls hP hD hS hl
  refine W.widen h1 h2 (hret H locs _ _ _ ?_)
  exact W.aret hx hb hr (Or.inl ⟨_, rfl⟩) (va_rf_or r) (fun t ht hW => ⟨⟨_, ws, rfl, hp, by rw [ht]; exact hP, hD⟩, hS.F ht⟩) hS.2.2 hdg hlks
end GVR
theorem gc_pre {D : va_G} {tys : List (ClassId × FieldType)} {wc wr : va_W} {A : Nat → Prop} {s : State} {H : Heap} {av : List Value} (hP : va_P D vwc (wc ++ wr) H) (hD : va_D A (wc ++ wr)) (hK : va_K D vwc tys s) (hN : ∀ w ∈ pw_nst, va_Nw w s) : PreS s H (va_Pc av (gP D tys wc H.size)) av := by
  refine ⟨gP_blind, fun U hU hW => ⟨rfl, by rw [hU], ?_, va_K.moved hW.alike hK, pw_nst_warm hW hN, ?_⟩⟩
  · rw [hU]
    intro k q hk
    exact hP k q (by rw [List.getElem?_append_left (List.getElem?_eq_some_iff.mp hk).1]; exact hk)
  · refine ⟨fun i j x y hi hj hxy => hD.1 i j x y ?_ ?_ hxy, fun _ _ _ => trivial⟩
    · rw [List.getElem?_append_left (List.getElem?_eq_some_iff.mp hi).1]; exact hi
    · rw [List.getElem?_append_left (List.getElem?_eq_some_iff.mp hj).1]; exact hj
theorem gc_words {s : State} {args : Array Value} (hts : ∀ w ∈ pw_all, w.before args s = true) {w : Cond} (h : w ∈ pw_all) : ∀ u ∈ w :: pw_all, ∀ (a' : Array Value) (U : State), s.WarmedH U.vm → u.before a' U = true := pay_in hts (pw_goodIn (pw_codeIn h))
section GVC
variable {X : gx_T} {cc : ByteArray} {nL : Nat} {own : String} {rm : Room} {rt : Option FieldType} {D : va_G} {tys : List (ClassId × FieldType)} {post : Option Value → va_W → Prop} {k n : Nat} {ws : va_W} {pc : Nat} {lv : List (Nat × Value)} {st : List Value}
variable {y : MethodName} {bytes : ByteArray} {maxL : Nat} {ret : Option FieldType} {np : Nat} {rm' : Room} {wc wr : va_W} {As rest : List Value} {b idx : Nat} {post' : Option Value → va_W → Prop}
/-- behind a call: what came back, beside the rest -/
theorem gc_back {p : Program} {l : Launch} {e : Env} {R : Room} {s : State} {m : MethodId} {args : Array Value} {below : List Frame} {meth : Method} {c : Code} {Q : State → Prop} {A : Nat → Prop} {nL : Nat} {H : Heap} {locs : List Loc} {ls : Array Slot} {mc ms : Nat} {a : Array Value}
    (hr : va_Run p l e R s m args below meth c H locs k n mc ms (F0 m pc ls st) rest (gQ post' D (va_A wc H.size) a) (va_A wc H.size)) (hP : va_P D vwc (wc ++ wr) H) (hD : va_D A (wc ++ wr)) (hS : va_S A s.heap H locs) (hA : ∀ q, s.heap.size ≤ q → A q) (hl : lv_has ls nL lv)
    (kk : ∀ r w, post' r w → gV ((p, l, e, R, s, m, args, below, meth, c, Q), (nL, D, tys, A)) (k + mc) (n + ms) (w ++ wr) (pc + 3) lv (r.toList ++ rest)) : W p l e R s m args below meth c H locs k n Q (F0 m pc ls st) := by
  intro T hT X
  obtain ⟨v, st₀, t, T', L, h0, X', hL, e1, e2, ⟨⟨r, w, hv, hp, hPw, hDw⟩, hz, hk⟩, go⟩ := hr T hT X
  cases hv
  rw [h0] at hz hk
  have hF := gj_free hD hS hA
  obtain ⟨hP2, hD2⟩ := gj_join (w1 := w) hP hD (H1 := T'.heap) (fun q h1 h2 => by rw [e1]; exact hk q h1 h2) hF (by rw [e1]; exact hPw) hDw
  have hS2 : va_S A s.heap T'.heap (locs ++ L) := ⟨Nat.le_trans hS.1 (by rw [e1]; exact hz), fun q h1 h2 => by rw [e1, hk q (Nat.lt_of_lt_of_le h1 hS.1) (fun z => h2 (hF q z))]; exact hS.2.1 q h1 h2, fun q hq => by
      rcases List.mem_append.mp hq with h | h
      · exact hS.2.2 q h
      · exact hF _ (hL q h)⟩
  obtain ⟨t2, a1, b1⟩ := kk v w hp T'.heap (locs ++ L) ls hP2 hD2 hS2 hl T' rfl X'
  exact ⟨t2, go t2 a1, b1⟩
theorem gV_callVr (C : gC X cc nL own rm rt D tys post) (hlk : gl_L own idx y) (hY : gl_Y y bytes maxL ret np) (hV : gl_V y) (hM : gM y bytes maxL ret rm' D tys wc (.ref b :: As) post') (hb0 : ∃ (q0 ci : Nat) (q : vw_C) (fs : List Value), wc[q0]? = some (b, .inr (ci, fs)) ∧ vwc[ci]? = some q ∧ q.1 = y.cls) (hn : As.length = np) (hst : st = As.reverse ++ .ref b :: rest) (hw : ws = wc ++ wr)
    (hR : rm'.frames + 1 ≤ rm.frames ∧ 8 + (maxL + 11) + rm'.locals ≤ rm.locals) (hcat : (rest.map fun v => v.category).sum ≤ 8) (h1 : k + rm'.cells ≤ rm.cells) (h2 : n + rm'.slots ≤ rm.slots) (hdg : decode cc pc = .ok (.invokevirtual idx, 3))
    (kk : ∀ r w, post' r w → gV X (k + rm'.cells) (n + rm'.slots) (w ++ wr) (pc + 3) lv (r.toList ++ rest)) : gV X k n ws pc lv st := by
  subst hw
  obtain ⟨⟨p, l, e, R, s, m, args, below, meth, c, Q⟩, nL', D', tys', A⟩ := X
  obtain ⟨hx, hb, hml, hown, hts, hN, hK, hA, hlks, rfl, rfl, rfl, rfl, hl0, hr, hret⟩ := C
  intro H locs ls hP hD hS hl
  have hpre := gc_pre (av := .ref b :: As) hP hD hK hN
  obtain ⟨q0, ci, q, fs, g1, g2, g3⟩ := hb0
  have hrecv := va_recv hK hP (q0 := q0) (ci := ci) (q := q) (fs := fs) (a := b) g2 (by rw [List.getElem?_append_left (List.getElem?_eq_some_iff.mp g1).1]; exact g1)
  rw [g3] at hrecv
  have hsig : ∀ sig, parseMethodDescriptor y.desc = some sig → np = sig.parameters.length := fun sig h => by
    have h9 := hY.2.2.2.2
    rw [h] at h9
    exact (Option.some.inj h9).symm
  have base := gc_words hts hY.1
  rcases hlk with hlk1 | ⟨host, hlk1⟩
  · exact gc_back (va_runV (C := y.cls) (b := b) (As := As) (rest := rest) ⟨hx, hb, hml, hown, hts⟩ (hM l H.size hl0) ⟨⟨rfl, rfl, hR.1, hR.2, base, List.mem_cons_self, hts _ hY.1, hts _ hY.2.1, ⟨hY.2.2.1, hY.2.2.2.1⟩, hsig, hts _ hlk1⟩, hts _ hV.1, hts _ hV.2⟩ ⟨hpre.1, hrecv, hpre.2⟩ rfl hn hl.1 hst (lv_room hcat) hdg ⟨h1, h2⟩) hP hD hS hA hl kk
  · exact gc_back (va_runVN (C := y.cls) (b := b) (host := host) (As := As) (rest := rest) ⟨hx, hb, hml, hown, hts⟩ (hM l H.size hl0) ⟨⟨⟨rfl, rfl, hR.1, hR.2, base, List.mem_cons_self⟩, hts _ hY.1, hts _ hY.2.1, ⟨hY.2.2.1, hY.2.2.2.1⟩, hsig, va_Nw.use rfl (hN _ hlk1)⟩, hts _ hV.1, hts _ hV.2⟩ ⟨hpre.1, hrecv, hpre.2⟩ rfl hn hl.1 hst (lv_room hcat) hdg ⟨h1, h2⟩) hP hD hS hA hl kk
theorem gV_callSr (C : gC X cc nL own rm rt D tys post) (hlk : gl_L own idx y) (hY : gl_Y y bytes maxL ret np) (hV : gl_S y) (hM : gM y bytes maxL ret rm' D tys wc As post') (hn : As.length = np) (hst : st = As.reverse ++ rest) (hw : ws = wc ++ wr)
    (hR : rm'.frames + 1 ≤ rm.frames ∧ 8 + (maxL + 11) + rm'.locals ≤ rm.locals) (hcat : (rest.map fun v => v.category).sum ≤ 8) (h1 : k + rm'.cells ≤ rm.cells) (h2 : n + rm'.slots ≤ rm.slots) (hdg : decode cc pc = .ok (.invokestatic idx, 3))
    (kk : ∀ r w, post' r w → gV X (k + rm'.cells) (n + rm'.slots) (w ++ wr) (pc + 3) lv (r.toList ++ rest)) : gV X k n ws pc lv st := by
  subst hw
  obtain ⟨⟨p, l, e, R, s, m, args, below, meth, c, Q⟩, nL', D', tys', A⟩ := X
  obtain ⟨hx, hb, hml, hown, hts, hN, hK, hA, hlks, rfl, rfl, rfl, rfl, hl0, hr, hret⟩ := C
  intro H locs ls hP hD hS hl
  have hpre := gc_pre (av := As) hP hD hK hN
  have hsig : ∀ sig, parseMethodDescriptor y.desc = some sig → np = sig.parameters.length := fun sig h => by
    have h9 := hY.2.2.2.2
    rw [h] at h9
    exact (Option.some.inj h9).symm
  have base := gc_words hts hY.1
  rcases hlk with hlk1 | ⟨host, hlk1⟩
  · exact gc_back (va_runS (As := As) (rest := rest) ⟨hx, hb, hml, hown, hts⟩ (hM l H.size hl0) ⟨⟨rfl, rfl, hR.1, hR.2, base, List.mem_cons_self, hts _ hY.1, hts _ hY.2.1, ⟨hY.2.2.1, hY.2.2.2.1⟩, hsig, hts _ hlk1⟩, hts _ hV⟩ hpre rfl hn hl.1 hst (lv_room hcat) hdg ⟨h1, h2⟩) hP hD hS hA hl kk
  · exact gc_back (va_runSN (host := host) (As := As) (rest := rest) ⟨hx, hb, hml, hown, hts⟩ (hM l H.size hl0) ⟨⟨⟨rfl, rfl, hR.1, hR.2, base, List.mem_cons_self⟩, hts _ hY.1, hts _ hY.2.1, ⟨hY.2.2.1, hY.2.2.2.1⟩, hsig, va_Nw.use rfl (hN _ hlk1)⟩, hts _ hV, trivial⟩ hpre rfl hn hl.1 hst (lv_room hcat) hdg ⟨h1, h2⟩) hP hD hS hA hl kk
theorem gV_callIr (C : gC X cc nL own rm rt D tys post) (hlk : gl_L own idx y) (hY : gl_Y y bytes maxL none np) (hV : gl_I y) (hM : gM y bytes maxL none rm' D tys wc (.ref b :: As) post') (hn : As.length = np) (hst : st = As.reverse ++ .ref b :: rest) (hw : ws = wc ++ wr)
    (hR : rm'.frames + 1 ≤ rm.frames ∧ 8 + (maxL + 11) + rm'.locals ≤ rm.locals) (hcat : (rest.map fun v => v.category).sum ≤ 8) (h1 : k + rm'.cells ≤ rm.cells) (h2 : n + rm'.slots ≤ rm.slots) (hdg : decode cc pc = .ok (.invokespecial idx, 3))
    (kk : ∀ r w, post' r w → gV X (k + rm'.cells) (n + rm'.slots) (w ++ wr) (pc + 3) lv (r.toList ++ rest)) : gV X k n ws pc lv st := by
  subst hw
  obtain ⟨⟨p, l, e, R, s, m, args, below, meth, c, Q⟩, nL', D', tys', A⟩ := X
  obtain ⟨hx, hb, hml, hown, hts, hN, hK, hA, hlks, rfl, rfl, rfl, rfl, hl0, hr, hret⟩ := C
  intro H locs ls hP hD hS hl
  have hpre := gc_pre (av := .ref b :: As) hP hD hK hN
  have hsig : ∀ sig, parseMethodDescriptor y.desc = some sig → np = sig.parameters.length := fun sig h => by
    have h9 := hY.2.2.2.2
    rw [h] at h9
    exact (Option.some.inj h9).symm
  have base := gc_words hts hY.1
  rcases hlk with hlk1 | ⟨host, hlk1⟩
  · exact gc_back (va_runI (b := b) (As := As) (rest := rest) ⟨hx, hb, hml, hown, hts⟩ (hM l H.size hl0) ⟨⟨rfl, rfl, hR.1, hR.2, base, List.mem_cons_self, hts _ hY.1, hts _ hY.2.1, ⟨hY.2.2.1, hY.2.2.2.1⟩, hsig, hts _ hlk1⟩, hV.1, hts _ hV.2⟩ hpre rfl hn hl.1 hst (lv_room hcat) hdg ⟨h1, h2⟩) hP hD hS hA hl kk
  · exact gc_back (va_runIN (b := b) (host := host) (As := As) (rest := rest) ⟨hx, hb, hml, hown, hts⟩ (hM l H.size hl0) ⟨⟨⟨rfl, rfl, hR.1, hR.2, base, List.mem_cons_self⟩, hts _ hY.1, hts _ hY.2.1, ⟨hY.2.2.1, hY.2.2.2.1⟩, hsig, va_Nw.use rfl (hN _ hlk1)⟩, hV.1, hts _ hV.2⟩ hpre rfl hn hl.1 hst (lv_room hcat) hdg ⟨h1, h2⟩) hP hD hS hA hl kk
/-- the whole world is the callee's -/
theorem gV_callV (C : gC X cc nL own rm rt D tys post) (hlk : gl_L own idx y) (hY : gl_Y y bytes maxL ret np) (hV : gl_V y) (hM : gM y bytes maxL ret rm' D tys ws (.ref b :: As) post') (hb0 : ∃ (q0 ci : Nat) (q : vw_C) (fs : List Value), ws[q0]? = some (b, .inr (ci, fs)) ∧ vwc[ci]? = some q ∧ q.1 = y.cls) (hn : As.length = np) (hst : st = As.reverse ++ .ref b :: rest)
    (hR : rm'.frames + 1 ≤ rm.frames ∧ 8 + (maxL + 11) + rm'.locals ≤ rm.locals) (hcat : (rest.map fun v => v.category).sum ≤ 8) (h1 : k + rm'.cells ≤ rm.cells) (h2 : n + rm'.slots ≤ rm.slots) (hdg : decode cc pc = .ok (.invokevirtual idx, 3))
    (kk : ∀ r w, post' r w → gV X (k + rm'.cells) (n + rm'.slots) w (pc + 3) lv (r.toList ++ rest)) : gV X k n ws pc lv st :=
  gV_callVr C hlk hY hV hM hb0 hn hst (List.append_nil ws).symm hR hcat h1 h2 hdg (fun r w h => gV_ws (List.append_nil w) (kk r w h))
theorem gV_callS (C : gC X cc nL own rm rt D tys post) (hlk : gl_L own idx y) (hY : gl_Y y bytes maxL ret np) (hV : gl_S y) (hM : gM y bytes maxL ret rm' D tys ws As post') (hn : As.length = np) (hst : st = As.reverse ++ rest)
    (hR : rm'.frames + 1 ≤ rm.frames ∧ 8 + (maxL + 11) + rm'.locals ≤ rm.locals) (hcat : (rest.map fun v => v.category).sum ≤ 8) (h1 : k + rm'.cells ≤ rm.cells) (h2 : n + rm'.slots ≤ rm.slots) (hdg : decode cc pc = .ok (.invokestatic idx, 3))
    (kk : ∀ r w, post' r w → gV X (k + rm'.cells) (n + rm'.slots) w (pc + 3) lv (r.toList ++ rest)) : gV X k n ws pc lv st :=
  gV_callSr C hlk hY hV hM hn hst (List.append_nil ws).symm hR hcat h1 h2 hdg (fun r w h => gV_ws (List.append_nil w) (kk r w h))
theorem gV_callI (C : gC X cc nL own rm rt D tys post) (hlk : gl_L own idx y) (hY : gl_Y y bytes maxL none np) (hV : gl_I y) (hM : gM y bytes maxL none rm' D tys ws (.ref b :: As) post') (hn : As.length = np) (hst : st = As.reverse ++ .ref b :: rest)
    (hR : rm'.frames + 1 ≤ rm.frames ∧ 8 + (maxL + 11) + rm'.locals ≤ rm.locals) (hcat : (rest.map fun v => v.category).sum ≤ 8) (h1 : k + rm'.cells ≤ rm.cells) (h2 : n + rm'.slots ≤ rm.slots) (hdg : decode cc pc = .ok (.invokespecial idx, 3))
    (kk : ∀ r w, post' r w → gV X (k + rm'.cells) (n + rm'.slots) w (pc + 3) lv (r.toList ++ rest)) : gV X k n ws pc lv st :=
  gV_callIr C hlk hY hV hM hn hst (List.append_nil ws).symm hR hcat h1 h2 hdg (fun r w h => gV_ws (List.append_nil w) (kk r w h))
/-- Object's constructor -/
theorem gV_objInit (C : gC X cc nL own rm rt D tys post) (hlk : Cond.methodLink own idx Lib.objectInit ∈ pw_all) (hi : Cond.instanceMethod Lib.objectInit ∈ pw_all) (hc : Cond.code Lib.objectInit ⟨#[0xb1]⟩ 1 none ∈ pw_all) {a : Nat} (hcat : (rest.map fun v => v.category).sum + 12 ≤ rm.locals) (hf : 1 ≤ rm.frames) (hdg : decode cc pc = .ok (.invokespecial idx, 3))
    (kk : gV X k n ws (pc + 3) lv rest) : gV X k n ws pc lv (.ref a :: rest) := by
  obtain ⟨⟨p, l, e, R, s, m, args, below, meth, c, Q⟩, nL', D', tys', A⟩ := X
  obtain ⟨hx, hb, hml, hown, hts, hN, hK, hA, hlks, rfl, rfl, rfl, rfl, hl0, hr, hret⟩ := C
  intro H locs ls hP hD hS hl
  refine W.objInit hx hb hown (hts _ hlk) (hts _ hi) (hts _ hc) rfl (by rw [hml]; exact hl.1) rfl hdg hf ?_ ?_
  · show 2 * JFrame.monitorRoom _ + _ + 12 ≤ _
    have h9 : JFrame.monitorRoom (F0 m pc ls (.ref a :: rest)) = 0 := rfl
    omega
  · exact kk H locs ls hP hD hS hl
end GVC
