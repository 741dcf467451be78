section GHR
variable {X : gx_T} {cc : ByteArray} {nL : Nat} {own : String} {rm : Room} {rt : Option FieldType} {D : va_G} {tys : List (ClassId × FieldType)} {post : Option Value → va_W → Prop} {k n : Nat} {ws : va_W} {pc : Nat} {lv : List (Nat × Value)} {st : List Value} {idx : Nat}
theorem gV_get (C : gC X cc nL own rm rt D tys post) {Cn : String} {T : u_T} {N : Nat} (hfl : ∀ w ∈ u_ws Cn T N, w ∈ pw_all) (q0 ci j : Nat) {a : Nat} {fs : List Value} {v : Value} (hf : gl_F own idx (T j).1 (T j).2.1 (T j).2.2.1) (he : ws[q0]? = some (a, .inr (ci, fs))) (hc : vwc[ci]? = some (Cn, T, N)) (hj : j < N) (hv : fs[j]? = some v) (hdg : decode cc pc = .ok (.getfield idx, 3))
    (kk : gV X k n ws (pc + 3) lv (v :: st)) : gV X k n ws pc lv (.ref a :: st) := by
  obtain ⟨⟨p, l, e, R, s, m, args, below, meth, c, Q⟩, nL', D', tys', A⟩ := X
  obtain ⟨hx, hb, hml, hown, hts, hN, hK, hA, hlks, rfl, rfl, rfl, rfl, hl0, hr, hret⟩ := C
  intro H locs ls hP hD hS hl
  rcases hf with hf | ⟨host, hf⟩
  · exact va_get hx hb hts hfl hown hK hP q0 he hc j hj (hts _ hf) (fun _ h => h) hv hdg (kk H locs ls hP hD hS hl)
  · exact va_getN (host := host) hx hb hts hfl hown hK hP q0 he hc j hj (va_Nw.use rfl (hN _ hf)) (fun _ h => h) hv hdg (kk H locs ls hP hD hS hl)
theorem gV_put (C : gC X cc nL own rm rt D tys post) {Cn : String} {T : u_T} {N : Nat} (hfl : ∀ w ∈ u_ws Cn T N, w ∈ pw_all) (ty0 : Nat → FieldType) (hty : ∀ k, k < N → parseFieldDescriptor (T k).2.2.1 = some (ty0 k)) (hnm : ∀ a, a < N → ∀ b, b < N → a ≠ b → (T a).2.1 ≠ (T b).2.1) (q0 ci j : Nat) {a : Nat} {fs : List Value} {v : Value} (hf : gl_F own idx (T j).1 (T j).2.1 (T j).2.2.1) (he : ws[q0]? = some (a, .inr (ci, fs))) (hc : vwc[ci]? = some (Cn, T, N)) (hj : j < N) (hfin : (T j).2.2.2 = false) {ty : FieldType} (hd : parseFieldDescriptor (T j).2.2.1 = some ty) (hn : narrow ty v = v) (hfit : fits ty v = true) (hl0 : j < fs.length) (hdg : decode cc pc = .ok (.putfield idx, 3))
    (kk : gV X k n (ws.set q0 (a, .inr (ci, fs.set j v))) (pc + 3) lv st) : gV X k n ws pc lv (v :: .ref a :: st) := by
  obtain ⟨⟨p, l, e, R, s, m, args, below, meth, c, Q⟩, nL', D', tys', A⟩ := X
  obtain ⟨hx, hb, hml, hown, hts, hN, hK, hA, hlks, rfl, rfl, rfl, rfl, hl0, hr, hret⟩ := C
  intro H locs ls hP hD hS hl
  rcases hf with hf | ⟨host, hf⟩
  · exact va_put hx hb hts hfl ty0 hty hnm hown hK hP hD hS q0 he hc j hj (hts _ hf) (fun _ h => h) hfin hd hn hfit ‹_› hdg (fun H1 locs1 hP1 hD1 hS1 => kk H1 locs1 ls hP1 hD1 hS1 hl)
  · exact va_putN (host := host) hx hb hts hfl ty0 hty hnm hown hK hP hD hS q0 he hc j hj (va_Nw.use rfl (hN _ hf)) (fun _ h => h) hfin hd hn hfit ‹_› hdg (fun H1 locs1 hP1 hD1 hS1 => kk H1 locs1 ls hP1 hD1 hS1 hl)
theorem gV_putF (C : gC X cc nL own rm rt D tys post) (hin : match X with | ((_, _, _, _, _, _, _, _, meth, _, _), _) => meth.name = "<init>") {T : u_T} {N : Nat} (hfl : ∀ w ∈ u_ws own T N, w ∈ pw_all) (ty0 : Nat → FieldType) (hty : ∀ k, k < N → parseFieldDescriptor (T k).2.2.1 = some (ty0 k)) (hnm : ∀ a, a < N → ∀ b, b < N → a ≠ b → (T a).2.1 ≠ (T b).2.1) (q0 ci j : Nat) {a : Nat} {fs : List Value} {v : Value} (hf : Cond.fieldLink own idx (T j).1 (T j).2.1 (T j).2.2.1 ∈ pw_all) (he : ws[q0]? = some (a, .inr (ci, fs))) (hc : vwc[ci]? = some (own, T, N)) (hj : j < N) (hfin : (T j).2.2.2 = true) (hdecl : (T j).1 = own) {ty : FieldType} (hd : parseFieldDescriptor (T j).2.2.1 = some ty) (hn : narrow ty v = v) (hfit : fits ty v = true) (hl0 : j < fs.length) (hdg : decode cc pc = .ok (.putfield idx, 3))
    (kk : gV X k n (ws.set q0 (a, .inr (ci, fs.set j v))) (pc + 3) lv st) : gV X k n ws pc lv (v :: .ref a :: st) := by
  obtain ⟨⟨p, l, e, R, s, m, args, below, meth, c, Q⟩, nL', D', tys', A⟩ := X
  obtain ⟨hx, hb, hml, hown, hts, hN, hK, hA, hlks, rfl, rfl, rfl, rfl, hl0, hr, hret⟩ := C
  intro H locs ls hP hD hS hl
  exact va_putF hx hb hts hfl ty0 hty hnm hown hK hP hD hS q0 he hc j hj (hts _ hf) (fun _ h => h) hfin hin hdecl hd hn hfit ‹_› hdg (fun H1 locs1 hP1 hD1 hS1 => kk H1 locs1 ls hP1 hD1 hS1 hl)
theorem gV_iald (C : gC X cc nL own rm rt D tys post) (q0 t0 : Nat) {a : Nat} {cA : ClassId} {N : Nat} {f : Nat → Int32} (ha : ws[q0]? = some (a, .inl (cA, N, .inl f))) (ht : tys[t0]? = some (cA, .int)) {i : Int32} (hin : vp_in i N) (hdg : decode cc pc = .ok (.iaload, 1)) (kk : gV X k n ws (pc + 1) lv (.int (f i.toNatClampNeg) :: st)) : gV X k n ws pc lv (.int i :: .ref a :: st) := by
  obtain ⟨⟨p, l, e, R, s, m, args, below, meth, c, Q⟩, nL', D', tys', A⟩ := X
  obtain ⟨hx, hb, hml, hown, hts, hN, hK, hA, hlks, rfl, rfl, rfl, rfl, hl0, hr, hret⟩ := C
  intro H locs ls hP hD hS hl
  exact va_iald hx hb hK hP q0 t0 ha ht hin hdg (kk H locs ls hP hD hS hl)
theorem gV_zald (C : gC X cc nL own rm rt D tys post) (q0 t0 : Nat) {a : Nat} {cA : ClassId} {N : Nat} {f : Nat → Int32} (ha : ws[q0]? = some (a, .inl (cA, N, .inl f))) (ht : tys[t0]? = some (cA, .boolean)) {i : Int32} (hin : vp_in i N) (hdg : decode cc pc = .ok (.baload, 1)) (kk : gV X k n ws (pc + 1) lv (.int (f i.toNatClampNeg) :: st)) : gV X k n ws pc lv (.int i :: .ref a :: st) := by
  obtain ⟨⟨p, l, e, R, s, m, args, below, meth, c, Q⟩, nL', D', tys', A⟩ := X
  obtain ⟨hx, hb, hml, hown, hts, hN, hK, hA, hlks, rfl, rfl, rfl, rfl, hl0, hr, hret⟩ := C
  intro H locs ls hP hD hS hl
  exact va_zald hx hb hK hP q0 t0 ha ht hin hdg (kk H locs ls hP hD hS hl)
theorem gV_aldq (C : gC X cc nL own rm rt D tys post) (q0 t0 : Nat) {a : Nat} {cA : ClassId} {Cn : String} {N : Nat} {f : Nat → Option Nat} (ha : ws[q0]? = some (a, .inl (cA, N, .inr (.inr (.inr (.inr f)))))) (ht : tys[t0]? = some (cA, .object Cn)) {i : Int32} (hin : vp_in i N) (hdg : decode cc pc = .ok (.aaload, 1)) (kk : gV X k n ws (pc + 1) lv (va_rf (f i.toNatClampNeg) :: st)) : gV X k n ws pc lv (.int i :: .ref a :: st) := by
  obtain ⟨⟨p, l, e, R, s, m, args, below, meth, c, Q⟩, nL', D', tys', A⟩ := X
  obtain ⟨hx, hb, hml, hown, hts, hN, hK, hA, hlks, rfl, rfl, rfl, rfl, hl0, hr, hret⟩ := C
  intro H locs ls hP hD hS hl
  exact va_aldq hx hb hK hP q0 t0 ha ht hin hdg (kk H locs ls hP hD hS hl)
theorem gV_iast (C : gC X cc nL own rm rt D tys post) (q0 t0 : Nat) {a : Nat} {cA : ClassId} {N : Nat} {f : Nat → Int32} (ha : ws[q0]? = some (a, .inl (cA, N, .inl f))) (ht : tys[t0]? = some (cA, .int)) {i x : Int32} (hin : vp_in i N) (hdg : decode cc pc = .ok (.iastore, 1)) (kk : gV X k n (ws.set q0 (a, .inl (cA, N, .inl (va_up f i.toNatClampNeg x)))) (pc + 1) lv st) : gV X k n ws pc lv (.int x :: .int i :: .ref a :: st) := by
  obtain ⟨⟨p, l, e, R, s, m, args, below, meth, c, Q⟩, nL', D', tys', A⟩ := X
  obtain ⟨hx, hb, hml, hown, hts, hN, hK, hA, hlks, rfl, rfl, rfl, rfl, hl0, hr, hret⟩ := C
  intro H locs ls hP hD hS hl
  exact va_iast hx hb hK hP hD hS q0 t0 ha ht hin hdg (fun H1 locs1 hP1 hD1 hS1 => kk H1 locs1 ls hP1 hD1 hS1 hl)
theorem gV_zast (C : gC X cc nL own rm rt D tys post) (q0 t0 : Nat) {a : Nat} {cA : ClassId} {N : Nat} {f : Nat → Int32} (ha : ws[q0]? = some (a, .inl (cA, N, .inl f))) (ht : tys[t0]? = some (cA, .boolean)) {i x : Int32} (hin : vp_in i N) (hx9 : x = 0 ∨ x = 1) (hdg : decode cc pc = .ok (.bastore, 1)) (kk : gV X k n (ws.set q0 (a, .inl (cA, N, .inl (va_up f i.toNatClampNeg x)))) (pc + 1) lv st) : gV X k n ws pc lv (.int x :: .int i :: .ref a :: st) := by
  obtain ⟨⟨p, l, e, R, s, m, args, below, meth, c, Q⟩, nL', D', tys', A⟩ := X
  obtain ⟨hx, hb, hml, hown, hts, hN, hK, hA, hlks, rfl, rfl, rfl, rfl, hl0, hr, hret⟩ := C
  intro H locs ls hP hD hS hl
  have h9 : vp_nar .boolean x = x := by rcases hx9 with rfl | rfl <;> rfl
  exact va_zast hx hb hK hP hD hS q0 t0 ha ht hin hdg (fun H1 locs1 hP1 hD1 hS1 => by rw [h9] at hP1 hD1; exact kk H1 locs1 ls hP1 hD1 hS1 hl)
theorem gV_astqN (C : gC X cc nL own rm rt D tys post) (q0 t0 : Nat) {a : Nat} {cA : ClassId} {Cn : String} {N : Nat} {f : Nat → Option Nat} (ha : ws[q0]? = some (a, .inl (cA, N, .inr (.inr (.inr (.inr f)))))) (ht : tys[t0]? = some (cA, .object Cn)) {i : Int32} (hin : vp_in i N) (hdg : decode cc pc = .ok (.aastore, 1)) (kk : gV X k n (ws.set q0 (a, .inl (cA, N, .inr (.inr (.inr (.inr (va_up f i.toNatClampNeg none))))))) (pc + 1) lv st) : gV X k n ws pc lv (.null :: .int i :: .ref a :: st) := by
  obtain ⟨⟨p, l, e, R, s, m, args, below, meth, c, Q⟩, nL', D', tys', A⟩ := X
  obtain ⟨hx, hb, hml, hown, hts, hN, hK, hA, hlks, rfl, rfl, rfl, rfl, hl0, hr, hret⟩ := C
  intro H locs ls hP hD hS hl
  exact va_astqN hx hb hK hP hD hS q0 t0 ha ht hin hdg (fun H1 locs1 hP1 hD1 hS1 => kk H1 locs1 ls hP1 hD1 hS1 hl)
theorem gV_astqS (C : gC X cc nL own rm rt D tys post) (q0 t0 qk ci : Nat) {a : Nat} {cA : ClassId} {r : vw_C} {N v : Nat} {vs : List Value} {f : Nat → Option Nat} (ha : ws[q0]? = some (a, .inl (cA, N, .inr (.inr (.inr (.inr f)))))) (ht : tys[t0]? = some (cA, .object r.1)) (hv : ws[qk]? = some (v, .inr (ci, vs))) (hc : vwc[ci]? = some r) {i : Int32} (hin : vp_in i N) (hdg : decode cc pc = .ok (.aastore, 1)) (kk : gV X k n (ws.set q0 (a, .inl (cA, N, .inr (.inr (.inr (.inr (va_up f i.toNatClampNeg (some v)))))))) (pc + 1) lv st) : gV X k n ws pc lv (.ref v :: .int i :: .ref a :: st) := by
  obtain ⟨⟨p, l, e, R, s, m, args, below, meth, c, Q⟩, nL', D', tys', A⟩ := X
  obtain ⟨hx, hb, hml, hown, hts, hN, hK, hA, hlks, rfl, rfl, rfl, rfl, hl0, hr, hret⟩ := C
  intro H locs ls hP hD hS hl
  exact va_astq hx hb hK hP hD hS q0 t0 qk ci ha ht hv hc hin hdg (fun H1 locs1 hP1 hD1 hS1 => kk H1 locs1 ls hP1 hD1 hS1 hl)
theorem gV_alen (C : gC X cc nL own rm rt D tys post) (q0 t0 : Nat) {a : Nat} {cA : ClassId} {x : vp_A} (ha : ws[q0]? = some (a, .inl (cA, x))) {ty : FieldType} (ht : tys[t0]? = some (cA, ty)) (hdg : decode cc pc = .ok (.arraylength, 1)) (kk : gV X k n ws (pc + 1) lv (.int (nI x.1) :: st)) : gV X k n ws pc lv (.ref a :: st) := by
  obtain ⟨⟨p, l, e, R, s, m, args, below, meth, c, Q⟩, nL', D', tys', A⟩ := X
  obtain ⟨hx, hb, hml, hown, hts, hN, hK, hA, hlks, rfl, rfl, rfl, rfl, hl0, hr, hret⟩ := C
  intro H locs ls hP hD hS hl
  exact va_alen hx hb hK hP q0 t0 ha ht rfl hdg (kk H locs ls hP hD hS hl)
theorem gV_new (C : gC X cc nL own rm rt D tys post) {Cn : String} {T : u_T} {N : Nat} (hfl : ∀ w ∈ u_ws Cn T N, w ∈ pw_all) (ty : Nat → FieldType) (hty : ∀ k, k < N → parseFieldDescriptor (T k).2.2.1 = some (ty k)) (hcl : Cond.classLink own idx Cn ∈ pw_all) (hinst : Cond.instantiable Cn N ∈ pw_all) (hini : Cond.initialized Cn ∈ pw_all) (ci : Nat) (hc : vwc[ci]? = some (Cn, T, N)) {fs : List Value} (hfs : ∀ j, j < N → defaultValue (ty j) = vp_V fs j) (hcells : k + 1 ≤ rm.cells) (hslots : n + N ≤ rm.slots) (hdg : decode cc pc = .ok (.new idx, 3))
    (kk : ∀ q : Nat, (∀ (j : Nat) (x : Nat × va_E), ws[j]? = some x → x.1 ≠ q) → gV X (k + 1) (n + N) (ws ++ [(q, .inr (ci, fs))]) (pc + 3) lv (.ref q :: st)) : gV X k n ws pc lv st := by
  obtain ⟨⟨p, l, e, R, s, m, args, below, meth, c, Q⟩, nL', D', tys', A⟩ := X
  obtain ⟨hx, hb, hml, hown, hts, hN, hK, hA, hlks, rfl, rfl, rfl, rfl, hl0, hr, hret⟩ := C
  intro H locs ls hP hD hS hl
  refine va_new (c0 := c) (ci := ci) (fs := fs) hx hb hts hfl ty hty hown (hts _ hcl) (hts _ hinst) (hts _ hini) hK hP hD hS hA hc hfs hcells hslots hdg (fun q H1 hP1 hD1 hS1 => kk q (fun j x hj he => ?_) H1 locs ls hP1 hD1 hS1 hl)
  have hl1 : j < ws.length := (List.getElem?_eq_some_iff.mp hj).1
  have e1 := hD1.1 j ws.length x (q, .inr (ci, fs)) (by rw [List.getElem?_append_left hl1]; exact hj) (by rw [List.getElem?_append_right (Nat.le_refl _), Nat.sub_self]; rfl) he
  omega
end GHR
