/-- the law's world: the class, the cell for a long, the reference -/
def lw_o (ct : Nat → ClassId) (w0 : Nat) (f : Nat → Int64) : va_W := [(w0, .inl (ct 3, 1, .inr (.inl f)))]
def lwW (ad : Nat → Nat) (ct : Nat → ClassId) (F S : Nat) (σ : ph_S) (w0 : Nat) (f : Nat → Int64) (o : Nat → Nat) (μ : pm_S) : va_W := (cw ad ct F S σ ++ lw_o ct w0 f) ++ mw o ct μ
section LAWK
variable {X : gx_T} {cc : ByteArray} {nL : Nat} {own : String} {rm : Room} {rt : Option FieldType} {D : va_G} {post : Option Value → va_W → Prop} {k n : Nat} {pc : Nat} {lv : List (Nat × Value)} {st : List Value}
variable {y : MethodName} {bytes : ByteArray} {maxL : Nat} {ret : Option FieldType} {np : Nat} {rm' : Room} {As rest : List Value} {idx : Nat}
variable {ad o : Nat → Nat} {ct : Nat → ClassId} {F S w0 : Nat} {σ : ph_S} {μ : pm_S} {f : Nat → Int64}
theorem gL_cv (C : gC X cc nL own rm rt D (gt ct) post) (hlk : gl_L own idx y) (hY : gl_Y y bytes maxL ret np) (hV : gl_V y) {r : Int32} {σ' : ph_S} (hM : gM y bytes maxL ret rm' D (gt ct) (cw ad ct F S σ) (.ref (ad 0) :: As) (fun v w => v = some (.int r) ∧ w = cw ad ct F S σ')) (hc : RX2 = y.cls) (hn : As.length = np) (hst : st = As.reverse ++ .ref (ad 0) :: rest)
    (hR : rm'.frames + 1 ≤ rm.frames ∧ 8 + (maxL + 11) + rm'.locals ≤ rm.locals) (hcat : (rest.map fun v => v.category).sum ≤ 8) (h1 : k + rm'.cells ≤ rm.cells) (h2 : n + rm'.slots ≤ rm.slots) (hdg : decode cc pc = .ok (.invokevirtual idx, 3))
    (kk : gV X (k + rm'.cells) (n + rm'.slots) (lwW ad ct F S σ' w0 f o μ) (pc + 3) lv (.int r :: rest)) : gV X k n (lwW ad ct F S σ w0 f o μ) pc lv st :=
  gV_callVr C hlk hY hV hM ⟨0, 2, _, _, rfl, rfl, hc⟩ hn hst (List.append_assoc _ _ _) hR hcat h1 h2 hdg (fun v w h => by
    obtain ⟨rfl, rfl⟩ := h
    exact gV_ws (List.append_assoc _ _ _).symm kk)
theorem gL_mv (C : gC X cc nL own rm rt D (gt ct) post) (hlk : gl_L own idx y) (hY : gl_Y y bytes maxL ret np) (hV : gl_V y) {r : Int32} {μ' : pm_S} (hM : gM y bytes maxL ret rm' D (gt ct) (mw o ct μ) (.ref (o 0) :: As) (fun v w => v = some (.int r) ∧ w = mw o ct μ')) (hc : RX3 = y.cls) (hn : As.length = np) (hst : st = As.reverse ++ .ref (o 0) :: rest)
    (hR : rm'.frames + 1 ≤ rm.frames ∧ 8 + (maxL + 11) + rm'.locals ≤ rm.locals) (hcat : (rest.map fun v => v.category).sum ≤ 8) (h1 : k + rm'.cells ≤ rm.cells) (h2 : n + rm'.slots ≤ rm.slots) (hdg : decode cc pc = .ok (.invokevirtual idx, 3))
    (kk : gV X (k + rm'.cells) (n + rm'.slots) (lwW ad ct F S σ w0 f o μ') (pc + 3) lv (.int r :: rest)) : gV X k n (lwW ad ct F S σ w0 f o μ) pc lv st :=
  gV_swap (gV_callVr C hlk hY hV hM ⟨0, 3, _, _, rfl, rfl, hc⟩ hn hst rfl hR hcat h1 h2 hdg (fun v w h => by
    obtain ⟨rfl, rfl⟩ := h
    exact gV_swap kk))
theorem gL_sh {hh : List (Nat × Nat × Nat × Nat)} (C : gC X cc nL own rm rt D (gt ct) post) (CH : gCH X) (hlk : Cond.methodLink own idx y ∈ pw_all) (hcode : Cond.codeWith y bytes maxL ret hh ∈ pw_all) (hini : Cond.initialized y.cls ∈ pw_all) (hd : y.cls ≠ "java/lang/invoke/MethodHandle" ∧ y.cls ≠ "java/lang/invoke/VarHandle" ∧ (parseMethodDescriptor y.desc).map (fun d => d.parameters.length) = some np) (hV : gl_S y) {Pq : Int32 → ph_S → (Nat → Int64) → Prop}
    (hM : gMH y bytes maxL ret hh rm' D (gt ct) (cw ad ct F S σ ++ lw_o ct w0 f) As (fun v w => ∃ t σ' f', v = some (.int t) ∧ w = cw ad ct F S σ' ++ lw_o ct w0 f' ∧ Pq t σ' f')) (hn : As.length = np) (hst : st = As.reverse ++ rest)
    (hR : rm'.frames + 1 ≤ rm.frames ∧ 8 + (maxL + 11) + rm'.locals ≤ rm.locals) (hcat : (rest.map fun v => v.category).sum ≤ 8) (h1 : k + rm'.cells ≤ rm.cells) (h2 : n + rm'.slots ≤ rm.slots) (hdg : decode cc pc = .ok (.invokestatic idx, 3))
    (kk : ∀ t σ' f', Pq t σ' f' → gV X (k + rm'.cells) (n + rm'.slots) (lwW ad ct F S σ' w0 f' o μ) (pc + 3) lv (.int t :: rest)) : gV X k n (lwW ad ct F S σ w0 f o μ) pc lv st :=
  gV_callSH C CH hlk hcode hini hd hV hM hn hst rfl hR hcat h1 h2 hdg (fun v w h => by
    obtain ⟨t, σ', f', rfl, rfl, hp⟩ := h
    exact kk t σ' f' hp)
theorem gL_ld (C : gC X cc nL own rm rt D (gt ct) post) (hdg : decode cc pc = .ok (.laload, 1)) (kk : gV X k n (lwW ad ct F S σ w0 f o μ) (pc + 1) lv (.long (f 0) :: st)) : gV X k n (lwW ad ct F S σ w0 f o μ) pc lv (.int 0 :: .ref w0 :: st) := by
  refine gV_ws (ws' := cw ad ct F S σ ++ (lw_o ct w0 f ++ mw o ct μ)) (List.append_assoc _ _ _) (gV_swap ?_)
  refine gV_lald C 0 3 rfl rfl (vp_in_nI (n := 0) (N := 1) (by decide) (by decide)) hdg ?_
  refine gV_swap (gV_ws (List.append_assoc _ _ _).symm ?_)
  exact kk
end LAWK
abbrev rm_L_cell : Room := { frames := 0, cells := 0, slots := 0, locals := 0 }
set_option maxHeartbeats 4000000 in
set_option maxRecDepth 100000 in
/-- cell(script, k) -/
theorem e_cell {D : va_G} {ct : Nat → ClassId} {b L : Nat} {xs : Nat → Int32} (i : Nat) (hi : i < 2) (hL : L < 2 ^ 31) : gMS b L xs yL_cell cL_cell 2 (some .int) rm_L_cell D (gt ct) [.ref b, .int (nI i)] (fun v w => v = some (.int (if L ≤ i then 0 else xs i)) ∧ w = []) := by
  refine gMS_in RL rfl (by decide) (Nat.le_of_ble_eq_true rfl) (fun X C CS => ?_)
  refine gV_iload_n (pc := 0) C dL_cell_0 1 rfl rfl ?_
  refine gV_aload_n (pc := 1) (x := b) C dL_cell_1 0 rfl rfl ?_
  refine gV_slen (pc := 2) C CS dL_cell_2 ?_
  refine gV_icmp_ge (pc := 3) C 12 dL_cell_3 (by decide) (fun c_1 => ?_) (fun c_1 => ?_)
  · refine gV_iconst (pc := 12) (v := 0) C dL_cell_12 (by decide) ?_
    refine gV_iret (pc := 13) C dL_cell_13 (by decide) (by decide) ?_
    exact ⟨by rw [if_pos ((nI_leI hL (by omega)).mp c_1)], rfl⟩
  · have hlt : i < L := Nat.lt_of_not_le fun z => c_1 (nI_le z (by omega))
    refine gV_aload_n (pc := 6) (x := b) C dL_cell_6 0 rfl rfl ?_
    refine gV_iload_n (pc := 7) C dL_cell_7 1 rfl rfl ?_
    refine gV_sld (pc := 8) C CS (vp_in_nI hlt hL) dL_cell_8 ?_
    rw [nI_clamp (by omega)]
    refine gV_goto (pc := 9) C 13 dL_cell_9 (by decide) ?_
    refine gV_iret (pc := 13) C dL_cell_13 (by decide) (by decide) ?_
    exact ⟨by rw [if_neg (by omega)], rfl⟩
def lp_read (F S : Nat) (σ : ph_S) (p a : Int32) (t : Int32) (σ' : ph_S) (f' : Nat → Int64) : Prop := (ph_rdT F S σ p a = 0 ∧ t = 0 ∧ σ' = ph_rdW F S (ph_acc σ) (ph_bo σ p a) ∧ f' 0 = (ph_rdV F S (ph_acc σ) (ph_bo σ p a) a).toInt64) ∨ (¬ ph_rdT F S σ p a = 0 ∧ t = nI (ph_rdT F S σ p a) ∧ σ' = σ)
def lp_write (F S : Nat) (σ : ph_S) (p a v : Int32) (t : Int32) (σ' : ph_S) (f' : Nat → Int64) : Prop := (ph_wrT F S σ p a = 0 ∧ t = 0 ∧ (∃ b σ2, ph_own F S (ph_acc σ) (ph_bo σ p a) (a / 16) b σ2 ∧ σ' = ph_wr2 σ2 b (p * 32 + a / 16).toNatClampNeg a v) ∧ f' 0 = (ph_tw σ (ph_bo σ p a)).toInt64) ∨ (¬ ph_wrT F S σ p a = 0 ∧ t = nI (ph_wrT F S σ p a) ∧ σ' = σ)
def lp_stored (S : Nat) (σ : ph_S) (s i : Int32) (t : Int32) (σ' : ph_S) (f' : Nat → Int64) : Prop := σ' = σ ∧ ((ph_sdT S s i = 0 ∧ t = 0 ∧ f' 0 = (ph_sdV σ s i).toInt64) ∨ (¬ ph_sdT S s i = 0 ∧ t = nI (ph_sdT S s i)))
abbrev rm_L_read : Room := { frames := 9, cells := 2, slots := 12, locals := 172 }
set_option maxHeartbeats 4000000 in
set_option maxRecDepth 100000 in
/-- read, with what it catches -/
theorem e_read {D : va_G} {ad : Nat → Nat} {ct : Nat → ClassId} {F S w0 : Nat} {σ : ph_S} {f : Nat → Int64} (p a : Int32) (hok : ph_ok F S σ) : gMH yL_read cL_read 5 (some .int) [(0, 10, 13, 13), (0, 10, 17, 15)] rm_L_read D (gt ct) (cw ad ct F S σ ++ lw_o ct w0 f) [.ref (ad 0), .int p, .int a, .ref w0] (fun r9 w9 => ∃ t σ' f', r9 = some (.int t) ∧ w9 = cw ad ct F S σ' ++ lw_o ct w0 f' ∧ lp_read F S σ p a t σ' f') := by
  refine gMH_in RL rfl (by decide) (Nat.le_of_ble_eq_true rfl) (fun X C CH CT => ?_)
  refine gV_aload_n (pc := 0) (x := w0) C dL_read_0 3 rfl rfl ?_
  refine gV_iconst (pc := 1) (v := 0) C dL_read_1 (by decide) ?_
  refine gV_aload_n (pc := 2) (x := ad 0) C dL_read_2 0 rfl rfl ?_
  refine gV_iload_n (pc := 3) C dL_read_3 1 rfl rfl ?_
  refine gV_iload_n (pc := 4) C dL_read_4 2 rfl rfl ?_
  refine gV_callVC (pc := 5) (As := [.int p, .int a]) (rest := [.int 0, .ref w0]) C CH CT (pw_t 197 (by decide +kernel) rfl) gy_X2_read gv_X2_read (c_read p a hok) ⟨0, 2, _, _, rfl, rfl, rfl⟩ rfl rfl rfl ⟨by decide, by decide⟩ (Nat.le_of_ble_eq_true rfl) (by decide) (by decide) dL_read_5 ?_ ?_
  · rintro E w ⟨rfl, ⟨hT, rfl⟩ | ⟨hT, rfl⟩⟩
    · refine ⟨13, ⟨[], _, _, _, rfl, fun z hz => absurd hz List.not_mem_nil, by decide, by decide, cl_L_13, ca_iob, rfl⟩, fun q => ?_⟩
      refine gV_astore (pc := 13) (x := q) (lv' := [(4, .ref q), (0, .ref (ad 0)), (1, .int p), (2, .int a), (3, .ref w0)]) C dL_read_13 (by decide) rfl ?_
      refine gV_iconst (pc := 15) (v := 1) C dL_read_15 (by decide) ?_
      refine gV_iret (pc := 16) C dL_read_16 (by decide) (by decide) ?_
      exact ⟨_, _, _, rfl, rfl, Or.inr ⟨by rw [hT]; decide, by rw [hT]; rfl, rfl⟩⟩
    · refine ⟨17, ⟨[_], _, [], _, rfl, fun z hz => by rw [List.mem_singleton.mp hz]; exact ⟨by decide, cl_L_13, rfl⟩, by decide, by decide, cl_L_15, ca_ise, rfl⟩, fun q => ?_⟩
      refine gV_astore (pc := 17) (x := q) (lv' := [(4, .ref q), (0, .ref (ad 0)), (1, .int p), (2, .int a), (3, .ref w0)]) C dL_read_17 (by decide) rfl ?_
      refine gV_iconst (pc := 19) (v := 2) C dL_read_19 (by decide) ?_
      refine gV_iret (pc := 20) C dL_read_20 (by decide) (by decide) ?_
      exact ⟨_, _, _, rfl, rfl, Or.inr ⟨by rw [hT]; decide, by rw [hT]; rfl, rfl⟩⟩
  · rintro _ _ ⟨h0, rfl, rfl⟩
    refine gV_i2l (pc := 8) C dL_read_8 ?_
    refine gV_swap ?_
    refine gV_last (pc := 9) C 0 3 rfl rfl (vp_in_nI (n := 0) (N := 1) (by decide) (by decide)) dL_read_9 ?_
    refine gV_ws (ws' := lw_o ct w0 (vp_updL f (0 : Int32).toNatClampNeg _) ++ cw ad ct F S _) rfl (gV_swap ?_)
    refine gV_goto (pc := 10) C 21 dL_read_10 (by decide) ?_
    refine gV_iconst (pc := 21) (v := 0) C dL_read_21 (by decide) ?_
    refine gV_iret (pc := 22) C dL_read_22 (by decide) (by decide) ?_
    exact ⟨_, _, _, rfl, rfl, Or.inl ⟨h0, rfl, rfl, rfl⟩⟩
abbrev rm_L_write : Room := { frames := 9, cells := 3, slots := 17, locals := 198 }
set_option maxHeartbeats 4000000 in
set_option maxRecDepth 100000 in
/-- write, with what it catches -/
theorem e_write {D : va_G} {ad : Nat → Nat} {ct : Nat → ClassId} {F S w0 : Nat} {σ : ph_S} {f : Nat → Int64} (p a v : Int32) (hok : ph_ok F S σ) : gMH yL_write cL_write 6 (some .int) [(0, 12, 15, 13), (0, 12, 19, 15)] rm_L_write D (gt ct) (cw ad ct F S σ ++ lw_o ct w0 f) [.ref (ad 0), .int p, .int a, .int v, .ref w0] (fun r9 w9 => ∃ t σ' f', r9 = some (.int t) ∧ w9 = cw ad ct F S σ' ++ lw_o ct w0 f' ∧ lp_write F S σ p a v t σ' f') := by
  refine gMH_in RL rfl (by decide) (Nat.le_of_ble_eq_true rfl) (fun X C CH CT => ?_)
  refine gV_aload (pc := 0) (x := w0) C dL_write_0 4 rfl ?_
  refine gV_iconst (pc := 2) (v := 0) C dL_write_2 (by decide) ?_
  refine gV_aload_n (pc := 3) (x := ad 0) C dL_write_3 0 rfl rfl ?_
  refine gV_iload_n (pc := 4) C dL_write_4 1 rfl rfl ?_
  refine gV_iload_n (pc := 5) C dL_write_5 2 rfl rfl ?_
  refine gV_iload_n (pc := 6) C dL_write_6 3 rfl rfl ?_
  refine gV_callVC (pc := 7) (As := [.int p, .int a, .int v]) (rest := [.int 0, .ref w0]) C CH CT (pw_t 323 (by decide +kernel) rfl) gy_X2_write gv_X2_write (c_write p a v hok) ⟨0, 2, _, _, rfl, rfl, rfl⟩ rfl rfl rfl ⟨by decide, by decide⟩ (Nat.le_of_ble_eq_true rfl) (by decide) (by decide) dL_write_7 ?_ ?_
  · rintro E w ⟨rfl, ⟨hT, rfl⟩ | ⟨hT, rfl⟩⟩
    · refine ⟨15, ⟨[], _, _, _, rfl, fun z hz => absurd hz List.not_mem_nil, by decide, by decide, cl_L_13, ca_iob, rfl⟩, fun q => ?_⟩
      refine gV_astore (pc := 15) (x := q) (lv' := [(5, .ref q), (0, .ref (ad 0)), (1, .int p), (2, .int a), (3, .int v), (4, .ref w0)]) C dL_write_15 (by decide) rfl ?_
      refine gV_iconst (pc := 17) (v := 1) C dL_write_17 (by decide) ?_
      refine gV_iret (pc := 18) C dL_write_18 (by decide) (by decide) ?_
      exact ⟨_, _, _, rfl, rfl, Or.inr ⟨by rw [hT]; decide, by rw [hT]; rfl, rfl⟩⟩
    · refine ⟨19, ⟨[_], _, [], _, rfl, fun z hz => by rw [List.mem_singleton.mp hz]; exact ⟨by decide, cl_L_13, rfl⟩, by decide, by decide, cl_L_15, ca_ise, rfl⟩, fun q => ?_⟩
      refine gV_astore (pc := 19) (x := q) (lv' := [(5, .ref q), (0, .ref (ad 0)), (1, .int p), (2, .int a), (3, .int v), (4, .ref w0)]) C dL_write_19 (by decide) rfl ?_
      refine gV_iconst (pc := 21) (v := 2) C dL_write_21 (by decide) ?_
      refine gV_iret (pc := 22) C dL_write_22 (by decide) (by decide) ?_
      exact ⟨_, _, _, rfl, rfl, Or.inr ⟨by rw [hT]; decide, by rw [hT]; rfl, rfl⟩⟩
  · rintro _ _ ⟨h0, b, σ2, ho, rfl, rfl⟩
    refine gV_i2l (pc := 10) C dL_write_10 ?_
    refine gV_swap ?_
    refine gV_last (pc := 11) C 0 3 rfl rfl (vp_in_nI (n := 0) (N := 1) (by decide) (by decide)) dL_write_11 ?_
    refine gV_ws (ws' := lw_o ct w0 (vp_updL f (0 : Int32).toNatClampNeg _) ++ cw ad ct F S _) rfl (gV_swap ?_)
    refine gV_goto (pc := 12) C 23 dL_write_12 (by decide) ?_
    refine gV_iconst (pc := 23) (v := 0) C dL_write_23 (by decide) ?_
    refine gV_iret (pc := 24) C dL_write_24 (by decide) (by decide) ?_
    exact ⟨_, _, _, rfl, rfl, Or.inl ⟨h0, rfl, ⟨b, σ2, ho, rfl⟩, rfl⟩⟩
abbrev rm_L_stored : Room := { frames := 8, cells := 1, slots := 6, locals := 142 }
set_option maxHeartbeats 4000000 in
set_option maxRecDepth 100000 in
/-- stored, with what it catches -/
theorem e_stored {D : va_G} {ad : Nat → Nat} {ct : Nat → ClassId} {F S w0 : Nat} {σ : ph_S} {f : Nat → Int64} (s i : Int32) (hF : F ≤ 16) (hS : S ≤ 64) : gMH yL_stored cL_stored 5 (some .int) [(0, 10, 13, 13)] rm_L_stored D (gt ct) (cw ad ct F S σ ++ lw_o ct w0 f) [.ref (ad 0), .int s, .int i, .ref w0] (fun r9 w9 => ∃ t σ' f', r9 = some (.int t) ∧ w9 = cw ad ct F S σ' ++ lw_o ct w0 f' ∧ lp_stored S σ s i t σ' f') := by
  refine gMH_in RL rfl (by decide) (Nat.le_of_ble_eq_true rfl) (fun X C CH CT => ?_)
  refine gV_aload_n (pc := 0) (x := w0) C dL_stored_0 3 rfl rfl ?_
  refine gV_iconst (pc := 1) (v := 0) C dL_stored_1 (by decide) ?_
  refine gV_aload_n (pc := 2) (x := ad 0) C dL_stored_2 0 rfl rfl ?_
  refine gV_iload_n (pc := 3) C dL_stored_3 1 rfl rfl ?_
  refine gV_iload_n (pc := 4) C dL_stored_4 2 rfl rfl ?_
  refine gV_callVC (pc := 5) (As := [.int s, .int i]) (rest := [.int 0, .ref w0]) C CH CT (pw_t 628 (by decide +kernel) rfl) gy_X2_stored gv_X2_stored (c_stored s i hF hS) ⟨0, 2, _, _, rfl, rfl, rfl⟩ rfl rfl rfl ⟨by decide, by decide⟩ (Nat.le_of_ble_eq_true rfl) (by decide) (by decide) dL_stored_5 ?_ ?_
  · rintro E w ⟨rfl, rfl, hT⟩
    · refine ⟨13, ⟨[], _, _, _, rfl, fun z hz => absurd hz List.not_mem_nil, by decide, by decide, cl_L_13, ca_iob, rfl⟩, fun q => ?_⟩
      refine gV_astore (pc := 13) (x := q) (lv' := [(4, .ref q), (0, .ref (ad 0)), (1, .int s), (2, .int i), (3, .ref w0)]) C dL_stored_13 (by decide) rfl ?_
      refine gV_iconst (pc := 15) (v := 1) C dL_stored_15 (by decide) ?_
      refine gV_iret (pc := 16) C dL_stored_16 (by decide) (by decide) ?_
      exact ⟨_, _, _, rfl, rfl, rfl, Or.inr ⟨by rw [hT]; decide, by rw [hT]; rfl⟩⟩
  · rintro _ _ ⟨h0, rfl, rfl⟩
    refine gV_i2l (pc := 8) C dL_stored_8 ?_
    refine gV_swap ?_
    refine gV_last (pc := 9) C 0 3 rfl rfl (vp_in_nI (n := 0) (N := 1) (by decide) (by decide)) dL_stored_9 ?_
    refine gV_ws (ws' := lw_o ct w0 (vp_updL f (0 : Int32).toNatClampNeg _) ++ cw ad ct F S _) rfl (gV_swap ?_)
    refine gV_goto (pc := 10) C 17 dL_stored_10 (by decide) ?_
    refine gV_iconst (pc := 17) (v := 0) C dL_stored_17 (by decide) ?_
    refine gV_iret (pc := 18) C dL_stored_18 (by decide) (by decide) ?_
    exact ⟨_, _, _, rfl, rfl, rfl, Or.inl ⟨h0, rfl, rfl⟩⟩
