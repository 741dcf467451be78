set_option maxHeartbeats 4000000 in
set_option maxRecDepth 100000 in
theorem lc_begin {X : gx_T} {D : va_G} {ad o : Nat → Nat} {ct : Nat → ClassId} {F S w0 b L j : Nat} {xs : Nat → Int32} {φ : Nat → Nat} {σ : ph_S} {μ : pm_S} {f : Nat → Int64} (C : gC X cL_law 7 RL room_1 ret D (gt ct) (fun _ _ => False)) (CS : gS X b L xs) (CH : gCH X) (hL : L ≤ 2050) (hj : 6 + 4 * j ≤ L) (hR : pr_R F S 0 φ σ μ) (hok : ph_ok F S σ)
    (hk : ∀ (φ' : Nat → Nat) (σ' : ph_S) (μ' : pm_S) (f' : Nat → Int64), pr_R F S 0 φ' σ' μ' → ph_ok F S σ' → gV X (30 + 3 * (j + 1)) (6000 + 17 * (j + 1)) (lwW ad ct F S σ' w0 f' o μ') 568 [(4, .int (nI (2 + 4 * j))), (3, .ref w0), (2, .ref (o 0)), (1, .ref (ad 0)), (0, .ref b)] []) : gV X (30 + 3 * j) (6000 + 17 * j) (lwW ad ct F S σ w0 f o μ) 116 [(4, .int (nI (2 + 4 * j))), (3, .ref w0), (2, .ref (o 0)), (1, .ref (ad 0)), (0, .ref b)] [] := by
  have mok := R_mok hR hok
  have hR0 : pr_R F S 0 φ σ (pm_sI μ 0 0) := R_thrown hR 0
  refine gV_aload_n (pc := 116) (x := ad 0) C dL_law_116 3 rfl rfl ?_
  refine gV_aload_n (pc := 117) (x := b) C dL_law_117 4 rfl rfl ?_
  refine gV_iload (pc := 118) C dL_law_118 0 rfl ?_
  refine gV_iconst (pc := 120) (v := 1) C dL_law_120 (by decide) ?_
  refine gV_iadd (pc := 121) C dL_law_121 ?_
  rw [show nI (2 + 4 * j) + 1 = nI (2 + 4 * j + 1) from nI_add _ 1]
  refine gV_sld (pc := 122) C CS (vp_in_nI (by omega) (by omega)) dL_law_122 ?_
  rw [nI_clamp (by omega)]
  refine gL_cv (pc := 123) (As := [.int (xs (2 + 4 * j + 1))]) (rest := []) C ml_L_36 gy_X2_begin gv_X2_begin (c_begin (xs (2 + 4 * j + 1))) rfl rfl rfl ⟨by decide, by decide⟩ (Nat.le_of_ble_eq_true rfl) (show 30 + 3 * j + 0 ≤ 601024 by omega) (show 6000 + 17 * j + 0 ≤ 7293000 by omega) dL_law_123 ?_
  refine gV_aload_n (pc := 126) (x := o 0) C dL_law_126 2 rfl rfl ?_
  refine gV_aload_n (pc := 127) (x := b) C dL_law_127 4 rfl rfl ?_
  refine gV_iload (pc := 128) C dL_law_128 0 rfl ?_
  refine gV_iconst (pc := 130) (v := 1) C dL_law_130 (by decide) ?_
  refine gV_iadd (pc := 131) C dL_law_131 ?_
  rw [show nI (2 + 4 * j) + 1 = nI (2 + 4 * j + 1) from nI_add _ 1]
  refine gV_sld (pc := 132) C CS (vp_in_nI (by omega) (by omega)) dL_law_132 ?_
  rw [nI_clamp (by omega)]
  refine gL_mv (pc := 133) (As := [.int (xs (2 + 4 * j + 1))]) (rest := [.int (ph_bgV σ (xs (2 + 4 * j + 1)))]) C ml_L_40 gy_X3_begin gv_X3_begin (d_begin (xs (2 + 4 * j + 1))) rfl rfl rfl ⟨by decide, by decide⟩ (Nat.le_of_ble_eq_true rfl) (show 30 + 3 * j + 0 + 0 ≤ 601024 by omega) (show 6000 + 17 * j + 0 + 0 ≤ 7293000 by omega) dL_law_133 ?_
  refine gV_icmp_eq (pc := 136) C 568 dL_law_136 (by decide) (fun c_1 => ?_) (fun c_1 => ?_)
  · skip
    exact gV_widen (show 30 + 3 * j + 0 + 0 ≤ 30 + 3 * (j + 1) by omega) (show 6000 + 17 * j + 0 + 0 ≤ 6000 + 17 * (j + 1) by omega) (hk φ _ _ f (S_begin hR0 hok (xs (2 + 4 * j + 1))).2.1 (S_begin hR0 hok (xs (2 + 4 * j + 1))).2.2)
  · exact absurd ((S_begin hR0 hok (xs (2 + 4 * j + 1))).1).symm c_1
set_option maxHeartbeats 4000000 in
set_option maxRecDepth 100000 in
theorem lc_fork {X : gx_T} {D : va_G} {ad o : Nat → Nat} {ct : Nat → ClassId} {F S w0 b L j : Nat} {xs : Nat → Int32} {φ : Nat → Nat} {σ : ph_S} {μ : pm_S} {f : Nat → Int64} (C : gC X cL_law 7 RL room_1 ret D (gt ct) (fun _ _ => False)) (CS : gS X b L xs) (CH : gCH X) (hL : L ≤ 2050) (hj : 6 + 4 * j ≤ L) (hR : pr_R F S 0 φ σ μ) (hok : ph_ok F S σ)
    (hk : ∀ (φ' : Nat → Nat) (σ' : ph_S) (μ' : pm_S) (f' : Nat → Int64), pr_R F S 0 φ' σ' μ' → ph_ok F S σ' → gV X (30 + 3 * (j + 1)) (6000 + 17 * (j + 1)) (lwW ad ct F S σ' w0 f' o μ') 568 [(4, .int (nI (2 + 4 * j))), (3, .ref w0), (2, .ref (o 0)), (1, .ref (ad 0)), (0, .ref b)] []) : gV X (30 + 3 * j) (6000 + 17 * j) (lwW ad ct F S σ w0 f o μ) 141 [(4, .int (nI (2 + 4 * j))), (3, .ref w0), (2, .ref (o 0)), (1, .ref (ad 0)), (0, .ref b)] [] := by
  have mok := R_mok hR hok
  have hR0 : pr_R F S 0 φ σ (pm_sI μ 0 0) := R_thrown hR 0
  refine gV_aload_n (pc := 141) (x := ad 0) C dL_law_141 3 rfl rfl ?_
  refine gV_aload_n (pc := 142) (x := b) C dL_law_142 4 rfl rfl ?_
  refine gV_iload (pc := 143) C dL_law_143 0 rfl ?_
  refine gV_iconst (pc := 145) (v := 1) C dL_law_145 (by decide) ?_
  refine gV_iadd (pc := 146) C dL_law_146 ?_
  rw [show nI (2 + 4 * j) + 1 = nI (2 + 4 * j + 1) from nI_add _ 1]
  refine gV_sld (pc := 147) C CS (vp_in_nI (by omega) (by omega)) dL_law_147 ?_
  rw [nI_clamp (by omega)]
  refine gL_cv (pc := 148) (As := [.int (xs (2 + 4 * j + 1))]) (rest := []) C ml_L_41 gy_X2_fork gv_X2_fork (c_fork (xs (2 + 4 * j + 1)) hok) rfl rfl rfl ⟨by decide, by decide⟩ (Nat.le_of_ble_eq_true rfl) (show 30 + 3 * j + 0 ≤ 601024 by omega) (show 6000 + 17 * j + 0 ≤ 7293000 by omega) dL_law_148 ?_
  refine gV_aload_n (pc := 151) (x := o 0) C dL_law_151 2 rfl rfl ?_
  refine gV_aload_n (pc := 152) (x := b) C dL_law_152 4 rfl rfl ?_
  refine gV_iload (pc := 153) C dL_law_153 0 rfl ?_
  refine gV_iconst (pc := 155) (v := 1) C dL_law_155 (by decide) ?_
  refine gV_iadd (pc := 156) C dL_law_156 ?_
  rw [show nI (2 + 4 * j) + 1 = nI (2 + 4 * j + 1) from nI_add _ 1]
  refine gV_sld (pc := 157) C CS (vp_in_nI (by omega) (by omega)) dL_law_157 ?_
  rw [nI_clamp (by omega)]
  refine gL_mv (pc := 158) (As := [.int (xs (2 + 4 * j + 1))]) (rest := [.int (ph_fkV σ (xs (2 + 4 * j + 1)))]) C ml_L_44 gy_X3_fork gv_X3_fork (d_fork (xs (2 + 4 * j + 1))) rfl rfl rfl ⟨by decide, by decide⟩ (Nat.le_of_ble_eq_true rfl) (show 30 + 3 * j + 0 + 0 ≤ 601024 by omega) (show 6000 + 17 * j + 0 + 0 ≤ 7293000 by omega) dL_law_158 ?_
  refine gV_icmp_eq (pc := 161) C 568 dL_law_161 (by decide) (fun c_1 => ?_) (fun c_1 => ?_)
  · skip
    exact gV_widen (show 30 + 3 * j + 0 + 0 ≤ 30 + 3 * (j + 1) by omega) (show 6000 + 17 * j + 0 + 0 ≤ 6000 + 17 * (j + 1) by omega) (hk φ _ _ f (S_fork hR0 hok (xs (2 + 4 * j + 1))).2.1 (S_fork hR0 hok (xs (2 + 4 * j + 1))).2.2)
  · exact absurd ((S_fork hR0 hok (xs (2 + 4 * j + 1))).1).symm c_1
set_option maxHeartbeats 4000000 in
set_option maxRecDepth 100000 in
theorem lc_end {X : gx_T} {D : va_G} {ad o : Nat → Nat} {ct : Nat → ClassId} {F S w0 b L j : Nat} {xs : Nat → Int32} {φ : Nat → Nat} {σ : ph_S} {μ : pm_S} {f : Nat → Int64} (C : gC X cL_law 7 RL room_1 ret D (gt ct) (fun _ _ => False)) (CS : gS X b L xs) (CH : gCH X) (hL : L ≤ 2050) (hj : 6 + 4 * j ≤ L) (hR : pr_R F S 0 φ σ μ) (hok : ph_ok F S σ)
    (hk : ∀ (φ' : Nat → Nat) (σ' : ph_S) (μ' : pm_S) (f' : Nat → Int64), pr_R F S 0 φ' σ' μ' → ph_ok F S σ' → gV X (30 + 3 * (j + 1)) (6000 + 17 * (j + 1)) (lwW ad ct F S σ' w0 f' o μ') 568 [(4, .int (nI (2 + 4 * j))), (3, .ref w0), (2, .ref (o 0)), (1, .ref (ad 0)), (0, .ref b)] []) : gV X (30 + 3 * j) (6000 + 17 * j) (lwW ad ct F S σ w0 f o μ) 166 [(4, .int (nI (2 + 4 * j))), (3, .ref w0), (2, .ref (o 0)), (1, .ref (ad 0)), (0, .ref b)] [] := by
  have mok := R_mok hR hok
  have hR0 : pr_R F S 0 φ σ (pm_sI μ 0 0) := R_thrown hR 0
  refine gV_aload_n (pc := 166) (x := ad 0) C dL_law_166 3 rfl rfl ?_
  refine gV_aload_n (pc := 167) (x := b) C dL_law_167 4 rfl rfl ?_
  refine gV_iload (pc := 168) C dL_law_168 0 rfl ?_
  refine gV_iconst (pc := 170) (v := 1) C dL_law_170 (by decide) ?_
  refine gV_iadd (pc := 171) C dL_law_171 ?_
  rw [show nI (2 + 4 * j) + 1 = nI (2 + 4 * j + 1) from nI_add _ 1]
  refine gV_sld (pc := 172) C CS (vp_in_nI (by omega) (by omega)) dL_law_172 ?_
  rw [nI_clamp (by omega)]
  refine gL_cv (pc := 173) (As := [.int (xs (2 + 4 * j + 1))]) (rest := []) C ml_L_45 gy_X2_end gv_X2_end (c_end (xs (2 + 4 * j + 1)) hok) rfl rfl rfl ⟨by decide, by decide⟩ (Nat.le_of_ble_eq_true rfl) (show 30 + 3 * j + 0 ≤ 601024 by omega) (show 6000 + 17 * j + 0 ≤ 7293000 by omega) dL_law_173 ?_
  refine gV_aload_n (pc := 176) (x := o 0) C dL_law_176 2 rfl rfl ?_
  refine gV_aload_n (pc := 177) (x := b) C dL_law_177 4 rfl rfl ?_
  refine gV_iload (pc := 178) C dL_law_178 0 rfl ?_
  refine gV_iconst (pc := 180) (v := 1) C dL_law_180 (by decide) ?_
  refine gV_iadd (pc := 181) C dL_law_181 ?_
  rw [show nI (2 + 4 * j) + 1 = nI (2 + 4 * j + 1) from nI_add _ 1]
  refine gV_sld (pc := 182) C CS (vp_in_nI (by omega) (by omega)) dL_law_182 ?_
  rw [nI_clamp (by omega)]
  refine gL_mv (pc := 183) (As := [.int (xs (2 + 4 * j + 1))]) (rest := [.int (ph_enV σ (xs (2 + 4 * j + 1)))]) C ml_L_49 gy_X3_end gv_X3_end (d_end (xs (2 + 4 * j + 1)) mok) rfl rfl rfl ⟨by decide, by decide⟩ (Nat.le_of_ble_eq_true rfl) (show 30 + 3 * j + 0 + 0 ≤ 601024 by omega) (show 6000 + 17 * j + 0 + 0 ≤ 7293000 by omega) dL_law_183 ?_
  refine gV_icmp_eq (pc := 186) C 568 dL_law_186 (by decide) (fun c_1 => ?_) (fun c_1 => ?_)
  · skip
    exact gV_widen (show 30 + 3 * j + 0 + 0 ≤ 30 + 3 * (j + 1) by omega) (show 6000 + 17 * j + 0 + 0 ≤ 6000 + 17 * (j + 1) by omega) (hk φ _ _ f (S_end hR0 hok (xs (2 + 4 * j + 1))).2.1 (S_end hR0 hok (xs (2 + 4 * j + 1))).2.2)
  · exact absurd ((S_end hR0 hok (xs (2 + 4 * j + 1))).1).symm c_1
set_option maxHeartbeats 4000000 in
set_option maxRecDepth 100000 in
theorem lc_drop {X : gx_T} {D : va_G} {ad o : Nat → Nat} {ct : Nat → ClassId} {F S w0 b L j : Nat} {xs : Nat → Int32} {φ : Nat → Nat} {σ : ph_S} {μ : pm_S} {f : Nat → Int64} (C : gC X cL_law 7 RL room_1 ret D (gt ct) (fun _ _ => False)) (CS : gS X b L xs) (CH : gCH X) (hL : L ≤ 2050) (hj : 6 + 4 * j ≤ L) (hR : pr_R F S 0 φ σ μ) (hok : ph_ok F S σ)
    (hk : ∀ (φ' : Nat → Nat) (σ' : ph_S) (μ' : pm_S) (f' : Nat → Int64), pr_R F S 0 φ' σ' μ' → ph_ok F S σ' → gV X (30 + 3 * (j + 1)) (6000 + 17 * (j + 1)) (lwW ad ct F S σ' w0 f' o μ') 568 [(4, .int (nI (2 + 4 * j))), (3, .ref w0), (2, .ref (o 0)), (1, .ref (ad 0)), (0, .ref b)] []) : gV X (30 + 3 * j) (6000 + 17 * j) (lwW ad ct F S σ w0 f o μ) 339 [(4, .int (nI (2 + 4 * j))), (3, .ref w0), (2, .ref (o 0)), (1, .ref (ad 0)), (0, .ref b)] [] := by
  have mok := R_mok hR hok
  have hR0 : pr_R F S 0 φ σ (pm_sI μ 0 0) := R_thrown hR 0
  refine gV_aload_n (pc := 339) (x := ad 0) C dL_law_339 3 rfl rfl ?_
  refine gV_aload_n (pc := 340) (x := b) C dL_law_340 4 rfl rfl ?_
  refine gV_iload (pc := 341) C dL_law_341 0 rfl ?_
  refine gV_iconst (pc := 343) (v := 1) C dL_law_343 (by decide) ?_
  refine gV_iadd (pc := 344) C dL_law_344 ?_
  rw [show nI (2 + 4 * j) + 1 = nI (2 + 4 * j + 1) from nI_add _ 1]
  refine gV_sld (pc := 345) C CS (vp_in_nI (by omega) (by omega)) dL_law_345 ?_
  rw [nI_clamp (by omega)]
  refine gV_aload_n (pc := 346) (x := b) C dL_law_346 4 rfl rfl ?_
  refine gV_iload (pc := 347) C dL_law_347 0 rfl ?_
  refine gV_iconst (pc := 349) (v := 2) C dL_law_349 (by decide) ?_
  refine gV_iadd (pc := 350) C dL_law_350 ?_
  rw [show nI (2 + 4 * j) + 2 = nI (2 + 4 * j + 2) from nI_add _ 2]
  refine gV_sld (pc := 351) C CS (vp_in_nI (by omega) (by omega)) dL_law_351 ?_
  rw [nI_clamp (by omega)]
  refine gL_cv (pc := 352) (As := [.int (xs (2 + 4 * j + 1)), .int (xs (2 + 4 * j + 2))]) (rest := []) C ml_L_62 gy_X2_drop gv_X2_drop (c_drop (xs (2 + 4 * j + 1)) (xs (2 + 4 * j + 2)) hok) rfl rfl rfl ⟨by decide, by decide⟩ (Nat.le_of_ble_eq_true rfl) (show 30 + 3 * j + 0 ≤ 601024 by omega) (show 6000 + 17 * j + 0 ≤ 7293000 by omega) dL_law_352 ?_
  refine gV_aload_n (pc := 355) (x := o 0) C dL_law_355 2 rfl rfl ?_
  refine gV_aload_n (pc := 356) (x := b) C dL_law_356 4 rfl rfl ?_
  refine gV_iload (pc := 357) C dL_law_357 0 rfl ?_
  refine gV_iconst (pc := 359) (v := 1) C dL_law_359 (by decide) ?_
  refine gV_iadd (pc := 360) C dL_law_360 ?_
  rw [show nI (2 + 4 * j) + 1 = nI (2 + 4 * j + 1) from nI_add _ 1]
  refine gV_sld (pc := 361) C CS (vp_in_nI (by omega) (by omega)) dL_law_361 ?_
  rw [nI_clamp (by omega)]
  refine gV_aload_n (pc := 362) (x := b) C dL_law_362 4 rfl rfl ?_
  refine gV_iload (pc := 363) C dL_law_363 0 rfl ?_
  refine gV_iconst (pc := 365) (v := 2) C dL_law_365 (by decide) ?_
  refine gV_iadd (pc := 366) C dL_law_366 ?_
  rw [show nI (2 + 4 * j) + 2 = nI (2 + 4 * j + 2) from nI_add _ 2]
  refine gV_sld (pc := 367) C CS (vp_in_nI (by omega) (by omega)) dL_law_367 ?_
  rw [nI_clamp (by omega)]
  refine gL_mv (pc := 368) (As := [.int (xs (2 + 4 * j + 1)), .int (xs (2 + 4 * j + 2))]) (rest := [.int (ph_drV σ (xs (2 + 4 * j + 1)) (xs (2 + 4 * j + 2)))]) C ml_L_66 gy_X3_drop gv_X3_drop (d_drop (xs (2 + 4 * j + 1)) (xs (2 + 4 * j + 2)) mok) rfl rfl rfl ⟨by decide, by decide⟩ (Nat.le_of_ble_eq_true rfl) (show 30 + 3 * j + 0 + 0 ≤ 601024 by omega) (show 6000 + 17 * j + 0 + 0 ≤ 7293000 by omega) dL_law_368 ?_
  refine gV_icmp_eq (pc := 371) C 568 dL_law_371 (by decide) (fun c_1 => ?_) (fun c_1 => ?_)
  · skip
    exact gV_widen (show 30 + 3 * j + 0 + 0 ≤ 30 + 3 * (j + 1) by omega) (show 6000 + 17 * j + 0 + 0 ≤ 6000 + 17 * (j + 1) by omega) (hk φ _ _ f (S_drop hR0 hok (xs (2 + 4 * j + 1)) (xs (2 + 4 * j + 2))).2.1 (S_drop hR0 hok (xs (2 + 4 * j + 1)) (xs (2 + 4 * j + 2))).2.2)
  · exact absurd ((S_drop hR0 hok (xs (2 + 4 * j + 1)) (xs (2 + 4 * j + 2))).1).symm c_1
set_option maxHeartbeats 4000000 in
set_option maxRecDepth 100000 in
theorem lc_flush {X : gx_T} {D : va_G} {ad o : Nat → Nat} {ct : Nat → ClassId} {F S w0 b L j : Nat} {xs : Nat → Int32} {φ : Nat → Nat} {σ : ph_S} {μ : pm_S} {f : Nat → Int64} (C : gC X cL_law 7 RL room_1 ret D (gt ct) (fun _ _ => False)) (CS : gS X b L xs) (CH : gCH X) (hL : L ≤ 2050) (hj : 6 + 4 * j ≤ L) (hR : pr_R F S 0 φ σ μ) (hok : ph_ok F S σ)
    (hk : ∀ (φ' : Nat → Nat) (σ' : ph_S) (μ' : pm_S) (f' : Nat → Int64), pr_R F S 0 φ' σ' μ' → ph_ok F S σ' → gV X (30 + 3 * (j + 1)) (6000 + 17 * (j + 1)) (lwW ad ct F S σ' w0 f' o μ') 568 [(4, .int (nI (2 + 4 * j))), (3, .ref w0), (2, .ref (o 0)), (1, .ref (ad 0)), (0, .ref b)] []) : gV X (30 + 3 * j) (6000 + 17 * j) (lwW ad ct F S σ w0 f o μ) 376 [(4, .int (nI (2 + 4 * j))), (3, .ref w0), (2, .ref (o 0)), (1, .ref (ad 0)), (0, .ref b)] [] := by
  have mok := R_mok hR hok
  have hR0 : pr_R F S 0 φ σ (pm_sI μ 0 0) := R_thrown hR 0
  refine gV_aload_n (pc := 376) (x := ad 0) C dL_law_376 3 rfl rfl ?_
  refine gL_cv (pc := 377) (As := []) (rest := []) C ml_L_67 gy_X2_flush gv_X2_flush (c_flush hok) rfl rfl rfl ⟨by decide, by decide⟩ (Nat.le_of_ble_eq_true rfl) (show 30 + 3 * j + 0 ≤ 601024 by omega) (show 6000 + 17 * j + 0 ≤ 7293000 by omega) dL_law_377 ?_
  refine gV_aload_n (pc := 380) (x := o 0) C dL_law_380 2 rfl rfl ?_
  refine gL_mv (pc := 381) (As := []) (rest := [.int (ph_flV F S σ)]) C ml_L_70 gy_X3_flush gv_X3_flush (d_flush mok (S_flush hR0 hok).2.2.2) rfl rfl rfl ⟨by decide, by decide⟩ (Nat.le_of_ble_eq_true rfl) (show 30 + 3 * j + 0 + 0 ≤ 601024 by omega) (show 6000 + 17 * j + 0 + 0 ≤ 7293000 by omega) dL_law_381 ?_
  refine gV_icmp_eq (pc := 384) C 568 dL_law_384 (by decide) (fun c_1 => ?_) (fun c_1 => ?_)
  · skip
    exact gV_widen (show 30 + 3 * j + 0 + 0 ≤ 30 + 3 * (j + 1) by omega) (show 6000 + 17 * j + 0 + 0 ≤ 6000 + 17 * (j + 1) by omega) (hk φ _ _ f (S_flush hR0 hok).2.1 (S_flush hR0 hok).2.2.1)
  · exact absurd ((S_flush hR0 hok).1).symm c_1
set_option maxHeartbeats 4000000 in
set_option maxRecDepth 100000 in
theorem lc_page {X : gx_T} {D : va_G} {ad o : Nat → Nat} {ct : Nat → ClassId} {F S w0 b L j : Nat} {xs : Nat → Int32} {φ : Nat → Nat} {σ : ph_S} {μ : pm_S} {f : Nat → Int64} (C : gC X cL_law 7 RL room_1 ret D (gt ct) (fun _ _ => False)) (CS : gS X b L xs) (CH : gCH X) (hL : L ≤ 2050) (hj : 6 + 4 * j ≤ L) (hR : pr_R F S 0 φ σ μ) (hok : ph_ok F S σ)
    (hk : ∀ (φ' : Nat → Nat) (σ' : ph_S) (μ' : pm_S) (f' : Nat → Int64), pr_R F S 0 φ' σ' μ' → ph_ok F S σ' → gV X (30 + 3 * (j + 1)) (6000 + 17 * (j + 1)) (lwW ad ct F S σ' w0 f' o μ') 568 [(4, .int (nI (2 + 4 * j))), (3, .ref w0), (2, .ref (o 0)), (1, .ref (ad 0)), (0, .ref b)] []) : gV X (30 + 3 * j) (6000 + 17 * j) (lwW ad ct F S σ w0 f o μ) 389 [(4, .int (nI (2 + 4 * j))), (3, .ref w0), (2, .ref (o 0)), (1, .ref (ad 0)), (0, .ref b)] [] := by
  have mok := R_mok hR hok
  have hR0 : pr_R F S 0 φ σ (pm_sI μ 0 0) := R_thrown hR 0
  refine gV_aload_n (pc := 389) (x := ad 0) C dL_law_389 3 rfl rfl ?_
  refine gV_aload_n (pc := 390) (x := b) C dL_law_390 4 rfl rfl ?_
  refine gV_iload (pc := 391) C dL_law_391 0 rfl ?_
  refine gV_iconst (pc := 393) (v := 1) C dL_law_393 (by decide) ?_
  refine gV_iadd (pc := 394) C dL_law_394 ?_
  rw [show nI (2 + 4 * j) + 1 = nI (2 + 4 * j + 1) from nI_add _ 1]
  refine gV_sld (pc := 395) C CS (vp_in_nI (by omega) (by omega)) dL_law_395 ?_
  rw [nI_clamp (by omega)]
  refine gV_aload_n (pc := 396) (x := b) C dL_law_396 4 rfl rfl ?_
  refine gV_iload (pc := 397) C dL_law_397 0 rfl ?_
  refine gV_iconst (pc := 399) (v := 2) C dL_law_399 (by decide) ?_
  refine gV_iadd (pc := 400) C dL_law_400 ?_
  rw [show nI (2 + 4 * j) + 2 = nI (2 + 4 * j + 2) from nI_add _ 2]
  refine gV_sld (pc := 401) C CS (vp_in_nI (by omega) (by omega)) dL_law_401 ?_
  rw [nI_clamp (by omega)]
  refine gV_aload_n (pc := 402) (x := b) C dL_law_402 4 rfl rfl ?_
  refine gV_iload (pc := 403) C dL_law_403 0 rfl ?_
  refine gV_iconst (pc := 405) (v := 3) C dL_law_405 (by decide) ?_
  refine gV_iadd (pc := 406) C dL_law_406 ?_
  rw [show nI (2 + 4 * j) + 3 = nI (2 + 4 * j + 3) from nI_add _ 3]
  refine gV_sld (pc := 407) C CS (vp_in_nI (by omega) (by omega)) dL_law_407 ?_
  rw [nI_clamp (by omega)]
  refine gL_cv (pc := 408) (As := [.int (xs (2 + 4 * j + 1)), .int (xs (2 + 4 * j + 2)), .int (xs (2 + 4 * j + 3))]) (rest := []) C ml_L_71 gy_X2_page gv_X2_page (c_page (xs (2 + 4 * j + 1)) (xs (2 + 4 * j + 2)) (xs (2 + 4 * j + 3)) hok) rfl rfl rfl ⟨by decide, by decide⟩ (Nat.le_of_ble_eq_true rfl) (show 30 + 3 * j + 0 ≤ 601024 by omega) (show 6000 + 17 * j + 0 ≤ 7293000 by omega) dL_law_408 ?_
  refine gV_aload_n (pc := 411) (x := o 0) C dL_law_411 2 rfl rfl ?_
  refine gV_aload_n (pc := 412) (x := b) C dL_law_412 4 rfl rfl ?_
  refine gV_iload (pc := 413) C dL_law_413 0 rfl ?_
  refine gV_iconst (pc := 415) (v := 1) C dL_law_415 (by decide) ?_
  refine gV_iadd (pc := 416) C dL_law_416 ?_
  rw [show nI (2 + 4 * j) + 1 = nI (2 + 4 * j + 1) from nI_add _ 1]
  refine gV_sld (pc := 417) C CS (vp_in_nI (by omega) (by omega)) dL_law_417 ?_
  rw [nI_clamp (by omega)]
  refine gV_aload_n (pc := 418) (x := b) C dL_law_418 4 rfl rfl ?_
  refine gV_iload (pc := 419) C dL_law_419 0 rfl ?_
  refine gV_iconst (pc := 421) (v := 2) C dL_law_421 (by decide) ?_
  refine gV_iadd (pc := 422) C dL_law_422 ?_
  rw [show nI (2 + 4 * j) + 2 = nI (2 + 4 * j + 2) from nI_add _ 2]
  refine gV_sld (pc := 423) C CS (vp_in_nI (by omega) (by omega)) dL_law_423 ?_
  rw [nI_clamp (by omega)]
  refine gV_aload_n (pc := 424) (x := b) C dL_law_424 4 rfl rfl ?_
  refine gV_iload (pc := 425) C dL_law_425 0 rfl ?_
  refine gV_iconst (pc := 427) (v := 3) C dL_law_427 (by decide) ?_
  refine gV_iadd (pc := 428) C dL_law_428 ?_
  rw [show nI (2 + 4 * j) + 3 = nI (2 + 4 * j + 3) from nI_add _ 3]
  refine gV_sld (pc := 429) C CS (vp_in_nI (by omega) (by omega)) dL_law_429 ?_
  rw [nI_clamp (by omega)]
  refine gL_mv (pc := 430) (As := [.int (xs (2 + 4 * j + 1)), .int (xs (2 + 4 * j + 2)), .int (xs (2 + 4 * j + 3))]) (rest := [.int (ph_pgV σ (xs (2 + 4 * j + 1)) (xs (2 + 4 * j + 2)) (xs (2 + 4 * j + 3)))]) C ml_L_74 gy_X3_page gv_X3_page (d_page (xs (2 + 4 * j + 1)) (xs (2 + 4 * j + 2)) (xs (2 + 4 * j + 3)) mok) rfl rfl rfl ⟨by decide, by decide⟩ (Nat.le_of_ble_eq_true rfl) (show 30 + 3 * j + 0 + 0 ≤ 601024 by omega) (show 6000 + 17 * j + 0 + 0 ≤ 7293000 by omega) dL_law_430 ?_
  refine gV_icmp_eq (pc := 433) C 568 dL_law_433 (by decide) (fun c_1 => ?_) (fun c_1 => ?_)
  · skip
    exact gV_widen (show 30 + 3 * j + 0 + 0 ≤ 30 + 3 * (j + 1) by omega) (show 6000 + 17 * j + 0 + 0 ≤ 6000 + 17 * (j + 1) by omega) (hk φ _ _ f hR0 hok)
  · exact absurd (S_page hR0 hok (xs (2 + 4 * j + 1)) (xs (2 + 4 * j + 2)) (xs (2 + 4 * j + 3))).symm c_1
set_option maxHeartbeats 4000000 in
set_option maxRecDepth 100000 in
theorem lc_frame {X : gx_T} {D : va_G} {ad o : Nat → Nat} {ct : Nat → ClassId} {F S w0 b L j : Nat} {xs : Nat → Int32} {φ : Nat → Nat} {σ : ph_S} {μ : pm_S} {f : Nat → Int64} (C : gC X cL_law 7 RL room_1 ret D (gt ct) (fun _ _ => False)) (CS : gS X b L xs) (CH : gCH X) (hL : L ≤ 2050) (hj : 6 + 4 * j ≤ L) (hR : pr_R F S 0 φ σ μ) (hok : ph_ok F S σ)
    (hk : ∀ (φ' : Nat → Nat) (σ' : ph_S) (μ' : pm_S) (f' : Nat → Int64), pr_R F S 0 φ' σ' μ' → ph_ok F S σ' → gV X (30 + 3 * (j + 1)) (6000 + 17 * (j + 1)) (lwW ad ct F S σ' w0 f' o μ') 568 [(4, .int (nI (2 + 4 * j))), (3, .ref w0), (2, .ref (o 0)), (1, .ref (ad 0)), (0, .ref b)] []) : gV X (30 + 3 * j) (6000 + 17 * j) (lwW ad ct F S σ w0 f o μ) 438 [(4, .int (nI (2 + 4 * j))), (3, .ref w0), (2, .ref (o 0)), (1, .ref (ad 0)), (0, .ref b)] [] := by
  have mok := R_mok hR hok
  have hR0 : pr_R F S 0 φ σ (pm_sI μ 0 0) := R_thrown hR 0
  refine gV_aload_n (pc := 438) (x := ad 0) C dL_law_438 3 rfl rfl ?_
  refine gV_aload_n (pc := 439) (x := b) C dL_law_439 4 rfl rfl ?_
  refine gV_iload (pc := 440) C dL_law_440 0 rfl ?_
  refine gV_iconst (pc := 442) (v := 1) C dL_law_442 (by decide) ?_
  refine gV_iadd (pc := 443) C dL_law_443 ?_
  rw [show nI (2 + 4 * j) + 1 = nI (2 + 4 * j + 1) from nI_add _ 1]
  refine gV_sld (pc := 444) C CS (vp_in_nI (by omega) (by omega)) dL_law_444 ?_
  rw [nI_clamp (by omega)]
  refine gV_aload_n (pc := 445) (x := b) C dL_law_445 4 rfl rfl ?_
  refine gV_iload (pc := 446) C dL_law_446 0 rfl ?_
  refine gV_iconst (pc := 448) (v := 2) C dL_law_448 (by decide) ?_
  refine gV_iadd (pc := 449) C dL_law_449 ?_
  rw [show nI (2 + 4 * j) + 2 = nI (2 + 4 * j + 2) from nI_add _ 2]
  refine gV_sld (pc := 450) C CS (vp_in_nI (by omega) (by omega)) dL_law_450 ?_
  rw [nI_clamp (by omega)]
  refine gL_cv (pc := 451) (As := [.int (xs (2 + 4 * j + 1)), .int (xs (2 + 4 * j + 2))]) (rest := []) C ml_L_75 gy_X2_frame gv_X2_frame (c_frame (xs (2 + 4 * j + 1)) (xs (2 + 4 * j + 2)) hok) rfl rfl rfl ⟨by decide, by decide⟩ (Nat.le_of_ble_eq_true rfl) (show 30 + 3 * j + 0 ≤ 601024 by omega) (show 6000 + 17 * j + 0 ≤ 7293000 by omega) dL_law_451 ?_
  refine gV_aload_n (pc := 454) (x := o 0) C dL_law_454 2 rfl rfl ?_
  refine gV_aload_n (pc := 455) (x := b) C dL_law_455 4 rfl rfl ?_
  refine gV_iload (pc := 456) C dL_law_456 0 rfl ?_
  refine gV_iconst (pc := 458) (v := 1) C dL_law_458 (by decide) ?_
  refine gV_iadd (pc := 459) C dL_law_459 ?_
  rw [show nI (2 + 4 * j) + 1 = nI (2 + 4 * j + 1) from nI_add _ 1]
  refine gV_sld (pc := 460) C CS (vp_in_nI (by omega) (by omega)) dL_law_460 ?_
  rw [nI_clamp (by omega)]
  refine gV_aload_n (pc := 461) (x := b) C dL_law_461 4 rfl rfl ?_
  refine gV_iload (pc := 462) C dL_law_462 0 rfl ?_
  refine gV_iconst (pc := 464) (v := 2) C dL_law_464 (by decide) ?_
  refine gV_iadd (pc := 465) C dL_law_465 ?_
  rw [show nI (2 + 4 * j) + 2 = nI (2 + 4 * j + 2) from nI_add _ 2]
  refine gV_sld (pc := 466) C CS (vp_in_nI (by omega) (by omega)) dL_law_466 ?_
  rw [nI_clamp (by omega)]
  refine gL_mv (pc := 467) (As := [.int (xs (2 + 4 * j + 1)), .int (xs (2 + 4 * j + 2))]) (rest := [.int (ph_frV F σ (xs (2 + 4 * j + 1)) (xs (2 + 4 * j + 2)))]) C ml_L_78 gy_X3_frame gv_X3_frame (d_frame (xs (2 + 4 * j + 1)) (xs (2 + 4 * j + 2)) mok (R_wh hR0)) rfl rfl rfl ⟨by decide, by decide⟩ (Nat.le_of_ble_eq_true rfl) (show 30 + 3 * j + 0 + 0 ≤ 601024 by omega) (show 6000 + 17 * j + 0 + 0 ≤ 7293000 by omega) dL_law_467 ?_
  refine gV_icmp_eq (pc := 470) C 568 dL_law_470 (by decide) (fun c_1 => ?_) (fun c_1 => ?_)
  · skip
    exact gV_widen (show 30 + 3 * j + 0 + 0 ≤ 30 + 3 * (j + 1) by omega) (show 6000 + 17 * j + 0 + 0 ≤ 6000 + 17 * (j + 1) by omega) (hk φ _ _ f hR0 hok)
  · exact absurd (S_frame hR0 hok (xs (2 + 4 * j + 1)) (xs (2 + 4 * j + 2))).symm c_1
set_option maxHeartbeats 4000000 in
set_option maxRecDepth 100000 in
theorem lc_look {X : gx_T} {D : va_G} {ad o : Nat → Nat} {ct : Nat → ClassId} {F S w0 b L j : Nat} {xs : Nat → Int32} {φ : Nat → Nat} {σ : ph_S} {μ : pm_S} {f : Nat → Int64} (C : gC X cL_law 7 RL room_1 ret D (gt ct) (fun _ _ => False)) (CS : gS X b L xs) (CH : gCH X) (hL : L ≤ 2050) (hj : 6 + 4 * j ≤ L) (hR : pr_R F S 0 φ σ μ) (hok : ph_ok F S σ)
    (hk : ∀ (φ' : Nat → Nat) (σ' : ph_S) (μ' : pm_S) (f' : Nat → Int64), pr_R F S 0 φ' σ' μ' → ph_ok F S σ' → gV X (30 + 3 * (j + 1)) (6000 + 17 * (j + 1)) (lwW ad ct F S σ' w0 f' o μ') 568 [(4, .int (nI (2 + 4 * j))), (3, .ref w0), (2, .ref (o 0)), (1, .ref (ad 0)), (0, .ref b)] []) : gV X (30 + 3 * j) (6000 + 17 * j) (lwW ad ct F S σ w0 f o μ) 543 [(4, .int (nI (2 + 4 * j))), (3, .ref w0), (2, .ref (o 0)), (1, .ref (ad 0)), (0, .ref b)] [] := by
  have mok := R_mok hR hok
  have hR0 : pr_R F S 0 φ σ (pm_sI μ 0 0) := R_thrown hR 0
  refine gV_aload_n (pc := 543) (x := ad 0) C dL_law_543 3 rfl rfl ?_
  refine gV_aload_n (pc := 544) (x := b) C dL_law_544 4 rfl rfl ?_
  refine gV_iload (pc := 545) C dL_law_545 0 rfl ?_
  refine gV_iconst (pc := 547) (v := 1) C dL_law_547 (by decide) ?_
  refine gV_iadd (pc := 548) C dL_law_548 ?_
  rw [show nI (2 + 4 * j) + 1 = nI (2 + 4 * j + 1) from nI_add _ 1]
  refine gV_sld (pc := 549) C CS (vp_in_nI (by omega) (by omega)) dL_law_549 ?_
  rw [nI_clamp (by omega)]
  refine gL_cv (pc := 550) (As := [.int (xs (2 + 4 * j + 1))]) (rest := []) C ml_L_82 gy_X2_look gv_X2_look (c_look (xs (2 + 4 * j + 1)) hok) rfl rfl rfl ⟨by decide, by decide⟩ (Nat.le_of_ble_eq_true rfl) (show 30 + 3 * j + 0 ≤ 601024 by omega) (show 6000 + 17 * j + 0 ≤ 7293000 by omega) dL_law_550 ?_
  refine gV_aload_n (pc := 553) (x := o 0) C dL_law_553 2 rfl rfl ?_
  refine gV_aload_n (pc := 554) (x := b) C dL_law_554 4 rfl rfl ?_
  refine gV_iload (pc := 555) C dL_law_555 0 rfl ?_
  refine gV_iconst (pc := 557) (v := 1) C dL_law_557 (by decide) ?_
  refine gV_iadd (pc := 558) C dL_law_558 ?_
  rw [show nI (2 + 4 * j) + 1 = nI (2 + 4 * j + 1) from nI_add _ 1]
  refine gV_sld (pc := 559) C CS (vp_in_nI (by omega) (by omega)) dL_law_559 ?_
  rw [nI_clamp (by omega)]
  refine gL_mv (pc := 560) (As := [.int (xs (2 + 4 * j + 1))]) (rest := [.int (ph_lkV F S σ (xs (2 + 4 * j + 1)))]) C ml_L_85 gy_X3_look gv_X3_look (d_look (xs (2 + 4 * j + 1)) mok) rfl rfl rfl ⟨by decide, by decide⟩ (Nat.le_of_ble_eq_true rfl) (show 30 + 3 * j + 0 + 0 ≤ 601024 by omega) (show 6000 + 17 * j + 0 + 0 ≤ 7293000 by omega) dL_law_560 ?_
  refine gV_icmp_eq (pc := 563) C 568 dL_law_563 (by decide) (fun c_1 => ?_) (fun c_1 => ?_)
  · skip
    exact gV_widen (show 30 + 3 * j + 0 + 0 ≤ 30 + 3 * (j + 1) by omega) (show 6000 + 17 * j + 0 + 0 ≤ 6000 + 17 * (j + 1) by omega) (hk φ _ _ f hR0 hok)
  · exact absurd (S_look hR0 hok (xs (2 + 4 * j + 1))).symm c_1
set_option maxHeartbeats 4000000 in
set_option maxRecDepth 100000 in
theorem lc_read {X : gx_T} {D : va_G} {ad o : Nat → Nat} {ct : Nat → ClassId} {F S w0 b L j : Nat} {xs : Nat → Int32} {φ : Nat → Nat} {σ : ph_S} {μ : pm_S} {f : Nat → Int64} (C : gC X cL_law 7 RL room_1 ret D (gt ct) (fun _ _ => False)) (CS : gS X b L xs) (CH : gCH X) (hL : L ≤ 2050) (hj : 6 + 4 * j ≤ L) (hR : pr_R F S 0 φ σ μ) (hok : ph_ok F S σ)
    (hk : ∀ (φ' : Nat → Nat) (σ' : ph_S) (μ' : pm_S) (f' : Nat → Int64), pr_R F S 0 φ' σ' μ' → ph_ok F S σ' → gV X (30 + 3 * (j + 1)) (6000 + 17 * (j + 1)) (lwW ad ct F S σ' w0 f' o μ') 568 [(4, .int (nI (2 + 4 * j))), (3, .ref w0), (2, .ref (o 0)), (1, .ref (ad 0)), (0, .ref b)] []) : gV X (30 + 3 * j) (6000 + 17 * j) (lwW ad ct F S σ w0 f o μ) 191 [(4, .int (nI (2 + 4 * j))), (3, .ref w0), (2, .ref (o 0)), (1, .ref (ad 0)), (0, .ref b)] [] := by
  have mok := R_mok hR hok
  have hR0 : pr_R F S 0 φ σ (pm_sI μ 0 0) := R_thrown hR 0
  refine gV_aload_n (pc := 191) (x := ad 0) C dL_law_191 3 rfl rfl ?_
  refine gV_aload_n (pc := 192) (x := b) C dL_law_192 4 rfl rfl ?_
  refine gV_iload (pc := 193) C dL_law_193 0 rfl ?_
  refine gV_iconst (pc := 195) (v := 1) C dL_law_195 (by decide) ?_
  refine gV_iadd (pc := 196) C dL_law_196 ?_
  rw [show nI (2 + 4 * j) + 1 = nI (2 + 4 * j + 1) from nI_add _ 1]
  refine gV_sld (pc := 197) C CS (vp_in_nI (by omega) (by omega)) dL_law_197 ?_
  rw [nI_clamp (by omega)]
  refine gV_aload_n (pc := 198) (x := b) C dL_law_198 4 rfl rfl ?_
  refine gV_iload (pc := 199) C dL_law_199 0 rfl ?_
  refine gV_iconst (pc := 201) (v := 2) C dL_law_201 (by decide) ?_
  refine gV_iadd (pc := 202) C dL_law_202 ?_
  rw [show nI (2 + 4 * j) + 2 = nI (2 + 4 * j + 2) from nI_add _ 2]
  refine gV_sld (pc := 203) C CS (vp_in_nI (by omega) (by omega)) dL_law_203 ?_
  rw [nI_clamp (by omega)]
  refine gV_aload_n (pc := 204) (x := w0) C dL_law_204 1 rfl rfl ?_
  refine gL_sh (pc := 205) (hh := [(0, 10, 13, 13), (0, 10, 17, 15)]) (np := 4) (As := [.ref (ad 0), .int (xs (2 + 4 * j + 1)), .int (xs (2 + 4 * j + 2)), .ref w0]) (rest := []) C CH (pw_t 192 (by decide +kernel) rfl) (pw_t 194 rfl rfl) (pw_t 0 (by decide +kernel) rfl) (by decide +kernel) (pw_t 193 (by decide +kernel) rfl) (e_read (xs (2 + 4 * j + 1)) (xs (2 + 4 * j + 2)) hok) rfl rfl ⟨by decide, by decide⟩ (Nat.le_of_ble_eq_true rfl) (show 30 + 3 * j + 2 ≤ 601024 by omega) (show 6000 + 17 * j + 12 ≤ 7293000 by omega) dL_law_205 ?_
  rintro t σ' f' (⟨h0, rfl, hσ, hf⟩ | ⟨h0, rfl, hσ⟩)
  · rw [hσ]
    refine gV_istore (pc := 208) (lv' := [(5, .int 0), (4, .int (nI (2 + 4 * j))), (3, .ref w0), (2, .ref (o 0)), (1, .ref (ad 0)), (0, .ref b)]) C dL_law_208 (by decide) rfl ?_
    refine gV_aload_n (pc := 210) (x := o 0) C dL_law_210 3 rfl rfl ?_
    refine gV_aload_n (pc := 211) (x := b) C dL_law_211 5 rfl rfl ?_
    refine gV_iload (pc := 212) C dL_law_212 1 rfl ?_
    refine gV_iconst (pc := 214) (v := 1) C dL_law_214 (by decide) ?_
    refine gV_iadd (pc := 215) C dL_law_215 ?_
    rw [show nI (2 + 4 * j) + 1 = nI (2 + 4 * j + 1) from nI_add _ 1]
    refine gV_sld (pc := 216) C CS (vp_in_nI (by omega) (by omega)) dL_law_216 ?_
    rw [nI_clamp (by omega)]
    refine gV_aload_n (pc := 217) (x := b) C dL_law_217 5 rfl rfl ?_
    refine gV_iload (pc := 218) C dL_law_218 1 rfl ?_
    refine gV_iconst (pc := 220) (v := 2) C dL_law_220 (by decide) ?_
    refine gV_iadd (pc := 221) C dL_law_221 ?_
    rw [show nI (2 + 4 * j) + 2 = nI (2 + 4 * j + 2) from nI_add _ 2]
    refine gV_sld (pc := 222) C CS (vp_in_nI (by omega) (by omega)) dL_law_222 ?_
    rw [nI_clamp (by omega)]
    refine gL_mv (pc := 223) (As := [.int (xs (2 + 4 * j + 1)), .int (xs (2 + 4 * j + 2))]) (rest := []) C ml_L_53 gy_X3_read gv_X3_read (d_read (xs (2 + 4 * j + 1)) (xs (2 + 4 * j + 2)) mok (S_read hR hok (xs (2 + 4 * j + 1)) (xs (2 + 4 * j + 2))).1) rfl rfl rfl ⟨by decide, by decide⟩ (Nat.le_of_ble_eq_true rfl) (show 30 + 3 * j + 2 + 0 ≤ 601024 by omega) (show 6000 + 17 * j + 12 + 0 ≤ 7293000 by omega) dL_law_223 ?_
    refine gV_istore (pc := 226) (lv' := [(6, .int (pm_rdR F S μ (xs (2 + 4 * j + 1)) (xs (2 + 4 * j + 2)))), (5, .int 0), (4, .int (nI (2 + 4 * j))), (3, .ref w0), (2, .ref (o 0)), (1, .ref (ad 0)), (0, .ref b)]) C dL_law_226 (by decide) rfl ?_
    refine gV_aload_n (pc := 228) (x := o 0) C dL_law_228 4 rfl rfl ?_
    refine gL_mv (pc := 229) (As := []) (rest := []) C ml_L_54 gy_X3_thrown gv_X3_thrown (d_thrown) rfl rfl rfl ⟨by decide, by decide⟩ (Nat.le_of_ble_eq_true rfl) (show 30 + 3 * j + 2 + 0 + 0 ≤ 601024 by omega) (show 6000 + 17 * j + 12 + 0 + 0 ≤ 7293000 by omega) dL_law_229 ?_
    refine gV_iload (pc := 232) C dL_law_232 1 rfl ?_
    have eT : pm_I (pm_rdX F S μ (xs (2 + 4 * j + 1)) (xs (2 + 4 * j + 2))) 0 = 0 := by rw [I0_rd, S_rdT hR hok (xs (2 + 4 * j + 1)) (xs (2 + 4 * j + 2)), h0]; rfl
    refine gV_icmp_eq (pc := 234) C 239 dL_law_234 (by decide) (fun c_1 => ?_) (fun c_1 => absurd eT c_1)
    refine gV_iload (pc := 239) C dL_law_239 1 rfl ?_
    refine gV_if_ne (pc := 241) C 256 dL_law_241 (by decide) (fun c_2 => absurd rfl c_2) (fun c_2 => ?_)
    refine gV_aload_n (pc := 244) (x := w0) C dL_law_244 3 rfl rfl ?_
    refine gV_iconst (pc := 245) (v := 0) C dL_law_245 (by decide) ?_
    refine gL_ld (pc := 246) C dL_law_246 ?_
    refine gV_iload (pc := 247) C dL_law_247 0 rfl ?_
    refine gV_i2l (pc := 249) C dL_law_249 ?_
    refine gV_lcmp (pc := 250) C dL_law_250 ?_
    refine gV_if_eq (pc := 251) C 256 dL_law_251 (by decide) (fun c_3 => ?_) (fun c_3 => absurd ((lg_cmp_eq _ _).mpr (by rw [hf, ((S_read hR hok (xs (2 + 4 * j + 1)) (xs (2 + 4 * j + 2))).2.1 h0).1])) c_3)
    refine gV_goto (pc := 256) C 568 dL_law_256 (by decide) ?_
    refine gV_lv [2, 3, 4, 5, 6] rfl ?_
    exact gV_widen (show 30 + 3 * j + 2 + 0 + 0 ≤ 30 + 3 * (j + 1) by omega) (show 6000 + 17 * j + 12 + 0 + 0 ≤ 6000 + 17 * (j + 1) by omega) (hk φ _ _ f' ((S_read hR hok (xs (2 + 4 * j + 1)) (xs (2 + 4 * j + 2))).2.1 h0).2.1 ((S_read hR hok (xs (2 + 4 * j + 1)) (xs (2 + 4 * j + 2))).2.1 h0).2.2)
  · rw [hσ]
    refine gV_istore (pc := 208) (lv' := [(5, .int (nI (ph_rdT F S σ (xs (2 + 4 * j + 1)) (xs (2 + 4 * j + 2))))), (4, .int (nI (2 + 4 * j))), (3, .ref w0), (2, .ref (o 0)), (1, .ref (ad 0)), (0, .ref b)]) C dL_law_208 (by decide) rfl ?_
    refine gV_aload_n (pc := 210) (x := o 0) C dL_law_210 3 rfl rfl ?_
    refine gV_aload_n (pc := 211) (x := b) C dL_law_211 5 rfl rfl ?_
    refine gV_iload (pc := 212) C dL_law_212 1 rfl ?_
    refine gV_iconst (pc := 214) (v := 1) C dL_law_214 (by decide) ?_
    refine gV_iadd (pc := 215) C dL_law_215 ?_
    rw [show nI (2 + 4 * j) + 1 = nI (2 + 4 * j + 1) from nI_add _ 1]
    refine gV_sld (pc := 216) C CS (vp_in_nI (by omega) (by omega)) dL_law_216 ?_
    rw [nI_clamp (by omega)]
    refine gV_aload_n (pc := 217) (x := b) C dL_law_217 5 rfl rfl ?_
    refine gV_iload (pc := 218) C dL_law_218 1 rfl ?_
    refine gV_iconst (pc := 220) (v := 2) C dL_law_220 (by decide) ?_
    refine gV_iadd (pc := 221) C dL_law_221 ?_
    rw [show nI (2 + 4 * j) + 2 = nI (2 + 4 * j + 2) from nI_add _ 2]
    refine gV_sld (pc := 222) C CS (vp_in_nI (by omega) (by omega)) dL_law_222 ?_
    rw [nI_clamp (by omega)]
    refine gL_mv (pc := 223) (As := [.int (xs (2 + 4 * j + 1)), .int (xs (2 + 4 * j + 2))]) (rest := []) C ml_L_53 gy_X3_read gv_X3_read (d_read (xs (2 + 4 * j + 1)) (xs (2 + 4 * j + 2)) mok (S_read hR hok (xs (2 + 4 * j + 1)) (xs (2 + 4 * j + 2))).1) rfl rfl rfl ⟨by decide, by decide⟩ (Nat.le_of_ble_eq_true rfl) (show 30 + 3 * j + 2 + 0 ≤ 601024 by omega) (show 6000 + 17 * j + 12 + 0 ≤ 7293000 by omega) dL_law_223 ?_
    refine gV_istore (pc := 226) (lv' := [(6, .int (pm_rdR F S μ (xs (2 + 4 * j + 1)) (xs (2 + 4 * j + 2)))), (5, .int (nI (ph_rdT F S σ (xs (2 + 4 * j + 1)) (xs (2 + 4 * j + 2))))), (4, .int (nI (2 + 4 * j))), (3, .ref w0), (2, .ref (o 0)), (1, .ref (ad 0)), (0, .ref b)]) C dL_law_226 (by decide) rfl ?_
    refine gV_aload_n (pc := 228) (x := o 0) C dL_law_228 4 rfl rfl ?_
    refine gL_mv (pc := 229) (As := []) (rest := []) C ml_L_54 gy_X3_thrown gv_X3_thrown (d_thrown) rfl rfl rfl ⟨by decide, by decide⟩ (Nat.le_of_ble_eq_true rfl) (show 30 + 3 * j + 2 + 0 + 0 ≤ 601024 by omega) (show 6000 + 17 * j + 12 + 0 + 0 ≤ 7293000 by omega) dL_law_229 ?_
    refine gV_iload (pc := 232) C dL_law_232 1 rfl ?_
    have eT : pm_I (pm_rdX F S μ (xs (2 + 4 * j + 1)) (xs (2 + 4 * j + 2))) 0 = nI (ph_rdT F S σ (xs (2 + 4 * j + 1)) (xs (2 + 4 * j + 2))) := by rw [I0_rd, S_rdT hR hok (xs (2 + 4 * j + 1)) (xs (2 + 4 * j + 2))]
    refine gV_icmp_eq (pc := 234) C 239 dL_law_234 (by decide) (fun c_1 => ?_) (fun c_1 => absurd eT c_1)
    refine gV_iload (pc := 239) C dL_law_239 1 rfl ?_
    refine gV_if_ne (pc := 241) C 256 dL_law_241 (by decide) (fun c_2 => ?_) (fun c_2 => absurd c_2 (nI_ne0 (by omega) (by have := rdT_le F S σ (xs (2 + 4 * j + 1)) (xs (2 + 4 * j + 2)); omega)))
    refine gV_goto (pc := 256) C 568 dL_law_256 (by decide) ?_
    refine gV_lv [2, 3, 4, 5, 6] rfl ?_
    exact gV_widen (show 30 + 3 * j + 2 + 0 + 0 ≤ 30 + 3 * (j + 1) by omega) (show 6000 + 17 * j + 12 + 0 + 0 ≤ 6000 + 17 * (j + 1) by omega) (hk φ _ _ f' ((S_read hR hok (xs (2 + 4 * j + 1)) (xs (2 + 4 * j + 2))).2.2 h0) hok)
set_option maxHeartbeats 4000000 in
set_option maxRecDepth 100000 in
theorem lc_write {X : gx_T} {D : va_G} {ad o : Nat → Nat} {ct : Nat → ClassId} {F S w0 b L j : Nat} {xs : Nat → Int32} {φ : Nat → Nat} {σ : ph_S} {μ : pm_S} {f : Nat → Int64} (C : gC X cL_law 7 RL room_1 ret D (gt ct) (fun _ _ => False)) (CS : gS X b L xs) (CH : gCH X) (hL : L ≤ 2050) (hj : 6 + 4 * j ≤ L) (hR : pr_R F S 0 φ σ μ) (hok : ph_ok F S σ)
    (hk : ∀ (φ' : Nat → Nat) (σ' : ph_S) (μ' : pm_S) (f' : Nat → Int64), pr_R F S 0 φ' σ' μ' → ph_ok F S σ' → gV X (30 + 3 * (j + 1)) (6000 + 17 * (j + 1)) (lwW ad ct F S σ' w0 f' o μ') 568 [(4, .int (nI (2 + 4 * j))), (3, .ref w0), (2, .ref (o 0)), (1, .ref (ad 0)), (0, .ref b)] []) : gV X (30 + 3 * j) (6000 + 17 * j) (lwW ad ct F S σ w0 f o μ) 259 [(4, .int (nI (2 + 4 * j))), (3, .ref w0), (2, .ref (o 0)), (1, .ref (ad 0)), (0, .ref b)] [] := by
  have mok := R_mok hR hok
  have hR0 : pr_R F S 0 φ σ (pm_sI μ 0 0) := R_thrown hR 0
  refine gV_aload_n (pc := 259) (x := ad 0) C dL_law_259 3 rfl rfl ?_
  refine gV_aload_n (pc := 260) (x := b) C dL_law_260 4 rfl rfl ?_
  refine gV_iload (pc := 261) C dL_law_261 0 rfl ?_
  refine gV_iconst (pc := 263) (v := 1) C dL_law_263 (by decide) ?_
  refine gV_iadd (pc := 264) C dL_law_264 ?_
  rw [show nI (2 + 4 * j) + 1 = nI (2 + 4 * j + 1) from nI_add _ 1]
  refine gV_sld (pc := 265) C CS (vp_in_nI (by omega) (by omega)) dL_law_265 ?_
  rw [nI_clamp (by omega)]
  refine gV_aload_n (pc := 266) (x := b) C dL_law_266 4 rfl rfl ?_
  refine gV_iload (pc := 267) C dL_law_267 0 rfl ?_
  refine gV_iconst (pc := 269) (v := 2) C dL_law_269 (by decide) ?_
  refine gV_iadd (pc := 270) C dL_law_270 ?_
  rw [show nI (2 + 4 * j) + 2 = nI (2 + 4 * j + 2) from nI_add _ 2]
  refine gV_sld (pc := 271) C CS (vp_in_nI (by omega) (by omega)) dL_law_271 ?_
  rw [nI_clamp (by omega)]
  refine gV_aload_n (pc := 272) (x := b) C dL_law_272 4 rfl rfl ?_
  refine gV_iload (pc := 273) C dL_law_273 0 rfl ?_
  refine gV_iconst (pc := 275) (v := 3) C dL_law_275 (by decide) ?_
  refine gV_iadd (pc := 276) C dL_law_276 ?_
  rw [show nI (2 + 4 * j) + 3 = nI (2 + 4 * j + 3) from nI_add _ 3]
  refine gV_sld (pc := 277) C CS (vp_in_nI (by omega) (by omega)) dL_law_277 ?_
  rw [nI_clamp (by omega)]
  refine gV_aload_n (pc := 278) (x := w0) C dL_law_278 1 rfl rfl ?_
  refine gL_sh (pc := 279) (hh := [(0, 12, 15, 13), (0, 12, 19, 15)]) (np := 5) (As := [.ref (ad 0), .int (xs (2 + 4 * j + 1)), .int (xs (2 + 4 * j + 2)), .int (xs (2 + 4 * j + 3)), .ref w0]) (rest := []) C CH (pw_t 320 (by decide +kernel) rfl) (pw_t 322 rfl rfl) (pw_t 0 (by decide +kernel) rfl) (by decide +kernel) (pw_t 321 (by decide +kernel) rfl) (e_write (xs (2 + 4 * j + 1)) (xs (2 + 4 * j + 2)) (xs (2 + 4 * j + 3)) hok) rfl rfl ⟨by decide, by decide⟩ (Nat.le_of_ble_eq_true rfl) (show 30 + 3 * j + 3 ≤ 601024 by omega) (show 6000 + 17 * j + 17 ≤ 7293000 by omega) dL_law_279 ?_
  rintro t σ' f' (⟨h0, rfl, ⟨b9, σ9, ho, hσ⟩, hf⟩ | ⟨h0, rfl, hσ⟩)
  · rw [hσ]
    refine gV_istore (pc := 282) (lv' := [(5, .int 0), (4, .int (nI (2 + 4 * j))), (3, .ref w0), (2, .ref (o 0)), (1, .ref (ad 0)), (0, .ref b)]) C dL_law_282 (by decide) rfl ?_
    refine gV_aload_n (pc := 284) (x := o 0) C dL_law_284 3 rfl rfl ?_
    refine gV_aload_n (pc := 285) (x := b) C dL_law_285 5 rfl rfl ?_
    refine gV_iload (pc := 286) C dL_law_286 1 rfl ?_
    refine gV_iconst (pc := 288) (v := 1) C dL_law_288 (by decide) ?_
    refine gV_iadd (pc := 289) C dL_law_289 ?_
    rw [show nI (2 + 4 * j) + 1 = nI (2 + 4 * j + 1) from nI_add _ 1]
    refine gV_sld (pc := 290) C CS (vp_in_nI (by omega) (by omega)) dL_law_290 ?_
    rw [nI_clamp (by omega)]
    refine gV_aload_n (pc := 291) (x := b) C dL_law_291 5 rfl rfl ?_
    refine gV_iload (pc := 292) C dL_law_292 1 rfl ?_
    refine gV_iconst (pc := 294) (v := 2) C dL_law_294 (by decide) ?_
    refine gV_iadd (pc := 295) C dL_law_295 ?_
    rw [show nI (2 + 4 * j) + 2 = nI (2 + 4 * j + 2) from nI_add _ 2]
    refine gV_sld (pc := 296) C CS (vp_in_nI (by omega) (by omega)) dL_law_296 ?_
    rw [nI_clamp (by omega)]
    refine gV_aload_n (pc := 297) (x := b) C dL_law_297 5 rfl rfl ?_
    refine gV_iload (pc := 298) C dL_law_298 1 rfl ?_
    refine gV_iconst (pc := 300) (v := 3) C dL_law_300 (by decide) ?_
    refine gV_iadd (pc := 301) C dL_law_301 ?_
    rw [show nI (2 + 4 * j) + 3 = nI (2 + 4 * j + 3) from nI_add _ 3]
    refine gV_sld (pc := 302) C CS (vp_in_nI (by omega) (by omega)) dL_law_302 ?_
    rw [nI_clamp (by omega)]
    refine gL_mv (pc := 303) (As := [.int (xs (2 + 4 * j + 1)), .int (xs (2 + 4 * j + 2)), .int (xs (2 + 4 * j + 3))]) (rest := []) C ml_L_61 gy_X3_write gv_X3_write (d_write (xs (2 + 4 * j + 1)) (xs (2 + 4 * j + 2)) (xs (2 + 4 * j + 3)) mok (S_write hR hok (xs (2 + 4 * j + 1)) (xs (2 + 4 * j + 2)) (xs (2 + 4 * j + 3))).1 (S_write hR hok (xs (2 + 4 * j + 1)) (xs (2 + 4 * j + 2)) (xs (2 + 4 * j + 3))).2.1) rfl rfl rfl ⟨by decide, by decide⟩ (Nat.le_of_ble_eq_true rfl) (show 30 + 3 * j + 3 + 0 ≤ 601024 by omega) (show 6000 + 17 * j + 17 + 0 ≤ 7293000 by omega) dL_law_303 ?_
    refine gV_istore (pc := 306) (lv' := [(6, .int (pm_wrR F S μ (xs (2 + 4 * j + 1)) (xs (2 + 4 * j + 2)))), (5, .int 0), (4, .int (nI (2 + 4 * j))), (3, .ref w0), (2, .ref (o 0)), (1, .ref (ad 0)), (0, .ref b)]) C dL_law_306 (by decide) rfl ?_
    refine gV_aload_n (pc := 308) (x := o 0) C dL_law_308 4 rfl rfl ?_
    refine gL_mv (pc := 309) (As := []) (rest := []) C ml_L_54 gy_X3_thrown gv_X3_thrown (d_thrown) rfl rfl rfl ⟨by decide, by decide⟩ (Nat.le_of_ble_eq_true rfl) (show 30 + 3 * j + 3 + 0 + 0 ≤ 601024 by omega) (show 6000 + 17 * j + 17 + 0 + 0 ≤ 7293000 by omega) dL_law_309 ?_
    refine gV_iload (pc := 312) C dL_law_312 1 rfl ?_
    have eT : pm_I (pm_wrX F S μ (xs (2 + 4 * j + 1)) (xs (2 + 4 * j + 2)) (xs (2 + 4 * j + 3))) 0 = 0 := by rw [I0_wr, S_wrT hR hok (xs (2 + 4 * j + 1)) (xs (2 + 4 * j + 2)), h0]; rfl
    refine gV_icmp_eq (pc := 314) C 319 dL_law_314 (by decide) (fun c_1 => ?_) (fun c_1 => absurd eT c_1)
    refine gV_iload (pc := 319) C dL_law_319 1 rfl ?_
    refine gV_if_ne (pc := 321) C 336 dL_law_321 (by decide) (fun c_2 => absurd rfl c_2) (fun c_2 => ?_)
    refine gV_aload_n (pc := 324) (x := w0) C dL_law_324 3 rfl rfl ?_
    refine gV_iconst (pc := 325) (v := 0) C dL_law_325 (by decide) ?_
    refine gL_ld (pc := 326) C dL_law_326 ?_
    refine gV_iload (pc := 327) C dL_law_327 0 rfl ?_
    refine gV_i2l (pc := 329) C dL_law_329 ?_
    refine gV_lcmp (pc := 330) C dL_law_330 ?_
    refine gV_if_eq (pc := 331) C 336 dL_law_331 (by decide) (fun c_3 => ?_) (fun c_3 => absurd ((lg_cmp_eq _ _).mpr (by rw [hf, ((S_write hR hok (xs (2 + 4 * j + 1)) (xs (2 + 4 * j + 2)) (xs (2 + 4 * j + 3))).2.2.1 h0 b9 σ9 ho).1])) c_3)
    refine gV_goto (pc := 336) C 568 dL_law_336 (by decide) ?_
    obtain ⟨φ9, hR9⟩ := ((S_write hR hok (xs (2 + 4 * j + 1)) (xs (2 + 4 * j + 2)) (xs (2 + 4 * j + 3))).2.2.1 h0 b9 σ9 ho).2.1
    refine gV_lv [2, 3, 4, 5, 6] rfl ?_
    exact gV_widen (show 30 + 3 * j + 3 + 0 + 0 ≤ 30 + 3 * (j + 1) by omega) (show 6000 + 17 * j + 17 + 0 + 0 ≤ 6000 + 17 * (j + 1) by omega) (hk φ9 _ _ f' hR9 ((S_write hR hok (xs (2 + 4 * j + 1)) (xs (2 + 4 * j + 2)) (xs (2 + 4 * j + 3))).2.2.1 h0 b9 σ9 ho).2.2)
  · rw [hσ]
    refine gV_istore (pc := 282) (lv' := [(5, .int (nI (ph_wrT F S σ (xs (2 + 4 * j + 1)) (xs (2 + 4 * j + 2))))), (4, .int (nI (2 + 4 * j))), (3, .ref w0), (2, .ref (o 0)), (1, .ref (ad 0)), (0, .ref b)]) C dL_law_282 (by decide) rfl ?_
    refine gV_aload_n (pc := 284) (x := o 0) C dL_law_284 3 rfl rfl ?_
    refine gV_aload_n (pc := 285) (x := b) C dL_law_285 5 rfl rfl ?_
    refine gV_iload (pc := 286) C dL_law_286 1 rfl ?_
    refine gV_iconst (pc := 288) (v := 1) C dL_law_288 (by decide) ?_
    refine gV_iadd (pc := 289) C dL_law_289 ?_
    rw [show nI (2 + 4 * j) + 1 = nI (2 + 4 * j + 1) from nI_add _ 1]
    refine gV_sld (pc := 290) C CS (vp_in_nI (by omega) (by omega)) dL_law_290 ?_
    rw [nI_clamp (by omega)]
    refine gV_aload_n (pc := 291) (x := b) C dL_law_291 5 rfl rfl ?_
    refine gV_iload (pc := 292) C dL_law_292 1 rfl ?_
    refine gV_iconst (pc := 294) (v := 2) C dL_law_294 (by decide) ?_
    refine gV_iadd (pc := 295) C dL_law_295 ?_
    rw [show nI (2 + 4 * j) + 2 = nI (2 + 4 * j + 2) from nI_add _ 2]
    refine gV_sld (pc := 296) C CS (vp_in_nI (by omega) (by omega)) dL_law_296 ?_
    rw [nI_clamp (by omega)]
    refine gV_aload_n (pc := 297) (x := b) C dL_law_297 5 rfl rfl ?_
    refine gV_iload (pc := 298) C dL_law_298 1 rfl ?_
    refine gV_iconst (pc := 300) (v := 3) C dL_law_300 (by decide) ?_
    refine gV_iadd (pc := 301) C dL_law_301 ?_
    rw [show nI (2 + 4 * j) + 3 = nI (2 + 4 * j + 3) from nI_add _ 3]
    refine gV_sld (pc := 302) C CS (vp_in_nI (by omega) (by omega)) dL_law_302 ?_
    rw [nI_clamp (by omega)]
    refine gL_mv (pc := 303) (As := [.int (xs (2 + 4 * j + 1)), .int (xs (2 + 4 * j + 2)), .int (xs (2 + 4 * j + 3))]) (rest := []) C ml_L_61 gy_X3_write gv_X3_write (d_write (xs (2 + 4 * j + 1)) (xs (2 + 4 * j + 2)) (xs (2 + 4 * j + 3)) mok (S_write hR hok (xs (2 + 4 * j + 1)) (xs (2 + 4 * j + 2)) (xs (2 + 4 * j + 3))).1 (S_write hR hok (xs (2 + 4 * j + 1)) (xs (2 + 4 * j + 2)) (xs (2 + 4 * j + 3))).2.1) rfl rfl rfl ⟨by decide, by decide⟩ (Nat.le_of_ble_eq_true rfl) (show 30 + 3 * j + 3 + 0 ≤ 601024 by omega) (show 6000 + 17 * j + 17 + 0 ≤ 7293000 by omega) dL_law_303 ?_
    refine gV_istore (pc := 306) (lv' := [(6, .int (pm_wrR F S μ (xs (2 + 4 * j + 1)) (xs (2 + 4 * j + 2)))), (5, .int (nI (ph_wrT F S σ (xs (2 + 4 * j + 1)) (xs (2 + 4 * j + 2))))), (4, .int (nI (2 + 4 * j))), (3, .ref w0), (2, .ref (o 0)), (1, .ref (ad 0)), (0, .ref b)]) C dL_law_306 (by decide) rfl ?_
    refine gV_aload_n (pc := 308) (x := o 0) C dL_law_308 4 rfl rfl ?_
    refine gL_mv (pc := 309) (As := []) (rest := []) C ml_L_54 gy_X3_thrown gv_X3_thrown (d_thrown) rfl rfl rfl ⟨by decide, by decide⟩ (Nat.le_of_ble_eq_true rfl) (show 30 + 3 * j + 3 + 0 + 0 ≤ 601024 by omega) (show 6000 + 17 * j + 17 + 0 + 0 ≤ 7293000 by omega) dL_law_309 ?_
    refine gV_iload (pc := 312) C dL_law_312 1 rfl ?_
    have eT : pm_I (pm_wrX F S μ (xs (2 + 4 * j + 1)) (xs (2 + 4 * j + 2)) (xs (2 + 4 * j + 3))) 0 = nI (ph_wrT F S σ (xs (2 + 4 * j + 1)) (xs (2 + 4 * j + 2))) := by rw [I0_wr, S_wrT hR hok (xs (2 + 4 * j + 1)) (xs (2 + 4 * j + 2))]
    refine gV_icmp_eq (pc := 314) C 319 dL_law_314 (by decide) (fun c_1 => ?_) (fun c_1 => absurd eT c_1)
    refine gV_iload (pc := 319) C dL_law_319 1 rfl ?_
    refine gV_if_ne (pc := 321) C 336 dL_law_321 (by decide) (fun c_2 => ?_) (fun c_2 => absurd c_2 (nI_ne0 (by omega) (by have := wrT_le F S σ (xs (2 + 4 * j + 1)) (xs (2 + 4 * j + 2)); omega)))
    refine gV_goto (pc := 336) C 568 dL_law_336 (by decide) ?_
    refine gV_lv [2, 3, 4, 5, 6] rfl ?_
    exact gV_widen (show 30 + 3 * j + 3 + 0 + 0 ≤ 30 + 3 * (j + 1) by omega) (show 6000 + 17 * j + 17 + 0 + 0 ≤ 6000 + 17 * (j + 1) by omega) (hk φ _ _ f' ((S_write hR hok (xs (2 + 4 * j + 1)) (xs (2 + 4 * j + 2)) (xs (2 + 4 * j + 3))).2.2.2 h0) hok)
theorem sdT_le (S : Nat) (s i : Int32) : ph_sdT S s i ≤ 1 := by
  unfold ph_sdT
  split
  · omega
  · split
    · omega
    · split <;> omega
set_option maxHeartbeats 4000000 in
set_option maxRecDepth 100000 in
theorem lc_stored {X : gx_T} {D : va_G} {ad o : Nat → Nat} {ct : Nat → ClassId} {F S w0 b L j : Nat} {xs : Nat → Int32} {φ : Nat → Nat} {σ : ph_S} {μ : pm_S} {f : Nat → Int64} (C : gC X cL_law 7 RL room_1 ret D (gt ct) (fun _ _ => False)) (CS : gS X b L xs) (CH : gCH X) (hL : L ≤ 2050) (hj : 6 + 4 * j ≤ L) (hR : pr_R F S 0 φ σ μ) (hok : ph_ok F S σ)
    (hk : ∀ (φ' : Nat → Nat) (σ' : ph_S) (μ' : pm_S) (f' : Nat → Int64), pr_R F S 0 φ' σ' μ' → ph_ok F S σ' → gV X (30 + 3 * (j + 1)) (6000 + 17 * (j + 1)) (lwW ad ct F S σ' w0 f' o μ') 568 [(4, .int (nI (2 + 4 * j))), (3, .ref w0), (2, .ref (o 0)), (1, .ref (ad 0)), (0, .ref b)] []) : gV X (30 + 3 * j) (6000 + 17 * j) (lwW ad ct F S σ w0 f o μ) 475 [(4, .int (nI (2 + 4 * j))), (3, .ref w0), (2, .ref (o 0)), (1, .ref (ad 0)), (0, .ref b)] [] := by
  have mok := R_mok hR hok
  have hR0 : pr_R F S 0 φ σ (pm_sI μ 0 0) := R_thrown hR 0
  refine gV_aload_n (pc := 475) (x := ad 0) C dL_law_475 3 rfl rfl ?_
  refine gV_aload_n (pc := 476) (x := b) C dL_law_476 4 rfl rfl ?_
  refine gV_iload (pc := 477) C dL_law_477 0 rfl ?_
  refine gV_iconst (pc := 479) (v := 1) C dL_law_479 (by decide) ?_
  refine gV_iadd (pc := 480) C dL_law_480 ?_
  rw [show nI (2 + 4 * j) + 1 = nI (2 + 4 * j + 1) from nI_add _ 1]
  refine gV_sld (pc := 481) C CS (vp_in_nI (by omega) (by omega)) dL_law_481 ?_
  rw [nI_clamp (by omega)]
  refine gV_aload_n (pc := 482) (x := b) C dL_law_482 4 rfl rfl ?_
  refine gV_iload (pc := 483) C dL_law_483 0 rfl ?_
  refine gV_iconst (pc := 485) (v := 2) C dL_law_485 (by decide) ?_
  refine gV_iadd (pc := 486) C dL_law_486 ?_
  rw [show nI (2 + 4 * j) + 2 = nI (2 + 4 * j + 2) from nI_add _ 2]
  refine gV_sld (pc := 487) C CS (vp_in_nI (by omega) (by omega)) dL_law_487 ?_
  rw [nI_clamp (by omega)]
  refine gV_aload_n (pc := 488) (x := w0) C dL_law_488 1 rfl rfl ?_
  refine gL_sh (pc := 489) (hh := [(0, 10, 13, 13)]) (np := 4) (As := [.ref (ad 0), .int (xs (2 + 4 * j + 1)), .int (xs (2 + 4 * j + 2)), .ref w0]) (rest := []) C CH (pw_t 625 (by decide +kernel) rfl) (pw_t 627 rfl rfl) (pw_t 0 (by decide +kernel) rfl) (by decide +kernel) (pw_t 626 (by decide +kernel) rfl) (e_stored (xs (2 + 4 * j + 1)) (xs (2 + 4 * j + 2)) hok.F16 hok.S64) rfl rfl ⟨by decide, by decide⟩ (Nat.le_of_ble_eq_true rfl) (show 30 + 3 * j + 1 ≤ 601024 by omega) (show 6000 + 17 * j + 6 ≤ 7293000 by omega) dL_law_489 ?_
  rintro t σ' f' ⟨hσ, ⟨h0, rfl, hf⟩ | ⟨h0, rfl⟩⟩
  · rw [hσ]
    refine gV_istore (pc := 492) (lv' := [(5, .int 0), (4, .int (nI (2 + 4 * j))), (3, .ref w0), (2, .ref (o 0)), (1, .ref (ad 0)), (0, .ref b)]) C dL_law_492 (by decide) rfl ?_
    refine gV_aload_n (pc := 494) (x := o 0) C dL_law_494 3 rfl rfl ?_
    refine gV_aload_n (pc := 495) (x := b) C dL_law_495 5 rfl rfl ?_
    refine gV_iload (pc := 496) C dL_law_496 1 rfl ?_
    refine gV_iconst (pc := 498) (v := 1) C dL_law_498 (by decide) ?_
    refine gV_iadd (pc := 499) C dL_law_499 ?_
    rw [show nI (2 + 4 * j) + 1 = nI (2 + 4 * j + 1) from nI_add _ 1]
    refine gV_sld (pc := 500) C CS (vp_in_nI (by omega) (by omega)) dL_law_500 ?_
    rw [nI_clamp (by omega)]
    refine gV_aload_n (pc := 501) (x := b) C dL_law_501 5 rfl rfl ?_
    refine gV_iload (pc := 502) C dL_law_502 1 rfl ?_
    refine gV_iconst (pc := 504) (v := 2) C dL_law_504 (by decide) ?_
    refine gV_iadd (pc := 505) C dL_law_505 ?_
    rw [show nI (2 + 4 * j) + 2 = nI (2 + 4 * j + 2) from nI_add _ 2]
    refine gV_sld (pc := 506) C CS (vp_in_nI (by omega) (by omega)) dL_law_506 ?_
    rw [nI_clamp (by omega)]
    refine gL_mv (pc := 507) (As := [.int (xs (2 + 4 * j + 1)), .int (xs (2 + 4 * j + 2))]) (rest := []) C ml_L_81 gy_X3_stored gv_X3_stored (d_stored (xs (2 + 4 * j + 1)) (xs (2 + 4 * j + 2)) mok) rfl rfl rfl ⟨by decide, by decide⟩ (Nat.le_of_ble_eq_true rfl) (show 30 + 3 * j + 1 + 0 ≤ 601024 by omega) (show 6000 + 17 * j + 6 + 0 ≤ 7293000 by omega) dL_law_507 ?_
    refine gV_istore (pc := 510) (lv' := [(6, .int (pm_sdV S μ (xs (2 + 4 * j + 1)) (xs (2 + 4 * j + 2)))), (5, .int 0), (4, .int (nI (2 + 4 * j))), (3, .ref w0), (2, .ref (o 0)), (1, .ref (ad 0)), (0, .ref b)]) C dL_law_510 (by decide) rfl ?_
    refine gV_aload_n (pc := 512) (x := o 0) C dL_law_512 4 rfl rfl ?_
    refine gL_mv (pc := 513) (As := []) (rest := []) C ml_L_54 gy_X3_thrown gv_X3_thrown (d_thrown) rfl rfl rfl ⟨by decide, by decide⟩ (Nat.le_of_ble_eq_true rfl) (show 30 + 3 * j + 1 + 0 + 0 ≤ 601024 by omega) (show 6000 + 17 * j + 6 + 0 + 0 ≤ 7293000 by omega) dL_law_513 ?_
    refine gV_iload (pc := 516) C dL_law_516 1 rfl ?_
    have eT : pm_I (pm_sI μ 0 (pm_sdT S (xs (2 + 4 * j + 1)) (xs (2 + 4 * j + 2)))) 0 = 0 := by show pm_sdT S (xs (2 + 4 * j + 1)) (xs (2 + 4 * j + 2)) = _; rw [S_sdT (xs (2 + 4 * j + 1)) (xs (2 + 4 * j + 2)), h0]; rfl
    refine gV_icmp_eq (pc := 518) C 523 dL_law_518 (by decide) (fun c_1 => ?_) (fun c_1 => absurd eT c_1)
    refine gV_iload (pc := 523) C dL_law_523 1 rfl ?_
    refine gV_if_ne (pc := 525) C 540 dL_law_525 (by decide) (fun c_2 => absurd rfl c_2) (fun c_2 => ?_)
    refine gV_aload_n (pc := 528) (x := w0) C dL_law_528 3 rfl rfl ?_
    refine gV_iconst (pc := 529) (v := 0) C dL_law_529 (by decide) ?_
    refine gL_ld (pc := 530) C dL_law_530 ?_
    refine gV_iload (pc := 531) C dL_law_531 0 rfl ?_
    refine gV_i2l (pc := 533) C dL_law_533 ?_
    refine gV_lcmp (pc := 534) C dL_law_534 ?_
    refine gV_if_eq (pc := 535) C 540 dL_law_535 (by decide) (fun c_3 => ?_) (fun c_3 => absurd ((lg_cmp_eq _ _).mpr (by rw [hf, S_stored hR hok (xs (2 + 4 * j + 1)) (xs (2 + 4 * j + 2)) h0])) c_3)
    refine gV_goto (pc := 540) C 568 dL_law_540 (by decide) ?_
    refine gV_lv [2, 3, 4, 5, 6] rfl ?_
    exact gV_widen (show 30 + 3 * j + 1 + 0 + 0 ≤ 30 + 3 * (j + 1) by omega) (show 6000 + 17 * j + 6 + 0 + 0 ≤ 6000 + 17 * (j + 1) by omega) (hk φ _ _ f' (R_thrown hR _) hok)
  · rw [hσ]
    refine gV_istore (pc := 492) (lv' := [(5, .int (nI (ph_sdT S (xs (2 + 4 * j + 1)) (xs (2 + 4 * j + 2))))), (4, .int (nI (2 + 4 * j))), (3, .ref w0), (2, .ref (o 0)), (1, .ref (ad 0)), (0, .ref b)]) C dL_law_492 (by decide) rfl ?_
    refine gV_aload_n (pc := 494) (x := o 0) C dL_law_494 3 rfl rfl ?_
    refine gV_aload_n (pc := 495) (x := b) C dL_law_495 5 rfl rfl ?_
    refine gV_iload (pc := 496) C dL_law_496 1 rfl ?_
    refine gV_iconst (pc := 498) (v := 1) C dL_law_498 (by decide) ?_
    refine gV_iadd (pc := 499) C dL_law_499 ?_
    rw [show nI (2 + 4 * j) + 1 = nI (2 + 4 * j + 1) from nI_add _ 1]
    refine gV_sld (pc := 500) C CS (vp_in_nI (by omega) (by omega)) dL_law_500 ?_
    rw [nI_clamp (by omega)]
    refine gV_aload_n (pc := 501) (x := b) C dL_law_501 5 rfl rfl ?_
    refine gV_iload (pc := 502) C dL_law_502 1 rfl ?_
    refine gV_iconst (pc := 504) (v := 2) C dL_law_504 (by decide) ?_
    refine gV_iadd (pc := 505) C dL_law_505 ?_
    rw [show nI (2 + 4 * j) + 2 = nI (2 + 4 * j + 2) from nI_add _ 2]
    refine gV_sld (pc := 506) C CS (vp_in_nI (by omega) (by omega)) dL_law_506 ?_
    rw [nI_clamp (by omega)]
    refine gL_mv (pc := 507) (As := [.int (xs (2 + 4 * j + 1)), .int (xs (2 + 4 * j + 2))]) (rest := []) C ml_L_81 gy_X3_stored gv_X3_stored (d_stored (xs (2 + 4 * j + 1)) (xs (2 + 4 * j + 2)) mok) rfl rfl rfl ⟨by decide, by decide⟩ (Nat.le_of_ble_eq_true rfl) (show 30 + 3 * j + 1 + 0 ≤ 601024 by omega) (show 6000 + 17 * j + 6 + 0 ≤ 7293000 by omega) dL_law_507 ?_
    refine gV_istore (pc := 510) (lv' := [(6, .int (pm_sdV S μ (xs (2 + 4 * j + 1)) (xs (2 + 4 * j + 2)))), (5, .int (nI (ph_sdT S (xs (2 + 4 * j + 1)) (xs (2 + 4 * j + 2))))), (4, .int (nI (2 + 4 * j))), (3, .ref w0), (2, .ref (o 0)), (1, .ref (ad 0)), (0, .ref b)]) C dL_law_510 (by decide) rfl ?_
    refine gV_aload_n (pc := 512) (x := o 0) C dL_law_512 4 rfl rfl ?_
    refine gL_mv (pc := 513) (As := []) (rest := []) C ml_L_54 gy_X3_thrown gv_X3_thrown (d_thrown) rfl rfl rfl ⟨by decide, by decide⟩ (Nat.le_of_ble_eq_true rfl) (show 30 + 3 * j + 1 + 0 + 0 ≤ 601024 by omega) (show 6000 + 17 * j + 6 + 0 + 0 ≤ 7293000 by omega) dL_law_513 ?_
    refine gV_iload (pc := 516) C dL_law_516 1 rfl ?_
    have eT : pm_I (pm_sI μ 0 (pm_sdT S (xs (2 + 4 * j + 1)) (xs (2 + 4 * j + 2)))) 0 = nI (ph_sdT S (xs (2 + 4 * j + 1)) (xs (2 + 4 * j + 2))) := by show pm_sdT S (xs (2 + 4 * j + 1)) (xs (2 + 4 * j + 2)) = _; rw [S_sdT (xs (2 + 4 * j + 1)) (xs (2 + 4 * j + 2))]
    refine gV_icmp_eq (pc := 518) C 523 dL_law_518 (by decide) (fun c_1 => ?_) (fun c_1 => absurd eT c_1)
    refine gV_iload (pc := 523) C dL_law_523 1 rfl ?_
    refine gV_if_ne (pc := 525) C 540 dL_law_525 (by decide) (fun c_2 => ?_) (fun c_2 => absurd c_2 (nI_ne0 (by omega) (by have := sdT_le S (xs (2 + 4 * j + 1)) (xs (2 + 4 * j + 2)); omega)))
    refine gV_goto (pc := 540) C 568 dL_law_540 (by decide) ?_
    refine gV_lv [2, 3, 4, 5, 6] rfl ?_
    exact gV_widen (show 30 + 3 * j + 1 + 0 + 0 ≤ 30 + 3 * (j + 1) by omega) (show 6000 + 17 * j + 6 + 0 + 0 ≤ 6000 + 17 * (j + 1) by omega) (hk φ _ _ f' (R_thrown hR _) hok)
