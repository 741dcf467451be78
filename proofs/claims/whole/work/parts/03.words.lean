def pw_all : List Cond := lw_tbl.filter goodWord
def pw_isN : Cond → Bool
  | .fieldLinkNest _ _ _ _ _ _ => true
  | .methodLinkNest _ _ _ _ => true
  | .castable _ _ => true
  | .declares _ => true
  | .arrayOver (.object _) => true
  | _ => false
def pw_nst : List Cond := tables_1.filter pw_isN
theorem pw_t {w : Cond} (i : Nat) (h : tables_1[i]? = some w) (g : goodWord w = true) : w ∈ pw_all := List.mem_filter.mpr ⟨List.mem_append_right _ (List.mem_of_getElem? h), g⟩
theorem pw_s {w : Cond} (i : Nat) (h : (k2_sels lw_privs)[i]? = some w) (g : goodWord w = true) : w ∈ pw_all := List.mem_filter.mpr ⟨List.mem_append_left _ (List.mem_of_getElem? h), g⟩
theorem pw_n {w : Cond} (i : Nat) (h : tables_1[i]? = some w) (g : pw_isN w = true) : w ∈ pw_nst := List.mem_filter.mpr ⟨List.mem_of_getElem? h, g⟩
theorem pw_good : ∀ w ∈ pw_all, goodWord w = true := fun w h => (List.mem_filter.mp h).2
theorem pw_goodIn {ws : List Cond} (h : ∀ w ∈ ws, w ∈ pw_all) : GoodIn pw_all ws := fun w hw => ⟨h w hw, good_of_word (pw_good w (h w hw))⟩
theorem pw_codeIn {w : Cond} (h : w ∈ pw_all) : ∀ u ∈ w :: pw_all, u ∈ pw_all := fun u hu => (List.mem_cons.mp hu).elim (fun e => by rw [e]; exact h) id
theorem pw_nst_cases {w : Cond} (h : w ∈ pw_nst) : w.onTables = true ∨ ∃ C, w = .arrayOver (.object C) := by
  have g := (List.mem_filter.mp h).2
  cases w with
  | arrayOver t => cases t <;> first | exact Or.inr ⟨_, rfl⟩ | (exact absurd g (by simp [pw_isN]))
  | _ => first | exact Or.inl rfl | (exact absurd g (by simp [pw_isN]))
theorem pw_nst_use {w : Cond} (h : w ∈ pw_nst) {A : Array Value} {U : State} (hZ : va_Nw w U) : w.before A U = true := by
  rcases pw_nst_cases h with h1 | ⟨C, rfl⟩
  · exact va_Nw.use h1 hZ
  · exact va_AO.use (C := C) hZ
theorem pw_nst_same {w : Cond} (h : w ∈ pw_nst) {u U : State} (hv : u.vm = U.vm) (hZ : va_Nw w u) : va_Nw w U := by
  rcases pw_nst_cases h with h1 | ⟨C, rfl⟩
  · exact va_Nw.same h1 hv hZ
  · exact va_AO.moved (C := C) (by rw [hv]; exact Vm.Alike.refl _) hZ
theorem pw_nst_warm {s U : State} (hW : s.WarmedH U.vm) (h : ∀ w ∈ pw_nst, va_Nw w s) : ∀ w ∈ pw_nst, va_Nw w U := by
  intro w hw
  have g := (List.mem_filter.mp hw).2
  have h1 := h w hw
  cases w with
  | arrayOver t => cases t <;> first | exact va_AO.moved hW.alike h1 | (exact absurd g (by simp [pw_isN]))
  | _ => first | exact va_Nw.warmF hW h1 | exact va_Nw.warmM hW h1 | exact va_Nw.warmC hW h1 | exact va_Nw.warmD hW h1 | (exact absurd g (by simp [pw_isN]))
theorem pw_fl_X0 : ∀ w ∈ u_ws RX0 TX0 5, w ∈ pw_all := by
  have h : (u_ws RX0 TX0 5).all (fun w => decide (w ∈ tables_1) && goodWord w) = true := by decide +kernel
  intro w hw
  have h1 := List.all_eq_true.mp h w hw
  simp only [Bool.and_eq_true, decide_eq_true_eq] at h1
  exact List.mem_filter.mpr ⟨List.mem_append_right _ h1.1, h1.2⟩
theorem pw_fl_X1 : ∀ w ∈ u_ws RX1 TX1 2, w ∈ pw_all := by
  have h : (u_ws RX1 TX1 2).all (fun w => decide (w ∈ tables_1) && goodWord w) = true := by decide +kernel
  intro w hw
  have h1 := List.all_eq_true.mp h w hw
  simp only [Bool.and_eq_true, decide_eq_true_eq] at h1
  exact List.mem_filter.mpr ⟨List.mem_append_right _ h1.1, h1.2⟩
theorem pw_fl_X2 : ∀ w ∈ u_ws RX2 TX2 11, w ∈ pw_all := by
  have h : (u_ws RX2 TX2 11).all (fun w => decide (w ∈ tables_1) && goodWord w) = true := by decide +kernel
  intro w hw
  have h1 := List.all_eq_true.mp h w hw
  simp only [Bool.and_eq_true, decide_eq_true_eq] at h1
  exact List.mem_filter.mpr ⟨List.mem_append_right _ h1.1, h1.2⟩
theorem pw_fl_X3 : ∀ w ∈ u_ws RX3 TX3 18, w ∈ pw_all := by
  have h : (u_ws RX3 TX3 18).all (fun w => decide (w ∈ tables_1) && goodWord w) = true := by decide +kernel
  intro w hw
  have h1 := List.all_eq_true.mp h w hw
  simp only [Bool.and_eq_true, decide_eq_true_eq] at h1
  exact List.mem_filter.mpr ⟨List.mem_append_right _ h1.1, h1.2⟩
def gl_F (own : String) (idx : Nat) (ref n d : String) : Prop := Cond.fieldLink own idx ref n d ∈ pw_all ∨ ∃ h : String, Cond.fieldLinkNest own idx ref n d h ∈ pw_nst
theorem fl_X2_23 : gl_F RX2 23 "PagerHouse" "frames" "LPagerHouse$Rows;" := Or.inl (pw_t 55 (by decide +kernel) rfl)
theorem fl_X2_27 : gl_F RX2 27 "PagerHouse" "sectors" "LPagerHouse$Rows;" := Or.inl (pw_t 56 (by decide +kernel) rfl)
theorem fl_X2_30 : gl_F RX2 30 "PagerHouse" "used" "[Z" := Or.inl (pw_t 57 (by decide +kernel) rfl)
theorem fl_X2_34 : gl_F RX2 34 "PagerHouse" "pageCounts" "[I" := Or.inl (pw_t 59 (by decide +kernel) rfl)
theorem fl_X2_40 : gl_F RX2 40 "PagerHouse" "bodies" "[LPagerHouse$Body;" := Or.inl (pw_t 60 (by decide +kernel) rfl)
theorem fl_X2_55 : gl_F RX2 55 "PagerHouse$Body" "holders" "I" := Or.inr ⟨"PagerHouse", pw_n 350 (by decide +kernel) rfl⟩
theorem fl_X2_73 : gl_F RX2 73 "PagerHouse" "accesses" "I" := Or.inl (pw_t 61 (by decide +kernel) rfl)
theorem fl_X2_76 : gl_F RX2 76 "PagerHouse$Body" "frame" "I" := Or.inr ⟨"PagerHouse", pw_n 346 (by decide +kernel) rfl⟩
theorem fl_X2_87 : gl_F RX2 87 "PagerHouse$Rows" "words" "[I" := Or.inr ⟨"PagerHouse", pw_n 47 (by decide +kernel) rfl⟩
theorem fl_X2_97 : gl_F RX2 97 "PagerHouse$Body" "dirty" "Z" := Or.inr ⟨"PagerHouse", pw_n 351 (by decide +kernel) rfl⟩
theorem fl_X2_111 : gl_F RX2 111 "PagerHouse$Rows" "content" "[LPagerHouse$Body;" := Or.inr ⟨"PagerHouse", pw_n 45 (by decide +kernel) rfl⟩
theorem fl_X2_118 : gl_F RX2 118 "PagerHouse$Body" "sector" "I" := Or.inr ⟨"PagerHouse", pw_n 348 (by decide +kernel) rfl⟩
theorem fl_X2_127 : gl_F RX2 127 "PagerHouse$Body" "pageNumber" "I" := Or.inr ⟨"PagerHouse", pw_n 344 (by decide +kernel) rfl⟩
theorem fl_X2_140 : gl_F RX2 140 "PagerHouse" "hand" "I" := Or.inl (pw_t 58 (by decide +kernel) rfl)
theorem fl_X2_149 : gl_F RX2 149 "PagerHouse" "taken" "I" := Or.inl (pw_t 62 (by decide +kernel) rfl)
theorem fl_X2_152 : gl_F RX2 152 "PagerHouse" "brought" "I" := Or.inl (pw_t 63 (by decide +kernel) rfl)
theorem fl_X2_155 : gl_F RX2 155 "PagerHouse" "storings" "I" := Or.inl (pw_t 64 (by decide +kernel) rfl)
theorem fl_X2_158 : gl_F RX2 158 "PagerHouse" "copies" "I" := Or.inl (pw_t 65 (by decide +kernel) rfl)
theorem fl_X0_9 : gl_F RX0 9 "PagerHouse$Body" "pageNumber" "I" := Or.inl (pw_t 343 (by decide +kernel) rfl)
theorem fl_X0_15 : gl_F RX0 15 "PagerHouse$Body" "frame" "I" := Or.inl (pw_t 345 (by decide +kernel) rfl)
theorem fl_X0_18 : gl_F RX0 18 "PagerHouse$Body" "sector" "I" := Or.inl (pw_t 347 (by decide +kernel) rfl)
theorem fl_X0_21 : gl_F RX0 21 "PagerHouse$Body" "holders" "I" := Or.inl (pw_t 349 (by decide +kernel) rfl)
theorem fl_X1_11 : gl_F RX1 11 "PagerHouse$Rows" "content" "[LPagerHouse$Body;" := Or.inl (pw_t 44 (by decide +kernel) rfl)
theorem fl_X1_17 : gl_F RX1 17 "PagerHouse$Rows" "words" "[I" := Or.inl (pw_t 46 (by decide +kernel) rfl)
theorem fl_X3_7 : gl_F RX3 7 "PagerHouseModel" "pages" "[I" := Or.inl (pw_t 642 (by decide +kernel) rfl)
theorem fl_X3_13 : gl_F RX3 13 "PagerHouseModel" "bodyOf" "[I" := Or.inl (pw_t 643 (by decide +kernel) rfl)
theorem fl_X3_16 : gl_F RX3 16 "PagerHouseModel" "is" "[Z" := Or.inl (pw_t 644 (by decide +kernel) rfl)
theorem fl_X3_20 : gl_F RX3 20 "PagerHouseModel" "frameOf" "[I" := Or.inl (pw_t 645 (by decide +kernel) rfl)
theorem fl_X3_23 : gl_F RX3 23 "PagerHouseModel" "sectorOf" "[I" := Or.inl (pw_t 646 (by decide +kernel) rfl)
theorem fl_X3_26 : gl_F RX3 26 "PagerHouseModel" "dirty" "[Z" := Or.inl (pw_t 647 (by decide +kernel) rfl)
theorem fl_X3_29 : gl_F RX3 29 "PagerHouseModel" "inFrame" "[I" := Or.inl (pw_t 648 (by decide +kernel) rfl)
theorem fl_X3_32 : gl_F RX3 32 "PagerHouseModel" "inSector" "[I" := Or.inl (pw_t 649 (by decide +kernel) rfl)
theorem fl_X3_35 : gl_F RX3 35 "PagerHouseModel" "used" "[Z" := Or.inl (pw_t 650 (by decide +kernel) rfl)
theorem fl_X3_38 : gl_F RX3 38 "PagerHouseModel" "frames" "I" := Or.inl (pw_t 640 (by decide +kernel) rfl)
theorem fl_X3_42 : gl_F RX3 42 "PagerHouseModel" "sectors" "I" := Or.inl (pw_t 641 (by decide +kernel) rfl)
theorem fl_X3_45 : gl_F RX3 45 "PagerHouseModel" "thrown" "I" := Or.inl (pw_t 639 (by decide +kernel) rfl)
theorem fl_X3_62 : gl_F RX3 62 "PagerHouseModel" "stores" "I" := Or.inl (pw_t 655 (by decide +kernel) rfl)
theorem fl_X3_65 : gl_F RX3 65 "PagerHouseModel" "taken" "I" := Or.inl (pw_t 653 (by decide +kernel) rfl)
theorem fl_X3_68 : gl_F RX3 68 "PagerHouseModel" "hand" "I" := Or.inl (pw_t 651 (by decide +kernel) rfl)
theorem fl_X3_78 : gl_F RX3 78 "PagerHouseModel" "brought" "I" := Or.inl (pw_t 654 (by decide +kernel) rfl)
theorem fl_X3_102 : gl_F RX3 102 "PagerHouseModel" "asked" "I" := Or.inl (pw_t 652 (by decide +kernel) rfl)
theorem fl_X3_111 : gl_F RX3 111 "PagerHouseModel" "copies" "I" := Or.inl (pw_t 656 (by decide +kernel) rfl)
def gl_L (own : String) (idx : Nat) (y : MethodName) : Prop := Cond.methodLink own idx y ∈ pw_all ∨ ∃ h : String, Cond.methodLinkNest own idx y h ∈ pw_nst
/-- the words of a method that is called -/
def gl_Y (y : MethodName) (bytes : ByteArray) (maxL : Nat) (ret : Option FieldType) (n : Nat) : Prop := Cond.code y bytes maxL ret ∈ pw_all ∧ Cond.initialized y.cls ∈ pw_all ∧ (y.cls ≠ "java/lang/invoke/MethodHandle" ∧ y.cls ≠ "java/lang/invoke/VarHandle" ∧ (parseMethodDescriptor y.desc).map (fun d => d.parameters.length) = some n)
def gl_V (y : MethodName) : Prop := Cond.instanceMethod y ∈ pw_all ∧ Cond.selects y.cls y y ∈ pw_all
def gl_I (y : MethodName) : Prop := y.name = "<init>" ∧ Cond.instanceMethod y ∈ pw_all
def gl_S (y : MethodName) : Prop := Cond.static y ∈ pw_all
theorem ml_X2_20 : gl_L RX2 20 yX1_init := Or.inr ⟨"PagerHouse", pw_n 38 (by decide +kernel) rfl⟩
theorem ml_X2_44 : gl_L RX2 44 yX2_leastFreeProcess := Or.inl (pw_t 94 (by decide +kernel) rfl)
theorem ml_X2_48 : gl_L RX2 48 yX2_hasProcess := Or.inl (pw_t 102 (by decide +kernel) rfl)
theorem ml_X2_52 : gl_L RX2 52 yX2_slot := Or.inl (pw_t 106 (by decide +kernel) rfl)
theorem ml_X2_59 : gl_L RX2 59 yX2_empty := Or.inl (pw_t 113 (by decide +kernel) rfl)
theorem ml_X2_62 : gl_L RX2 62 yX2_checkAddress := Or.inl (pw_t 201 (by decide +kernel) rfl)
theorem ml_X2_66 : gl_L RX2 66 yX2_takesToRead := Or.inl (pw_t 273 (by decide +kernel) rfl)
theorem ml_X2_70 : gl_L RX2 70 yX2_checkRoom := Or.inl (pw_t 276 (by decide +kernel) rfl)
theorem ml_X2_79 : gl_L RX2 79 yX2_take := Or.inl (pw_t 296 (by decide +kernel) rfl)
theorem ml_X2_83 : gl_L RX2 83 yX2_bring := Or.inl (pw_t 312 (by decide +kernel) rfl)
theorem ml_X2_90 : gl_L RX2 90 yX2_takesToWrite := Or.inl (pw_t 327 (by decide +kernel) rfl)
theorem ml_X2_93 : gl_L RX2 93 yX2_ownBody := Or.inl (pw_t 330 (by decide +kernel) rfl)
theorem ml_X2_101 : gl_L RX2 101 yX2_hasPage := Or.inl (pw_t 129 (by decide +kernel) rfl)
theorem ml_X2_105 : gl_L RX2 105 yX2_countWithoutSector := Or.inl (pw_t 137 (by decide +kernel) rfl)
theorem ml_X2_108 : gl_L RX2 108 yX1_countFree := Or.inr ⟨"PagerHouse", pw_n 141 (by decide +kernel) rfl⟩
theorem ml_X2_114 : gl_L RX2 114 yX2_store := Or.inl (pw_t 145 (by decide +kernel) rfl)
theorem ml_X2_121 : gl_L RX2 121 yX1_has := Or.inr ⟨"PagerHouse", pw_n 121 (by decide +kernel) rfl⟩
theorem ml_X2_124 : gl_L RX2 124 yX2_leastHolder := Or.inl (pw_t 169 (by decide +kernel) rfl)
theorem ml_X2_137 : gl_L RX2 137 yX2_countProcesses := Or.inl (pw_t 177 (by decide +kernel) rfl)
theorem ml_X2_143 : gl_L RX2 143 yX2_countBodies := Or.inl (pw_t 181 (by decide +kernel) rfl)
theorem ml_X2_146 : gl_L RX2 146 yX2_countDirty := Or.inl (pw_t 185 (by decide +kernel) rfl)
theorem ml_X2_168 : gl_L RX2 168 yX2_newBody := Or.inl (pw_t 334 (by decide +kernel) rfl)
theorem ml_X2_172 : gl_L RX2 172 yX2_copyBody := Or.inl (pw_t 621 (by decide +kernel) rfl)
theorem ml_X2_175 : gl_L RX2 175 yX0_init := Or.inr ⟨"PagerHouse", pw_n 339 (by decide +kernel) rfl⟩
theorem ml_X2_176 : gl_L RX2 176 yX2_lay := Or.inl (pw_t 316 (by decide +kernel) rfl)
theorem ml_X2_179 : gl_L RX2 179 yX1_zero := Or.inr ⟨"PagerHouse", pw_n 363 (by decide +kernel) rfl⟩
theorem ml_X2_182 : gl_L RX2 182 yX1_copyWords := Or.inr ⟨"PagerHouse", pw_n 153 (by decide +kernel) rfl⟩
theorem ml_X2_186 : gl_L RX2 186 yX1_leastFree := Or.inr ⟨"PagerHouse", pw_n 149 (by decide +kernel) rfl⟩
theorem ml_X2_189 : gl_L RX2 189 yX2_secondChance := Or.inl (pw_t 300 (by decide +kernel) rfl)
theorem ml_X2_192 : gl_L RX2 192 yX2_vacate := Or.inl (pw_t 308 (by decide +kernel) rfl)
theorem ml_X2_195 : gl_L RX2 195 yX2_behind := Or.inl (pw_t 304 (by decide +kernel) rfl)
theorem ml_X2_198 : gl_L RX2 198 yX2_release := Or.inl (pw_t 117 (by decide +kernel) rfl)
theorem ml_X1_21 : gl_L RX1 21 yX1_has := Or.inl (pw_t 157 (by decide +kernel) rfl)
theorem ml_X1_25 : gl_L RX1 25 yJ7_fill_fda19 := Or.inl (pw_t 367 (by decide +kernel) rfl)
theorem ml_L_7 : gl_L RL 7 yX2_read := Or.inl (pw_t 197 (by decide +kernel) rfl)
theorem ml_L_17 : gl_L RL 17 yX2_write := Or.inl (pw_t 323 (by decide +kernel) rfl)
theorem ml_L_21 : gl_L RL 21 yX2_stored := Or.inl (pw_t 628 (by decide +kernel) rfl)
theorem ml_L_24 : gl_L RL 24 yL_cell := Or.inl (pw_t 189 (by decide +kernel) rfl)
theorem ml_L_30 : gl_L RL 30 yX2_init := Or.inl (pw_t 24 (by decide +kernel) rfl)
theorem ml_L_35 : gl_L RL 35 yX3_init := Or.inl (pw_t 635 (by decide +kernel) rfl)
theorem ml_L_36 : gl_L RL 36 yX2_begin := Or.inl (pw_t 90 (by decide +kernel) rfl)
theorem ml_L_40 : gl_L RL 40 yX3_begin := Or.inl (pw_t 698 (by decide +kernel) rfl)
theorem ml_L_41 : gl_L RL 41 yX2_fork := Or.inl (pw_t 98 (by decide +kernel) rfl)
theorem ml_L_44 : gl_L RL 44 yX3_fork := Or.inl (pw_t 706 (by decide +kernel) rfl)
theorem ml_L_45 : gl_L RL 45 yX2_end := Or.inl (pw_t 109 (by decide +kernel) rfl)
theorem ml_L_49 : gl_L RL 49 yX3_end := Or.inl (pw_t 714 (by decide +kernel) rfl)
theorem ml_L_50 : gl_L RL 50 yL_read := Or.inl (pw_t 192 (by decide +kernel) rfl)
theorem ml_L_53 : gl_L RL 53 yX3_read := Or.inl (pw_t 734 (by decide +kernel) rfl)
theorem ml_L_54 : gl_L RL 54 yX3_thrown := Or.inl (pw_t 694 (by decide +kernel) rfl)
theorem ml_L_58 : gl_L RL 58 yL_write := Or.inl (pw_t 320 (by decide +kernel) rfl)
theorem ml_L_61 : gl_L RL 61 yX3_write := Or.inl (pw_t 770 (by decide +kernel) rfl)
theorem ml_L_62 : gl_L RL 62 yX2_drop := Or.inl (pw_t 125 (by decide +kernel) rfl)
theorem ml_L_66 : gl_L RL 66 yX3_drop := Or.inl (pw_t 726 (by decide +kernel) rfl)
theorem ml_L_67 : gl_L RL 67 yX2_flush := Or.inl (pw_t 133 (by decide +kernel) rfl)
theorem ml_L_70 : gl_L RL 70 yX3_flush := Or.inl (pw_t 778 (by decide +kernel) rfl)
theorem ml_L_71 : gl_L RL 71 yX2_page := Or.inl (pw_t 161 (by decide +kernel) rfl)
theorem ml_L_74 : gl_L RL 74 yX3_page := Or.inl (pw_t 782 (by decide +kernel) rfl)
theorem ml_L_75 : gl_L RL 75 yX2_frame := Or.inl (pw_t 165 (by decide +kernel) rfl)
theorem ml_L_78 : gl_L RL 78 yX3_frame := Or.inl (pw_t 786 (by decide +kernel) rfl)
theorem ml_L_79 : gl_L RL 79 yL_stored := Or.inl (pw_t 625 (by decide +kernel) rfl)
theorem ml_L_81 : gl_L RL 81 yX3_stored := Or.inl (pw_t 790 (by decide +kernel) rfl)
theorem ml_L_82 : gl_L RL 82 yX2_look := Or.inl (pw_t 173 (by decide +kernel) rfl)
theorem ml_L_85 : gl_L RL 85 yX3_look := Or.inl (pw_t 794 (by decide +kernel) rfl)
theorem ml_X3_48 : gl_L RX3 48 yX3_isProcess := Or.inl (pw_t 710 (by decide +kernel) rfl)
theorem ml_X3_52 : gl_L RX3 52 yX3_bodyIn := Or.inl (pw_t 746 (by decide +kernel) rfl)
theorem ml_X3_56 : gl_L RX3 56 yX3_isSectorFree := Or.inl (pw_t 754 (by decide +kernel) rfl)
theorem ml_X3_59 : gl_L RX3 59 yX3_holders := Or.inl (pw_t 722 (by decide +kernel) rfl)
theorem ml_X3_71 : gl_L RX3 71 yX3_store := Or.inl (pw_t 766 (by decide +kernel) rfl)
theorem ml_X3_75 : gl_L RX3 75 yX3_take := Or.inl (pw_t 762 (by decide +kernel) rfl)
theorem ml_X3_81 : gl_L RX3 81 yX3_leastProcess := Or.inl (pw_t 702 (by decide +kernel) rfl)
theorem ml_X3_85 : gl_L RX3 85 yX3_leave := Or.inl (pw_t 718 (by decide +kernel) rfl)
theorem ml_X3_88 : gl_L RX3 88 yX3_isPage := Or.inl (pw_t 730 (by decide +kernel) rfl)
theorem ml_X3_92 : gl_L RX3 92 yX3_freeFrames := Or.inl (pw_t 742 (by decide +kernel) rfl)
theorem ml_X3_95 : gl_L RX3 95 yX3_freeSectors := Or.inl (pw_t 750 (by decide +kernel) rfl)
theorem ml_X3_98 : gl_L RX3 98 yX3_fails := Or.inl (pw_t 738 (by decide +kernel) rfl)
theorem ml_X3_105 : gl_L RX3 105 yX3_bring := Or.inl (pw_t 758 (by decide +kernel) rfl)
theorem ml_X3_108 : gl_L RX3 108 yX3_newBody := Or.inl (pw_t 774 (by decide +kernel) rfl)
theorem ml_J7_13 : gl_L RJ7 13 yJ7_rangeCheck_23922 := Or.inl (pw_t 370 (by decide +kernel) rfl)
set_option maxRecDepth 20000 in
theorem gy_X2_init : gl_Y yX2_init cX2_init 5 none 2 := ⟨pw_t 26 rfl rfl, pw_t 1 (by decide +kernel) rfl, by decide +kernel⟩
theorem gi_X2_init : gl_I yX2_init := ⟨rfl, pw_t 25 (by decide +kernel) rfl⟩
set_option maxRecDepth 20000 in
theorem gy_X2_begin : gl_Y yX2_begin cX2_begin 3 (some .int) 1 := ⟨pw_t 93 rfl rfl, pw_t 1 (by decide +kernel) rfl, by decide +kernel⟩
theorem gv_X2_begin : gl_V yX2_begin := ⟨pw_t 91 (by decide +kernel) rfl, pw_t 92 (by decide +kernel) rfl⟩
set_option maxRecDepth 20000 in
theorem gy_X2_behind : gl_Y yX2_behind cX2_behind 2 (some .int) 1 := ⟨pw_t 307 rfl rfl, pw_t 1 (by decide +kernel) rfl, by decide +kernel⟩
theorem gv_X2_behind : gl_V yX2_behind := ⟨pw_t 306 (by decide +kernel) rfl, pw_s 20 (by decide +kernel) rfl⟩
set_option maxRecDepth 20000 in
theorem gy_X2_bring : gl_Y yX2_bring cX2_bring 3 none 2 := ⟨pw_t 315 rfl rfl, pw_t 1 (by decide +kernel) rfl, by decide +kernel⟩
theorem gv_X2_bring : gl_V yX2_bring := ⟨pw_t 314 (by decide +kernel) rfl, pw_s 22 (by decide +kernel) rfl⟩
set_option maxRecDepth 20000 in
theorem gy_X2_checkAddress : gl_Y yX2_checkAddress cX2_checkAddress 3 none 2 := ⟨pw_t 204 rfl rfl, pw_t 1 (by decide +kernel) rfl, by decide +kernel⟩
theorem gv_X2_checkAddress : gl_V yX2_checkAddress := ⟨pw_t 203 (by decide +kernel) rfl, pw_s 15 (by decide +kernel) rfl⟩
set_option maxRecDepth 20000 in
theorem gy_X2_checkRoom : gl_Y yX2_checkRoom cX2_checkRoom 2 none 1 := ⟨pw_t 279 rfl rfl, pw_t 1 (by decide +kernel) rfl, by decide +kernel⟩
theorem gv_X2_checkRoom : gl_V yX2_checkRoom := ⟨pw_t 278 (by decide +kernel) rfl, pw_s 17 (by decide +kernel) rfl⟩
set_option maxRecDepth 20000 in
theorem gy_X2_copyBody : gl_Y yX2_copyBody cX2_copyBody 4 (some (.object "PagerHouse$Body")) 2 := ⟨pw_t 624 rfl rfl, pw_t 1 (by decide +kernel) rfl, by decide +kernel⟩
theorem gv_X2_copyBody : gl_V yX2_copyBody := ⟨pw_t 623 (by decide +kernel) rfl, pw_s 27 (by decide +kernel) rfl⟩
set_option maxRecDepth 20000 in
theorem gy_X2_countBodies : gl_Y yX2_countBodies cX2_countBodies 4 (some .int) 0 := ⟨pw_t 184 rfl rfl, pw_t 1 (by decide +kernel) rfl, by decide +kernel⟩
theorem gv_X2_countBodies : gl_V yX2_countBodies := ⟨pw_t 183 (by decide +kernel) rfl, pw_s 13 (by decide +kernel) rfl⟩
set_option maxRecDepth 20000 in
theorem gy_X2_countDirty : gl_Y yX2_countDirty cX2_countDirty 4 (some .int) 0 := ⟨pw_t 188 rfl rfl, pw_t 1 (by decide +kernel) rfl, by decide +kernel⟩
theorem gv_X2_countDirty : gl_V yX2_countDirty := ⟨pw_t 187 (by decide +kernel) rfl, pw_s 14 (by decide +kernel) rfl⟩
set_option maxRecDepth 20000 in
theorem gy_X2_countProcesses : gl_Y yX2_countProcesses cX2_countProcesses 3 (some .int) 0 := ⟨pw_t 180 rfl rfl, pw_t 1 (by decide +kernel) rfl, by decide +kernel⟩
theorem gv_X2_countProcesses : gl_V yX2_countProcesses := ⟨pw_t 179 (by decide +kernel) rfl, pw_s 12 (by decide +kernel) rfl⟩
set_option maxRecDepth 20000 in
theorem gy_X2_countWithoutSector : gl_Y yX2_countWithoutSector cX2_countWithoutSector 4 (some .int) 0 := ⟨pw_t 140 rfl rfl, pw_t 1 (by decide +kernel) rfl, by decide +kernel⟩
theorem gv_X2_countWithoutSector : gl_V yX2_countWithoutSector := ⟨pw_t 139 (by decide +kernel) rfl, pw_s 6 (by decide +kernel) rfl⟩
set_option maxRecDepth 20000 in
theorem gy_X2_drop : gl_Y yX2_drop cX2_drop 3 (some .boolean) 2 := ⟨pw_t 128 rfl rfl, pw_t 1 (by decide +kernel) rfl, by decide +kernel⟩
theorem gv_X2_drop : gl_V yX2_drop := ⟨pw_t 126 (by decide +kernel) rfl, pw_t 127 (by decide +kernel) rfl⟩
set_option maxRecDepth 20000 in
theorem gy_X2_empty : gl_Y yX2_empty cX2_empty 3 (some .boolean) 1 := ⟨pw_t 116 rfl rfl, pw_t 1 (by decide +kernel) rfl, by decide +kernel⟩
theorem gv_X2_empty : gl_V yX2_empty := ⟨pw_t 115 (by decide +kernel) rfl, pw_s 2 (by decide +kernel) rfl⟩
set_option maxRecDepth 20000 in
theorem gy_X2_end : gl_Y yX2_end cX2_end 3 (some .boolean) 1 := ⟨pw_t 112 rfl rfl, pw_t 1 (by decide +kernel) rfl, by decide +kernel⟩
theorem gv_X2_end : gl_V yX2_end := ⟨pw_t 110 (by decide +kernel) rfl, pw_t 111 (by decide +kernel) rfl⟩
set_option maxRecDepth 20000 in
theorem gy_X2_flush : gl_Y yX2_flush cX2_flush 4 (some .int) 0 := ⟨pw_t 136 rfl rfl, pw_t 1 (by decide +kernel) rfl, by decide +kernel⟩
theorem gv_X2_flush : gl_V yX2_flush := ⟨pw_t 134 (by decide +kernel) rfl, pw_t 135 (by decide +kernel) rfl⟩
set_option maxRecDepth 20000 in
theorem gy_X2_fork : gl_Y yX2_fork cX2_fork 5 (some .int) 1 := ⟨pw_t 101 rfl rfl, pw_t 1 (by decide +kernel) rfl, by decide +kernel⟩
theorem gv_X2_fork : gl_V yX2_fork := ⟨pw_t 99 (by decide +kernel) rfl, pw_t 100 (by decide +kernel) rfl⟩
set_option maxRecDepth 20000 in
theorem gy_X2_frame : gl_Y yX2_frame cX2_frame 4 (some .int) 2 := ⟨pw_t 168 rfl rfl, pw_t 1 (by decide +kernel) rfl, by decide +kernel⟩
theorem gv_X2_frame : gl_V yX2_frame := ⟨pw_t 166 (by decide +kernel) rfl, pw_t 167 (by decide +kernel) rfl⟩
set_option maxRecDepth 20000 in
theorem gy_X2_hasPage : gl_Y yX2_hasPage cX2_hasPage 3 (some .boolean) 2 := ⟨pw_t 132 rfl rfl, pw_t 1 (by decide +kernel) rfl, by decide +kernel⟩
theorem gv_X2_hasPage : gl_V yX2_hasPage := ⟨pw_t 131 (by decide +kernel) rfl, pw_s 5 (by decide +kernel) rfl⟩
set_option maxRecDepth 20000 in
theorem gy_X2_hasProcess : gl_Y yX2_hasProcess cX2_hasProcess 2 (some .boolean) 1 := ⟨pw_t 105 rfl rfl, pw_t 1 (by decide +kernel) rfl, by decide +kernel⟩
theorem gv_X2_hasProcess : gl_V yX2_hasProcess := ⟨pw_t 104 (by decide +kernel) rfl, pw_s 1 (by decide +kernel) rfl⟩
set_option maxRecDepth 20000 in
theorem gy_X2_lay : gl_Y yX2_lay cX2_lay 3 none 2 := ⟨pw_t 319 rfl rfl, pw_t 1 (by decide +kernel) rfl, by decide +kernel⟩
theorem gv_X2_lay : gl_V yX2_lay := ⟨pw_t 318 (by decide +kernel) rfl, pw_s 23 (by decide +kernel) rfl⟩
set_option maxRecDepth 20000 in
theorem gy_X2_leastFreeProcess : gl_Y yX2_leastFreeProcess cX2_leastFreeProcess 2 (some .int) 0 := ⟨pw_t 97 rfl rfl, pw_t 1 (by decide +kernel) rfl, by decide +kernel⟩
theorem gv_X2_leastFreeProcess : gl_V yX2_leastFreeProcess := ⟨pw_t 96 (by decide +kernel) rfl, pw_s 0 (by decide +kernel) rfl⟩
set_option maxRecDepth 20000 in
theorem gy_X2_leastHolder : gl_Y yX2_leastHolder cX2_leastHolder 3 (some .int) 1 := ⟨pw_t 172 rfl rfl, pw_t 1 (by decide +kernel) rfl, by decide +kernel⟩
theorem gv_X2_leastHolder : gl_V yX2_leastHolder := ⟨pw_t 171 (by decide +kernel) rfl, pw_s 11 (by decide +kernel) rfl⟩
set_option maxRecDepth 20000 in
theorem gy_X2_look : gl_Y yX2_look cX2_look 2 (some .int) 1 := ⟨pw_t 176 rfl rfl, pw_t 1 (by decide +kernel) rfl, by decide +kernel⟩
theorem gv_X2_look : gl_V yX2_look := ⟨pw_t 174 (by decide +kernel) rfl, pw_t 175 (by decide +kernel) rfl⟩
set_option maxRecDepth 20000 in
theorem gy_X2_newBody : gl_Y yX2_newBody cX2_newBody 4 (some (.object "PagerHouse$Body")) 2 := ⟨pw_t 337 rfl rfl, pw_t 1 (by decide +kernel) rfl, by decide +kernel⟩
theorem gv_X2_newBody : gl_V yX2_newBody := ⟨pw_t 336 (by decide +kernel) rfl, pw_s 25 (by decide +kernel) rfl⟩
set_option maxRecDepth 20000 in
theorem gy_X2_ownBody : gl_Y yX2_ownBody cX2_ownBody 3 (some (.object "PagerHouse$Body")) 2 := ⟨pw_t 333 rfl rfl, pw_t 1 (by decide +kernel) rfl, by decide +kernel⟩
theorem gv_X2_ownBody : gl_V yX2_ownBody := ⟨pw_t 332 (by decide +kernel) rfl, pw_s 24 (by decide +kernel) rfl⟩
set_option maxRecDepth 20000 in
theorem gy_X2_page : gl_Y yX2_page cX2_page 5 (some .int) 3 := ⟨pw_t 164 rfl rfl, pw_t 1 (by decide +kernel) rfl, by decide +kernel⟩
theorem gv_X2_page : gl_V yX2_page := ⟨pw_t 162 (by decide +kernel) rfl, pw_t 163 (by decide +kernel) rfl⟩
set_option maxRecDepth 20000 in
theorem gy_X2_read : gl_Y yX2_read cX2_read 4 (some .int) 2 := ⟨pw_t 200 rfl rfl, pw_t 1 (by decide +kernel) rfl, by decide +kernel⟩
theorem gv_X2_read : gl_V yX2_read := ⟨pw_t 198 (by decide +kernel) rfl, pw_t 199 (by decide +kernel) rfl⟩
set_option maxRecDepth 20000 in
theorem gy_X2_release : gl_Y yX2_release cX2_release 2 none 1 := ⟨pw_t 120 rfl rfl, pw_t 1 (by decide +kernel) rfl, by decide +kernel⟩
theorem gv_X2_release : gl_V yX2_release := ⟨pw_t 119 (by decide +kernel) rfl, pw_s 3 (by decide +kernel) rfl⟩
set_option maxRecDepth 20000 in
theorem gy_X2_secondChance : gl_Y yX2_secondChance cX2_secondChance 4 (some .int) 1 := ⟨pw_t 303 rfl rfl, pw_t 1 (by decide +kernel) rfl, by decide +kernel⟩
theorem gv_X2_secondChance : gl_V yX2_secondChance := ⟨pw_t 302 (by decide +kernel) rfl, pw_s 19 (by decide +kernel) rfl⟩
set_option maxRecDepth 20000 in
theorem gy_X2_slot : gl_Y yX2_slot cX2_slot 2 (some .int) 2 := ⟨pw_t 108 rfl rfl, pw_t 1 (by decide +kernel) rfl, by decide +kernel⟩
theorem gs_X2_slot : gl_S yX2_slot := pw_t 107 (by decide +kernel) rfl
set_option maxRecDepth 20000 in
theorem gy_X2_store : gl_Y yX2_store cX2_store 3 none 1 := ⟨pw_t 148 rfl rfl, pw_t 1 (by decide +kernel) rfl, by decide +kernel⟩
theorem gv_X2_store : gl_V yX2_store := ⟨pw_t 147 (by decide +kernel) rfl, pw_s 8 (by decide +kernel) rfl⟩
set_option maxRecDepth 20000 in
theorem gy_X2_stored : gl_Y yX2_stored cX2_stored 3 (some .int) 2 := ⟨pw_t 631 rfl rfl, pw_t 1 (by decide +kernel) rfl, by decide +kernel⟩
theorem gv_X2_stored : gl_V yX2_stored := ⟨pw_t 629 (by decide +kernel) rfl, pw_t 630 (by decide +kernel) rfl⟩
set_option maxRecDepth 20000 in
theorem gy_X2_take : gl_Y yX2_take cX2_take 3 (some .int) 1 := ⟨pw_t 299 rfl rfl, pw_t 1 (by decide +kernel) rfl, by decide +kernel⟩
theorem gv_X2_take : gl_V yX2_take := ⟨pw_t 298 (by decide +kernel) rfl, pw_s 18 (by decide +kernel) rfl⟩
set_option maxRecDepth 20000 in
theorem gy_X2_takesToRead : gl_Y yX2_takesToRead cX2_takesToRead 1 (some .int) 1 := ⟨pw_t 275 rfl rfl, pw_t 1 (by decide +kernel) rfl, by decide +kernel⟩
theorem gs_X2_takesToRead : gl_S yX2_takesToRead := pw_t 274 (by decide +kernel) rfl
set_option maxRecDepth 20000 in
theorem gy_X2_takesToWrite : gl_Y yX2_takesToWrite cX2_takesToWrite 1 (some .int) 1 := ⟨pw_t 329 rfl rfl, pw_t 1 (by decide +kernel) rfl, by decide +kernel⟩
theorem gs_X2_takesToWrite : gl_S yX2_takesToWrite := pw_t 328 (by decide +kernel) rfl
set_option maxRecDepth 20000 in
theorem gy_X2_vacate : gl_Y yX2_vacate cX2_vacate 3 none 1 := ⟨pw_t 311 rfl rfl, pw_t 1 (by decide +kernel) rfl, by decide +kernel⟩
theorem gv_X2_vacate : gl_V yX2_vacate := ⟨pw_t 310 (by decide +kernel) rfl, pw_s 21 (by decide +kernel) rfl⟩
set_option maxRecDepth 20000 in
theorem gy_X2_write : gl_Y yX2_write cX2_write 8 (some .int) 3 := ⟨pw_t 326 rfl rfl, pw_t 1 (by decide +kernel) rfl, by decide +kernel⟩
theorem gv_X2_write : gl_V yX2_write := ⟨pw_t 324 (by decide +kernel) rfl, pw_t 325 (by decide +kernel) rfl⟩
set_option maxRecDepth 20000 in
theorem gy_X0_init : gl_Y yX0_init cX0_init 2 none 1 := ⟨pw_t 341 rfl rfl, pw_t 11 (by decide +kernel) rfl, by decide +kernel⟩
theorem gi_X0_init : gl_I yX0_init := ⟨rfl, pw_t 340 (by decide +kernel) rfl⟩
set_option maxRecDepth 20000 in
theorem gy_X1_init : gl_Y yX1_init cX1_init 2 none 1 := ⟨pw_t 40 rfl rfl, pw_t 3 (by decide +kernel) rfl, by decide +kernel⟩
theorem gi_X1_init : gl_I yX1_init := ⟨rfl, pw_t 39 (by decide +kernel) rfl⟩
set_option maxRecDepth 20000 in
theorem gy_X1_copyWords : gl_Y yX1_copyWords cX1_copyWords 4 none 3 := ⟨pw_t 156 rfl rfl, pw_t 3 (by decide +kernel) rfl, by decide +kernel⟩
theorem gv_X1_copyWords : gl_V yX1_copyWords := ⟨pw_t 155 (by decide +kernel) rfl, pw_s 10 (by decide +kernel) rfl⟩
set_option maxRecDepth 20000 in
theorem gy_X1_countFree : gl_Y yX1_countFree cX1_countFree 3 (some .int) 0 := ⟨pw_t 144 rfl rfl, pw_t 3 (by decide +kernel) rfl, by decide +kernel⟩
theorem gv_X1_countFree : gl_V yX1_countFree := ⟨pw_t 143 (by decide +kernel) rfl, pw_s 7 (by decide +kernel) rfl⟩
set_option maxRecDepth 20000 in
theorem gy_X1_has : gl_Y yX1_has cX1_has 2 (some .boolean) 1 := ⟨pw_t 124 rfl rfl, pw_t 3 (by decide +kernel) rfl, by decide +kernel⟩
theorem gv_X1_has : gl_V yX1_has := ⟨pw_t 123 (by decide +kernel) rfl, pw_s 4 (by decide +kernel) rfl⟩
set_option maxRecDepth 20000 in
theorem gy_X1_leastFree : gl_Y yX1_leastFree cX1_leastFree 2 (some .int) 0 := ⟨pw_t 152 rfl rfl, pw_t 3 (by decide +kernel) rfl, by decide +kernel⟩
theorem gv_X1_leastFree : gl_V yX1_leastFree := ⟨pw_t 151 (by decide +kernel) rfl, pw_s 9 (by decide +kernel) rfl⟩
set_option maxRecDepth 20000 in
theorem gy_X1_zero : gl_Y yX1_zero cX1_zero 2 none 1 := ⟨pw_t 366 rfl rfl, pw_t 3 (by decide +kernel) rfl, by decide +kernel⟩
theorem gv_X1_zero : gl_V yX1_zero := ⟨pw_t 365 (by decide +kernel) rfl, pw_s 26 (by decide +kernel) rfl⟩
set_option maxRecDepth 20000 in
theorem gy_L_cell : gl_Y yL_cell cL_cell 2 (some .int) 2 := ⟨pw_t 191 rfl rfl, pw_t 0 (by decide +kernel) rfl, by decide +kernel⟩
theorem gs_L_cell : gl_S yL_cell := pw_t 190 (by decide +kernel) rfl
set_option maxRecDepth 20000 in
theorem gy_X3_init : gl_Y yX3_init cX3_init 4 none 2 := ⟨pw_t 637 rfl rfl, pw_t 4 (by decide +kernel) rfl, by decide +kernel⟩
theorem gi_X3_init : gl_I yX3_init := ⟨rfl, pw_t 636 (by decide +kernel) rfl⟩
set_option maxRecDepth 20000 in
theorem gy_X3_begin : gl_Y yX3_begin cX3_begin 3 (some .int) 1 := ⟨pw_t 701 rfl rfl, pw_t 4 (by decide +kernel) rfl, by decide +kernel⟩
theorem gv_X3_begin : gl_V yX3_begin := ⟨pw_t 699 (by decide +kernel) rfl, pw_t 700 (by decide +kernel) rfl⟩
set_option maxRecDepth 20000 in
theorem gy_X3_bodyIn : gl_Y yX3_bodyIn cX3_bodyIn 3 (some .int) 1 := ⟨pw_t 749 rfl rfl, pw_t 4 (by decide +kernel) rfl, by decide +kernel⟩
theorem gv_X3_bodyIn : gl_V yX3_bodyIn := ⟨pw_t 748 (by decide +kernel) rfl, pw_s 35 (by decide +kernel) rfl⟩
set_option maxRecDepth 20000 in
theorem gy_X3_bring : gl_Y yX3_bring cX3_bring 4 none 1 := ⟨pw_t 761 rfl rfl, pw_t 4 (by decide +kernel) rfl, by decide +kernel⟩
theorem gv_X3_bring : gl_V yX3_bring := ⟨pw_t 760 (by decide +kernel) rfl, pw_s 38 (by decide +kernel) rfl⟩
set_option maxRecDepth 20000 in
theorem gy_X3_drop : gl_Y yX3_drop cX3_drop 3 (some .boolean) 2 := ⟨pw_t 729 rfl rfl, pw_t 4 (by decide +kernel) rfl, by decide +kernel⟩
theorem gv_X3_drop : gl_V yX3_drop := ⟨pw_t 727 (by decide +kernel) rfl, pw_t 728 (by decide +kernel) rfl⟩
set_option maxRecDepth 20000 in
theorem gy_X3_end : gl_Y yX3_end cX3_end 3 (some .boolean) 1 := ⟨pw_t 717 rfl rfl, pw_t 4 (by decide +kernel) rfl, by decide +kernel⟩
theorem gv_X3_end : gl_V yX3_end := ⟨pw_t 715 (by decide +kernel) rfl, pw_t 716 (by decide +kernel) rfl⟩
set_option maxRecDepth 20000 in
theorem gy_X3_fails : gl_Y yX3_fails cX3_fails 6 (some .boolean) 3 := ⟨pw_t 741 rfl rfl, pw_t 4 (by decide +kernel) rfl, by decide +kernel⟩
theorem gv_X3_fails : gl_V yX3_fails := ⟨pw_t 740 (by decide +kernel) rfl, pw_s 33 (by decide +kernel) rfl⟩
set_option maxRecDepth 20000 in
theorem gy_X3_flush : gl_Y yX3_flush cX3_flush 5 (some .int) 0 := ⟨pw_t 781 rfl rfl, pw_t 4 (by decide +kernel) rfl, by decide +kernel⟩
theorem gv_X3_flush : gl_V yX3_flush := ⟨pw_t 779 (by decide +kernel) rfl, pw_t 780 (by decide +kernel) rfl⟩
set_option maxRecDepth 20000 in
theorem gy_X3_fork : gl_Y yX3_fork cX3_fork 4 (some .int) 1 := ⟨pw_t 709 rfl rfl, pw_t 4 (by decide +kernel) rfl, by decide +kernel⟩
theorem gv_X3_fork : gl_V yX3_fork := ⟨pw_t 707 (by decide +kernel) rfl, pw_t 708 (by decide +kernel) rfl⟩
set_option maxRecDepth 20000 in
theorem gy_X3_frame : gl_Y yX3_frame cX3_frame 5 (some .int) 2 := ⟨pw_t 789 rfl rfl, pw_t 4 (by decide +kernel) rfl, by decide +kernel⟩
theorem gv_X3_frame : gl_V yX3_frame := ⟨pw_t 787 (by decide +kernel) rfl, pw_t 788 (by decide +kernel) rfl⟩
set_option maxRecDepth 20000 in
theorem gy_X3_freeFrames : gl_Y yX3_freeFrames cX3_freeFrames 3 (some .int) 0 := ⟨pw_t 745 rfl rfl, pw_t 4 (by decide +kernel) rfl, by decide +kernel⟩
theorem gv_X3_freeFrames : gl_V yX3_freeFrames := ⟨pw_t 744 (by decide +kernel) rfl, pw_s 34 (by decide +kernel) rfl⟩
set_option maxRecDepth 20000 in
theorem gy_X3_freeSectors : gl_Y yX3_freeSectors cX3_freeSectors 3 (some .int) 0 := ⟨pw_t 753 rfl rfl, pw_t 4 (by decide +kernel) rfl, by decide +kernel⟩
theorem gv_X3_freeSectors : gl_V yX3_freeSectors := ⟨pw_t 752 (by decide +kernel) rfl, pw_s 36 (by decide +kernel) rfl⟩
set_option maxRecDepth 20000 in
theorem gy_X3_holders : gl_Y yX3_holders cX3_holders 4 (some .int) 1 := ⟨pw_t 725 rfl rfl, pw_t 4 (by decide +kernel) rfl, by decide +kernel⟩
theorem gv_X3_holders : gl_V yX3_holders := ⟨pw_t 724 (by decide +kernel) rfl, pw_s 31 (by decide +kernel) rfl⟩
set_option maxRecDepth 20000 in
theorem gy_X3_isPage : gl_Y yX3_isPage cX3_isPage 3 (some .boolean) 2 := ⟨pw_t 733 rfl rfl, pw_t 4 (by decide +kernel) rfl, by decide +kernel⟩
theorem gv_X3_isPage : gl_V yX3_isPage := ⟨pw_t 732 (by decide +kernel) rfl, pw_s 32 (by decide +kernel) rfl⟩
set_option maxRecDepth 20000 in
theorem gy_X3_isProcess : gl_Y yX3_isProcess cX3_isProcess 2 (some .boolean) 1 := ⟨pw_t 713 rfl rfl, pw_t 4 (by decide +kernel) rfl, by decide +kernel⟩
theorem gv_X3_isProcess : gl_V yX3_isProcess := ⟨pw_t 712 (by decide +kernel) rfl, pw_s 29 (by decide +kernel) rfl⟩
set_option maxRecDepth 20000 in
theorem gy_X3_isSectorFree : gl_Y yX3_isSectorFree cX3_isSectorFree 3 (some .boolean) 1 := ⟨pw_t 757 rfl rfl, pw_t 4 (by decide +kernel) rfl, by decide +kernel⟩
theorem gv_X3_isSectorFree : gl_V yX3_isSectorFree := ⟨pw_t 756 (by decide +kernel) rfl, pw_s 37 (by decide +kernel) rfl⟩
set_option maxRecDepth 20000 in
theorem gy_X3_leastProcess : gl_Y yX3_leastProcess cX3_leastProcess 2 (some .int) 0 := ⟨pw_t 705 rfl rfl, pw_t 4 (by decide +kernel) rfl, by decide +kernel⟩
theorem gv_X3_leastProcess : gl_V yX3_leastProcess := ⟨pw_t 704 (by decide +kernel) rfl, pw_s 28 (by decide +kernel) rfl⟩
set_option maxRecDepth 20000 in
theorem gy_X3_leave : gl_Y yX3_leave cX3_leave 3 none 1 := ⟨pw_t 721 rfl rfl, pw_t 4 (by decide +kernel) rfl, by decide +kernel⟩
theorem gv_X3_leave : gl_V yX3_leave := ⟨pw_t 720 (by decide +kernel) rfl, pw_s 30 (by decide +kernel) rfl⟩
set_option maxRecDepth 20000 in
theorem gy_X3_look : gl_Y yX3_look cX3_look 4 (some .int) 1 := ⟨pw_t 797 rfl rfl, pw_t 4 (by decide +kernel) rfl, by decide +kernel⟩
theorem gv_X3_look : gl_V yX3_look := ⟨pw_t 795 (by decide +kernel) rfl, pw_t 796 (by decide +kernel) rfl⟩
set_option maxRecDepth 20000 in
theorem gy_X3_newBody : gl_Y yX3_newBody cX3_newBody 3 (some .int) 1 := ⟨pw_t 777 rfl rfl, pw_t 4 (by decide +kernel) rfl, by decide +kernel⟩
theorem gv_X3_newBody : gl_V yX3_newBody := ⟨pw_t 776 (by decide +kernel) rfl, pw_s 41 (by decide +kernel) rfl⟩
set_option maxRecDepth 20000 in
theorem gy_X3_page : gl_Y yX3_page cX3_page 5 (some .int) 3 := ⟨pw_t 785 rfl rfl, pw_t 4 (by decide +kernel) rfl, by decide +kernel⟩
theorem gv_X3_page : gl_V yX3_page := ⟨pw_t 783 (by decide +kernel) rfl, pw_t 784 (by decide +kernel) rfl⟩
set_option maxRecDepth 20000 in
theorem gy_X3_read : gl_Y yX3_read cX3_read 4 (some .int) 2 := ⟨pw_t 737 rfl rfl, pw_t 4 (by decide +kernel) rfl, by decide +kernel⟩
theorem gv_X3_read : gl_V yX3_read := ⟨pw_t 735 (by decide +kernel) rfl, pw_t 736 (by decide +kernel) rfl⟩
set_option maxRecDepth 20000 in
theorem gy_X3_store : gl_Y yX3_store cX3_store 4 none 1 := ⟨pw_t 769 rfl rfl, pw_t 4 (by decide +kernel) rfl, by decide +kernel⟩
theorem gv_X3_store : gl_V yX3_store := ⟨pw_t 768 (by decide +kernel) rfl, pw_s 40 (by decide +kernel) rfl⟩
set_option maxRecDepth 20000 in
theorem gy_X3_stored : gl_Y yX3_stored cX3_stored 3 (some .int) 2 := ⟨pw_t 793 rfl rfl, pw_t 4 (by decide +kernel) rfl, by decide +kernel⟩
theorem gv_X3_stored : gl_V yX3_stored := ⟨pw_t 791 (by decide +kernel) rfl, pw_t 792 (by decide +kernel) rfl⟩
set_option maxRecDepth 20000 in
theorem gy_X3_take : gl_Y yX3_take cX3_take 4 (some .int) 1 := ⟨pw_t 765 rfl rfl, pw_t 4 (by decide +kernel) rfl, by decide +kernel⟩
theorem gv_X3_take : gl_V yX3_take := ⟨pw_t 764 (by decide +kernel) rfl, pw_s 39 (by decide +kernel) rfl⟩
set_option maxRecDepth 20000 in
theorem gy_X3_thrown : gl_Y yX3_thrown cX3_thrown 1 (some .int) 0 := ⟨pw_t 697 rfl rfl, pw_t 4 (by decide +kernel) rfl, by decide +kernel⟩
theorem gv_X3_thrown : gl_V yX3_thrown := ⟨pw_t 695 (by decide +kernel) rfl, pw_t 696 (by decide +kernel) rfl⟩
set_option maxRecDepth 20000 in
theorem gy_X3_write : gl_Y yX3_write cX3_write 10 (some .int) 3 := ⟨pw_t 773 rfl rfl, pw_t 4 (by decide +kernel) rfl, by decide +kernel⟩
theorem gv_X3_write : gl_V yX3_write := ⟨pw_t 771 (by decide +kernel) rfl, pw_t 772 (by decide +kernel) rfl⟩
set_option maxRecDepth 20000 in
theorem gy_J7_fill_fda19 : gl_Y yJ7_fill_fda19 cJ7_fill_fda19 5 none 4 := ⟨pw_t 369 rfl rfl, pw_t 12 (by decide +kernel) rfl, by decide +kernel⟩
theorem gs_J7_fill_fda19 : gl_S yJ7_fill_fda19 := pw_t 368 (by decide +kernel) rfl
set_option maxRecDepth 20000 in
theorem gy_J7_rangeCheck_23922 : gl_Y yJ7_rangeCheck_23922 cJ7_rangeCheck_23922 3 none 3 := ⟨pw_t 372 rfl rfl, pw_t 12 (by decide +kernel) rfl, by decide +kernel⟩
theorem gs_J7_rangeCheck_23922 : gl_S yJ7_rangeCheck_23922 := pw_t 371 (by decide +kernel) rfl
theorem cl_X2_18 : Cond.classLink RX2 18 RX1 ∈ pw_all := pw_t 36 (by decide +kernel) rfl
theorem cl_X2_38 : Cond.classLink RX2 38 RX0 ∈ pw_all := pw_t 54 (by decide +kernel) rfl
theorem cl_X1_9 : Cond.classLink RX1 9 RX0 ∈ pw_all := pw_t 42 (by decide +kernel) rfl
theorem cl_L_8 : Cond.classLink RL 8 RX2 ∈ pw_all := pw_t 22 (by decide +kernel) rfl
theorem cl_L_33 : Cond.classLink RL 33 RX3 ∈ pw_all := pw_t 633 (by decide +kernel) rfl
theorem in_X2 : Cond.instantiable RX2 11 ∈ pw_all := pw_t 23 (by decide +kernel) rfl
theorem in_X1 : Cond.instantiable RX1 2 ∈ pw_all := pw_t 37 (by decide +kernel) rfl
theorem in_X0 : Cond.instantiable RX0 5 ∈ pw_all := pw_t 338 (by decide +kernel) rfl
theorem in_X3 : Cond.instantiable RX3 18 ∈ pw_all := pw_t 634 (by decide +kernel) rfl
theorem ini_X0 : Cond.initialized RX0 ∈ pw_all := pw_t 11 (by decide +kernel) rfl
theorem ini_X1 : Cond.initialized RX1 ∈ pw_all := pw_t 3 (by decide +kernel) rfl
theorem ini_X2 : Cond.initialized RX2 ∈ pw_all := pw_t 1 (by decide +kernel) rfl
theorem ini_X3 : Cond.initialized RX3 ∈ pw_all := pw_t 4 (by decide +kernel) rfl
theorem ini_L : Cond.initialized RL ∈ pw_all := pw_t 0 (by decide +kernel) rfl
theorem ini_J7 : Cond.initialized RJ7 ∈ pw_all := pw_t 12 (by decide +kernel) rfl
abbrev vwc : List vw_C := [(RX0, TX0, 5), (RX1, TX1, 2), (RX2, TX2, 11), (RX3, TX3, 18)]
