def LF_ldc (own : String) (k : Nat) (w : am_O) : Prop := (∃ v : Int32, w = .inl (.int v) ∧ Cond.constant own k v ∈ lwG) ∨ (∃ (i : Nat) (tx : String), w = .inl (.ref i) ∧ (own, k, tx, i) ∈ sd_str)
def LF_ldc2 (own : String) (k : Nat) (w : am_O) : Prop := ∃ v : Int64, w = .inl (.long v) ∧ Cond.constantLong own k v ∈ lwG
def LF_gs (own : String) (k : Nat) (w : am_O) : Prop := (w = .inl (.ref 1) ∧ Cond.fieldLink own k "ThreeSizes$Wall" "STEP" "[I" ∈ lwG) ∨ (w = .inl (.int 1) ∧ Cond.fieldLink own k "java/lang/String" "COMPACT_STRINGS" "Z" ∈ lwG) ∨ (w = .inl (.float 0) ∧ Cond.fieldLink own k "jdk/internal/util/Preconditions" "SIOOBE_FORMATTER" "Ljava/util/function/BiFunction;" ∈ lwG)
def LF_fl (own : String) (k f : Nat) : Prop := f < 76 ∧ ∃ rf : String, Cond.fieldLink own k rf (sd_fr f).2.1 (sd_fr f).2.2.1 ∈ lwG ∧ (rf = (sd_fr f).1 ∨ Cond.sameField rf (sd_fr f).1 (sd_fr f).2.1 (sd_fr f).2.2.1 ∈ lwG)
def LF_gf (own : String) (k : Nat) (w : am_O) : Prop := (∃ f : Nat, w = .inr (.getfield f) ∧ LF_fl own k f) ∨ (w = .inr (.getstatic 0) ∧ Cond.fieldLink own k "java/lang/String" "value" "[B" ∈ lwG) ∨ (w = .inr (.getstatic 1) ∧ Cond.fieldLink own k "java/lang/String" "coder" "B" ∈ lwG)
def LF_pf (own : String) (k : Nat) (w : am_O) : Prop := ∃ f : Nat, w = .inr (.putfield f) ∧ LF_fl own k f ∧ ((sd_fr f).2.2.2 = true → (sd_fr f).1 = own)
def LF_nw (own : String) (k : Nat) (w : am_O) : Prop := ∃ c : Nat, w = .inr (.new c) ∧ 1 ≤ c ∧ c ≤ 12 ∧ Cond.classLink own k (sd_cl.getD c ("", cT_1, 0)).1 ∈ lwG
def LF_ana (own : String) (k : Nat) (w : am_O) : Prop := w = .inr (.anewarray 0) ∧ Cond.classLink own k "ThreeSizes$Thing" ∈ lwG
def LF_mna (own : String) (k : Nat) (w : am_O) : Prop := (w = .inr (.multianewarray 0 2) ∧ Cond.classLink own k "[[I" ∈ lwG) ∨ (w = .inr (.multianewarray 1 2) ∧ Cond.classLink own k "[[J" ∈ lwG)
def LF_ins (own : String) (k : Nat) (w : am_O) : Prop := ∃ t : Nat, w = .inr (.instanceof t) ∧ t < 8 ∧ Cond.classLink own k (sd_in t) ∈ lwG
def LF_cc (own : String) (k : Nat) (w : am_O) : Prop := ∃ t : Nat, w = .inr (.checkcast t) ∧ t < 8 ∧ Cond.classLink own k (sd_in t) ∈ lwG
def LF_iv (own : String) (k : Nat) (w : am_O) : Prop := (∃ (y : Nat) (q : MethodName × ByteArray × Nat × Option FieldType × Nat), w = .inr (.invokevirtual y) ∧ y < 500 ∧ y ≠ 0 ∧ am_mt[y]? = some q ∧ Cond.methodLink own k q.1 ∈ lwG ∧ Cond.instanceMethod q.1 ∈ lwG ∧ Cond.selects q.1.cls q.1 q.1 ∈ lwG) ∨ (∃ (j : Nat) (x : MethodName), w = .inr (.invokevirtual (500 + j)) ∧ j < 5 ∧ sd_pl j = x ∧ Cond.methodLink own k x ∈ lwG)
def LF_is (own : String) (k : Nat) (w : am_O) : Prop := (w = .inr .fadd ∧ Cond.methodLink own k objectInit ∈ lwG) ∨ (∃ (y : Nat) (q : MethodName × ByteArray × Nat × Option FieldType × Nat), w = .inr (.invokespecial y) ∧ am_mt[y]? = some q ∧ q.1.name = "<init>" ∧ q.2.2.2.1 = none ∧ Cond.instanceMethod q.1 ∈ lwG ∧ (Cond.methodLink own k q.1 ∈ lwG ∨ Cond.methodLinkNest own k q.1 "ThreeSizes" ∈ sd_nw)) ∨ (∃ (y : Nat) (q : MethodName × ByteArray × Nat × Option FieldType × Nat), w = .inr (.invokedynamic y) ∧ am_mt[y]? = some q ∧ q.1.name ≠ "<init>" ∧ Cond.instanceMethod q.1 ∈ lwG ∧ Cond.methodLink own k q.1 ∈ lwG ∧ Cond.sameMethod q.1.cls q.1.cls q.1.name q.1.desc ∈ lwG ∧ Cond.superclass own q.1.cls ∈ lwG)
def LF_st (own : String) (k : Nat) (w : am_O) : Prop := (w = .inr .dadd ∧ Cond.methodLink own k arraycopyName ∈ lwG) ∨ (∃ (y : Nat) (q : MethodName × ByteArray × Nat × Option FieldType × Nat), w = .inr (.invokestatic y) ∧ am_mt[y]? = some q ∧ Cond.methodLink own k q.1 ∈ lwG ∧ Cond.static q.1 ∈ lwG)
def LF_m (q : MethodName × ByteArray × Nat × Option FieldType × Nat) : Prop := Cond.code q.1 q.2.1 q.2.2.1 q.2.2.2.1 ∈ lwG ∧ Cond.initialized q.1.cls ∈ lwG
def LF_c (q : vw_C) : Prop := (∀ w ∈ u_ws q.1 q.2.1 q.2.2, w ∈ lwG) ∧ Cond.instantiable q.1 q.2.2 ∈ lwG ∧ Cond.initialized q.1 ∈ lwG
def LF_pv (j c : Nat) (q : MethodName × ByteArray × Nat × Option FieldType × Nat) : Prop := Cond.sameMethod (sd_pl j).cls (sd_pl j).cls (sd_pl j).name (sd_pl j).desc ∈ lwG ∧ Cond.selects (sd_cl.getD c ("", cT_1, 0)).1 (sd_pl j) q.1 ∈ lwG ∧ Cond.instanceMethod q.1 ∈ lwG ∧ (Cond.declares (sd_pl j) ∈ sd_nw ∨ (Cond.instanceMethod (sd_pl j) ∈ lwG ∧ ∃ (b : ByteArray) (n : Nat) (r : Option FieldType), Cond.code (sd_pl j) b n r ∈ lwG))
theorem lf_ldc : ∀ q ∈ lt_ldc, LF_ldc (am_on q.1) q.2.1 q.2.2 := by
  unfold lt_ldc
  refine List.forall_mem_cons.mpr ⟨Or.inl ⟨(-1000000), rfl, wd_0⟩, ?_⟩
  refine List.forall_mem_cons.mpr ⟨Or.inl ⟨1103515245, rfl, wd_1⟩, ?_⟩
  refine List.forall_mem_cons.mpr ⟨Or.inr ⟨2, "sort", rfl, List.mem_of_getElem? (i := 0) rfl⟩, ?_⟩
  refine List.forall_mem_cons.mpr ⟨Or.inr ⟨6, "box", rfl, List.mem_of_getElem? (i := 1) rfl⟩, ?_⟩
  refine List.forall_mem_cons.mpr ⟨Or.inr ⟨7, "goes", rfl, List.mem_of_getElem? (i := 2) rfl⟩, ?_⟩
  refine List.forall_mem_cons.mpr ⟨Or.inr ⟨8, "near", rfl, List.mem_of_getElem? (i := 3) rfl⟩, ?_⟩
  refine List.forall_mem_cons.mpr ⟨Or.inr ⟨9, "way", rfl, List.mem_of_getElem? (i := 4) rfl⟩, ?_⟩
  refine List.forall_mem_cons.mpr ⟨Or.inr ⟨3, "comes", rfl, List.mem_of_getElem? (i := 5) rfl⟩, ?_⟩
  refine List.forall_mem_cons.mpr ⟨Or.inr ⟨4, "worth", rfl, List.mem_of_getElem? (i := 6) rfl⟩, ?_⟩
  refine List.forall_mem_cons.mpr ⟨Or.inr ⟨5, "back", rfl, List.mem_of_getElem? (i := 7) rfl⟩, ?_⟩
  refine List.forall_mem_cons.mpr ⟨Or.inr ⟨2, "sort", rfl, List.mem_of_getElem? (i := 8) rfl⟩, ?_⟩
  refine List.forall_mem_cons.mpr ⟨Or.inr ⟨3, "comes", rfl, List.mem_of_getElem? (i := 9) rfl⟩, ?_⟩
  refine List.forall_mem_cons.mpr ⟨Or.inr ⟨4, "worth", rfl, List.mem_of_getElem? (i := 10) rfl⟩, ?_⟩
  refine List.forall_mem_cons.mpr ⟨Or.inr ⟨5, "back", rfl, List.mem_of_getElem? (i := 11) rfl⟩, ?_⟩
  refine List.forall_mem_cons.mpr ⟨Or.inr ⟨6, "box", rfl, List.mem_of_getElem? (i := 12) rfl⟩, ?_⟩
  refine List.forall_mem_cons.mpr ⟨Or.inr ⟨7, "goes", rfl, List.mem_of_getElem? (i := 13) rfl⟩, ?_⟩
  refine List.forall_mem_cons.mpr ⟨Or.inr ⟨8, "near", rfl, List.mem_of_getElem? (i := 14) rfl⟩, ?_⟩
  refine List.forall_mem_cons.mpr ⟨Or.inr ⟨9, "way", rfl, List.mem_of_getElem? (i := 15) rfl⟩, ?_⟩
  refine List.forall_mem_cons.mpr ⟨Or.inl ⟨1103515245, rfl, wd_2⟩, ?_⟩
  refine List.forall_mem_cons.mpr ⟨Or.inl ⟨1000000, rfl, wd_3⟩, ?_⟩
  exact fun _ h => absurd h List.not_mem_nil
theorem lf_ldc2 : ∀ q ∈ lt_ldc2, LF_ldc2 (am_on q.1) q.2.1 q.2.2 := by
  unfold lt_ldc2
  refine List.forall_mem_cons.mpr ⟨⟨(-1000000000000), rfl, wd_4⟩, ?_⟩
  refine List.forall_mem_cons.mpr ⟨⟨3, rfl, wd_5⟩, ?_⟩
  refine List.forall_mem_cons.mpr ⟨⟨100, rfl, wd_6⟩, ?_⟩
  refine List.forall_mem_cons.mpr ⟨⟨99, rfl, wd_7⟩, ?_⟩
  refine List.forall_mem_cons.mpr ⟨⟨1000000, rfl, wd_8⟩, ?_⟩
  refine List.forall_mem_cons.mpr ⟨⟨100000, rfl, wd_9⟩, ?_⟩
  refine List.forall_mem_cons.mpr ⟨⟨100000, rfl, wd_10⟩, ?_⟩
  refine List.forall_mem_cons.mpr ⟨⟨(-1000000000000000), rfl, wd_11⟩, ?_⟩
  refine List.forall_mem_cons.mpr ⟨⟨10, rfl, wd_12⟩, ?_⟩
  refine List.forall_mem_cons.mpr ⟨⟨3, rfl, wd_13⟩, ?_⟩
  refine List.forall_mem_cons.mpr ⟨⟨24, rfl, wd_14⟩, ?_⟩
  refine List.forall_mem_cons.mpr ⟨⟨124, rfl, wd_15⟩, ?_⟩
  refine List.forall_mem_cons.mpr ⟨⟨7, rfl, wd_16⟩, ?_⟩
  refine List.forall_mem_cons.mpr ⟨⟨4, rfl, wd_17⟩, ?_⟩
  refine List.forall_mem_cons.mpr ⟨⟨40, rfl, wd_18⟩, ?_⟩
  refine List.forall_mem_cons.mpr ⟨⟨6, rfl, wd_19⟩, ?_⟩
  refine List.forall_mem_cons.mpr ⟨⟨99, rfl, wd_20⟩, ?_⟩
  refine List.forall_mem_cons.mpr ⟨⟨2, rfl, wd_21⟩, ?_⟩
  refine List.forall_mem_cons.mpr ⟨⟨10, rfl, wd_22⟩, ?_⟩
  refine List.forall_mem_cons.mpr ⟨⟨100, rfl, wd_23⟩, ?_⟩
  refine List.forall_mem_cons.mpr ⟨⟨3, rfl, wd_24⟩, ?_⟩
  refine List.forall_mem_cons.mpr ⟨⟨48, rfl, wd_25⟩, ?_⟩
  refine List.forall_mem_cons.mpr ⟨⟨100000, rfl, wd_26⟩, ?_⟩
  refine List.forall_mem_cons.mpr ⟨⟨(-1000000000000), rfl, wd_27⟩, ?_⟩
  refine List.forall_mem_cons.mpr ⟨⟨1000000, rfl, wd_28⟩, ?_⟩
  refine List.forall_mem_cons.mpr ⟨⟨(-1), rfl, wd_29⟩, ?_⟩
  refine List.forall_mem_cons.mpr ⟨⟨30, rfl, wd_30⟩, ?_⟩
  refine List.forall_mem_cons.mpr ⟨⟨50, rfl, wd_31⟩, ?_⟩
  refine List.forall_mem_cons.mpr ⟨⟨200, rfl, wd_32⟩, ?_⟩
  refine List.forall_mem_cons.mpr ⟨⟨5, rfl, wd_33⟩, ?_⟩
  refine List.forall_mem_cons.mpr ⟨⟨12, rfl, wd_34⟩, ?_⟩
  refine List.forall_mem_cons.mpr ⟨⟨16, rfl, wd_35⟩, ?_⟩
  refine List.forall_mem_cons.mpr ⟨⟨4294967295, rfl, wd_36⟩, ?_⟩
  exact fun _ h => absurd h List.not_mem_nil
theorem lf_gs : ∀ q ∈ lt_gs, LF_gs (am_on q.1) q.2.1 q.2.2 := by
  unfold lt_gs
  refine List.forall_mem_cons.mpr ⟨Or.inl ⟨rfl, wd_37⟩, ?_⟩
  refine List.forall_mem_cons.mpr ⟨Or.inl ⟨rfl, wd_38⟩, ?_⟩
  refine List.forall_mem_cons.mpr ⟨Or.inl ⟨rfl, wd_39⟩, ?_⟩
  refine List.forall_mem_cons.mpr ⟨Or.inr (Or.inr ⟨rfl, wd_40⟩), ?_⟩
  refine List.forall_mem_cons.mpr ⟨Or.inr (Or.inl ⟨rfl, wd_41⟩), ?_⟩
  exact fun _ h => absurd h List.not_mem_nil
theorem lf_gf : ∀ q ∈ lt_gf, LF_gf (am_on q.1) q.2.1 q.2.2 := by
  unfold lt_gf
  refine List.forall_mem_cons.mpr ⟨Or.inl ⟨5, rfl, ⟨by decide, "ThreeSizes", wd_42, Or.inl rfl⟩⟩, ?_⟩
  refine List.forall_mem_cons.mpr ⟨Or.inl ⟨35, rfl, ⟨by decide, "ThreeSizes$Row", wd_43, Or.inl rfl⟩⟩, ?_⟩
  refine List.forall_mem_cons.mpr ⟨Or.inl ⟨36, rfl, ⟨by decide, "ThreeSizes$Row", wd_44, Or.inl rfl⟩⟩, ?_⟩
  refine List.forall_mem_cons.mpr ⟨Or.inl ⟨75, rfl, ⟨by decide, "ThreeSizes$Rule", wd_45, Or.inl rfl⟩⟩, ?_⟩
  refine List.forall_mem_cons.mpr ⟨Or.inl ⟨0, rfl, ⟨by decide, "ThreeSizes", wd_46, Or.inl rfl⟩⟩, ?_⟩
  refine List.forall_mem_cons.mpr ⟨Or.inl ⟨16, rfl, ⟨by decide, "ThreeSizes$Wall", wd_47, Or.inl rfl⟩⟩, ?_⟩
  refine List.forall_mem_cons.mpr ⟨Or.inl ⟨9, rfl, ⟨by decide, "ThreeSizes$Wall", wd_48, Or.inl rfl⟩⟩, ?_⟩
  refine List.forall_mem_cons.mpr ⟨Or.inl ⟨8, rfl, ⟨by decide, "ThreeSizes$Wall", wd_49, Or.inl rfl⟩⟩, ?_⟩
  refine List.forall_mem_cons.mpr ⟨Or.inl ⟨10, rfl, ⟨by decide, "ThreeSizes$Wall", wd_50, Or.inl rfl⟩⟩, ?_⟩
  refine List.forall_mem_cons.mpr ⟨Or.inl ⟨11, rfl, ⟨by decide, "ThreeSizes$Wall", wd_51, Or.inl rfl⟩⟩, ?_⟩
  refine List.forall_mem_cons.mpr ⟨Or.inl ⟨12, rfl, ⟨by decide, "ThreeSizes$Wall", wd_52, Or.inl rfl⟩⟩, ?_⟩
  refine List.forall_mem_cons.mpr ⟨Or.inl ⟨13, rfl, ⟨by decide, "ThreeSizes$Wall", wd_53, Or.inl rfl⟩⟩, ?_⟩
  refine List.forall_mem_cons.mpr ⟨Or.inl ⟨14, rfl, ⟨by decide, "ThreeSizes$Wall", wd_54, Or.inl rfl⟩⟩, ?_⟩
  refine List.forall_mem_cons.mpr ⟨Or.inl ⟨17, rfl, ⟨by decide, "ThreeSizes$Wall", wd_55, Or.inl rfl⟩⟩, ?_⟩
  refine List.forall_mem_cons.mpr ⟨Or.inl ⟨18, rfl, ⟨by decide, "ThreeSizes$Wall", wd_56, Or.inl rfl⟩⟩, ?_⟩
  refine List.forall_mem_cons.mpr ⟨Or.inl ⟨4, rfl, ⟨by decide, "ThreeSizes", wd_57, Or.inl rfl⟩⟩, ?_⟩
  refine List.forall_mem_cons.mpr ⟨Or.inl ⟨29, rfl, ⟨by decide, "ThreeSizes$Tape", wd_58, Or.inl rfl⟩⟩, ?_⟩
  refine List.forall_mem_cons.mpr ⟨Or.inl ⟨1, rfl, ⟨by decide, "ThreeSizes", wd_59, Or.inl rfl⟩⟩, ?_⟩
  refine List.forall_mem_cons.mpr ⟨Or.inl ⟨3, rfl, ⟨by decide, "ThreeSizes", wd_60, Or.inl rfl⟩⟩, ?_⟩
  refine List.forall_mem_cons.mpr ⟨Or.inl ⟨20, rfl, ⟨by decide, "ThreeSizes$Hours", wd_61, Or.inl rfl⟩⟩, ?_⟩
  refine List.forall_mem_cons.mpr ⟨Or.inl ⟨21, rfl, ⟨by decide, "ThreeSizes$Hours", wd_62, Or.inl rfl⟩⟩, ?_⟩
  refine List.forall_mem_cons.mpr ⟨Or.inl ⟨22, rfl, ⟨by decide, "ThreeSizes$Hours", wd_63, Or.inl rfl⟩⟩, ?_⟩
  refine List.forall_mem_cons.mpr ⟨Or.inl ⟨15, rfl, ⟨by decide, "ThreeSizes$Wall", wd_64, Or.inl rfl⟩⟩, ?_⟩
  refine List.forall_mem_cons.mpr ⟨Or.inl ⟨19, rfl, ⟨by decide, "ThreeSizes$Wall", wd_65, Or.inl rfl⟩⟩, ?_⟩
  refine List.forall_mem_cons.mpr ⟨Or.inl ⟨2, rfl, ⟨by decide, "ThreeSizes", wd_66, Or.inl rfl⟩⟩, ?_⟩
  refine List.forall_mem_cons.mpr ⟨Or.inl ⟨7, rfl, ⟨by decide, "ThreeSizes", wd_67, Or.inl rfl⟩⟩, ?_⟩
  refine List.forall_mem_cons.mpr ⟨Or.inl ⟨6, rfl, ⟨by decide, "ThreeSizes", wd_68, Or.inl rfl⟩⟩, ?_⟩
  refine List.forall_mem_cons.mpr ⟨Or.inl ⟨8, rfl, ⟨by decide, "ThreeSizes$Wall", wd_69, Or.inl rfl⟩⟩, ?_⟩
  refine List.forall_mem_cons.mpr ⟨Or.inl ⟨9, rfl, ⟨by decide, "ThreeSizes$Wall", wd_70, Or.inl rfl⟩⟩, ?_⟩
  refine List.forall_mem_cons.mpr ⟨Or.inl ⟨10, rfl, ⟨by decide, "ThreeSizes$Wall", wd_71, Or.inl rfl⟩⟩, ?_⟩
  refine List.forall_mem_cons.mpr ⟨Or.inl ⟨11, rfl, ⟨by decide, "ThreeSizes$Wall", wd_72, Or.inl rfl⟩⟩, ?_⟩
  refine List.forall_mem_cons.mpr ⟨Or.inl ⟨12, rfl, ⟨by decide, "ThreeSizes$Wall", wd_73, Or.inl rfl⟩⟩, ?_⟩
  refine List.forall_mem_cons.mpr ⟨Or.inl ⟨13, rfl, ⟨by decide, "ThreeSizes$Wall", wd_74, Or.inl rfl⟩⟩, ?_⟩
  refine List.forall_mem_cons.mpr ⟨Or.inl ⟨14, rfl, ⟨by decide, "ThreeSizes$Wall", wd_75, Or.inl rfl⟩⟩, ?_⟩
  refine List.forall_mem_cons.mpr ⟨Or.inl ⟨15, rfl, ⟨by decide, "ThreeSizes$Wall", wd_76, Or.inl rfl⟩⟩, ?_⟩
  refine List.forall_mem_cons.mpr ⟨Or.inl ⟨16, rfl, ⟨by decide, "ThreeSizes$Wall", wd_77, Or.inl rfl⟩⟩, ?_⟩
  refine List.forall_mem_cons.mpr ⟨Or.inl ⟨17, rfl, ⟨by decide, "ThreeSizes$Wall", wd_78, Or.inl rfl⟩⟩, ?_⟩
  refine List.forall_mem_cons.mpr ⟨Or.inl ⟨18, rfl, ⟨by decide, "ThreeSizes$Wall", wd_79, Or.inl rfl⟩⟩, ?_⟩
  refine List.forall_mem_cons.mpr ⟨Or.inl ⟨19, rfl, ⟨by decide, "ThreeSizes$Wall", wd_80, Or.inl rfl⟩⟩, ?_⟩
  refine List.forall_mem_cons.mpr ⟨Or.inl ⟨24, rfl, ⟨by decide, "ThreeSizes$Hours", wd_81, Or.inl rfl⟩⟩, ?_⟩
  refine List.forall_mem_cons.mpr ⟨Or.inl ⟨25, rfl, ⟨by decide, "ThreeSizes$Hours", wd_82, Or.inl rfl⟩⟩, ?_⟩
  refine List.forall_mem_cons.mpr ⟨Or.inl ⟨20, rfl, ⟨by decide, "ThreeSizes$Hours", wd_83, Or.inl rfl⟩⟩, ?_⟩
  refine List.forall_mem_cons.mpr ⟨Or.inl ⟨16, rfl, ⟨by decide, "ThreeSizes$Wall", wd_84, Or.inl rfl⟩⟩, ?_⟩
  refine List.forall_mem_cons.mpr ⟨Or.inl ⟨26, rfl, ⟨by decide, "ThreeSizes$Hours", wd_85, Or.inl rfl⟩⟩, ?_⟩
  refine List.forall_mem_cons.mpr ⟨Or.inl ⟨27, rfl, ⟨by decide, "ThreeSizes$Hours", wd_86, Or.inl rfl⟩⟩, ?_⟩
  refine List.forall_mem_cons.mpr ⟨Or.inl ⟨23, rfl, ⟨by decide, "ThreeSizes$Hours", wd_87, Or.inl rfl⟩⟩, ?_⟩
  refine List.forall_mem_cons.mpr ⟨Or.inl ⟨22, rfl, ⟨by decide, "ThreeSizes$Hours", wd_88, Or.inl rfl⟩⟩, ?_⟩
  refine List.forall_mem_cons.mpr ⟨Or.inl ⟨28, rfl, ⟨by decide, "ThreeSizes$Hours", wd_89, Or.inl rfl⟩⟩, ?_⟩
  refine List.forall_mem_cons.mpr ⟨Or.inl ⟨11, rfl, ⟨by decide, "ThreeSizes$Wall", wd_90, Or.inl rfl⟩⟩, ?_⟩
  refine List.forall_mem_cons.mpr ⟨Or.inl ⟨12, rfl, ⟨by decide, "ThreeSizes$Wall", wd_91, Or.inl rfl⟩⟩, ?_⟩
  refine List.forall_mem_cons.mpr ⟨Or.inl ⟨8, rfl, ⟨by decide, "ThreeSizes$Wall", wd_92, Or.inl rfl⟩⟩, ?_⟩
  refine List.forall_mem_cons.mpr ⟨Or.inl ⟨10, rfl, ⟨by decide, "ThreeSizes$Wall", wd_93, Or.inl rfl⟩⟩, ?_⟩
  refine List.forall_mem_cons.mpr ⟨Or.inl ⟨21, rfl, ⟨by decide, "ThreeSizes$Hours", wd_94, Or.inl rfl⟩⟩, ?_⟩
  refine List.forall_mem_cons.mpr ⟨Or.inl ⟨29, rfl, ⟨by decide, "ThreeSizes$Tape", wd_95, Or.inl rfl⟩⟩, ?_⟩
  refine List.forall_mem_cons.mpr ⟨Or.inl ⟨30, rfl, ⟨by decide, "ThreeSizes$Tape", wd_96, Or.inl rfl⟩⟩, ?_⟩
  refine List.forall_mem_cons.mpr ⟨Or.inl ⟨34, rfl, ⟨by decide, "ThreeSizes$Tape", wd_97, Or.inl rfl⟩⟩, ?_⟩
  refine List.forall_mem_cons.mpr ⟨Or.inl ⟨31, rfl, ⟨by decide, "ThreeSizes$Tape", wd_98, Or.inl rfl⟩⟩, ?_⟩
  refine List.forall_mem_cons.mpr ⟨Or.inl ⟨9, rfl, ⟨by decide, "ThreeSizes$Wall", wd_99, Or.inl rfl⟩⟩, ?_⟩
  refine List.forall_mem_cons.mpr ⟨Or.inl ⟨8, rfl, ⟨by decide, "ThreeSizes$Wall", wd_100, Or.inl rfl⟩⟩, ?_⟩
  refine List.forall_mem_cons.mpr ⟨Or.inl ⟨10, rfl, ⟨by decide, "ThreeSizes$Wall", wd_101, Or.inl rfl⟩⟩, ?_⟩
  refine List.forall_mem_cons.mpr ⟨Or.inl ⟨16, rfl, ⟨by decide, "ThreeSizes$Wall", wd_102, Or.inl rfl⟩⟩, ?_⟩
  refine List.forall_mem_cons.mpr ⟨Or.inl ⟨32, rfl, ⟨by decide, "ThreeSizes$Tape", wd_103, Or.inl rfl⟩⟩, ?_⟩
  refine List.forall_mem_cons.mpr ⟨Or.inl ⟨33, rfl, ⟨by decide, "ThreeSizes$Tape", wd_104, Or.inl rfl⟩⟩, ?_⟩
  refine List.forall_mem_cons.mpr ⟨Or.inl ⟨35, rfl, ⟨by decide, "ThreeSizes$Row", wd_105, Or.inl rfl⟩⟩, ?_⟩
  refine List.forall_mem_cons.mpr ⟨Or.inl ⟨36, rfl, ⟨by decide, "ThreeSizes$Row", wd_106, Or.inl rfl⟩⟩, ?_⟩
  refine List.forall_mem_cons.mpr ⟨Or.inl ⟨11, rfl, ⟨by decide, "ThreeSizes$Wall", wd_107, Or.inl rfl⟩⟩, ?_⟩
  refine List.forall_mem_cons.mpr ⟨Or.inl ⟨11, rfl, ⟨by decide, "ThreeSizes$Wall", wd_108, Or.inl rfl⟩⟩, ?_⟩
  refine List.forall_mem_cons.mpr ⟨Or.inl ⟨75, rfl, ⟨by decide, "ThreeSizes$Keep", wd_109, Or.inr wd_110⟩⟩, ?_⟩
  refine List.forall_mem_cons.mpr ⟨Or.inl ⟨13, rfl, ⟨by decide, "ThreeSizes$Wall", wd_111, Or.inl rfl⟩⟩, ?_⟩
  refine List.forall_mem_cons.mpr ⟨Or.inl ⟨75, rfl, ⟨by decide, "ThreeSizes$Some", wd_112, Or.inr wd_113⟩⟩, ?_⟩
  refine List.forall_mem_cons.mpr ⟨Or.inl ⟨11, rfl, ⟨by decide, "ThreeSizes$Wall", wd_114, Or.inl rfl⟩⟩, ?_⟩
  refine List.forall_mem_cons.mpr ⟨Or.inl ⟨11, rfl, ⟨by decide, "ThreeSizes$Wall", wd_115, Or.inl rfl⟩⟩, ?_⟩
  refine List.forall_mem_cons.mpr ⟨Or.inl ⟨75, rfl, ⟨by decide, "ThreeSizes$Wise", wd_116, Or.inr wd_117⟩⟩, ?_⟩
  refine List.forall_mem_cons.mpr ⟨Or.inl ⟨46, rfl, ⟨by decide, "ThreeSizesModel", wd_118, Or.inl rfl⟩⟩, ?_⟩
  refine List.forall_mem_cons.mpr ⟨Or.inl ⟨50, rfl, ⟨by decide, "ThreeSizesModel", wd_119, Or.inl rfl⟩⟩, ?_⟩
  refine List.forall_mem_cons.mpr ⟨Or.inl ⟨51, rfl, ⟨by decide, "ThreeSizesModel", wd_120, Or.inl rfl⟩⟩, ?_⟩
  refine List.forall_mem_cons.mpr ⟨Or.inl ⟨47, rfl, ⟨by decide, "ThreeSizesModel", wd_121, Or.inl rfl⟩⟩, ?_⟩
  refine List.forall_mem_cons.mpr ⟨Or.inl ⟨48, rfl, ⟨by decide, "ThreeSizesModel", wd_122, Or.inl rfl⟩⟩, ?_⟩
  refine List.forall_mem_cons.mpr ⟨Or.inl ⟨37, rfl, ⟨by decide, "ThreeSizesModel", wd_123, Or.inl rfl⟩⟩, ?_⟩
  refine List.forall_mem_cons.mpr ⟨Or.inl ⟨38, rfl, ⟨by decide, "ThreeSizesModel", wd_124, Or.inl rfl⟩⟩, ?_⟩
  refine List.forall_mem_cons.mpr ⟨Or.inl ⟨39, rfl, ⟨by decide, "ThreeSizesModel", wd_125, Or.inl rfl⟩⟩, ?_⟩
  refine List.forall_mem_cons.mpr ⟨Or.inl ⟨40, rfl, ⟨by decide, "ThreeSizesModel", wd_126, Or.inl rfl⟩⟩, ?_⟩
  refine List.forall_mem_cons.mpr ⟨Or.inl ⟨41, rfl, ⟨by decide, "ThreeSizesModel", wd_127, Or.inl rfl⟩⟩, ?_⟩
  refine List.forall_mem_cons.mpr ⟨Or.inl ⟨42, rfl, ⟨by decide, "ThreeSizesModel", wd_128, Or.inl rfl⟩⟩, ?_⟩
  refine List.forall_mem_cons.mpr ⟨Or.inl ⟨43, rfl, ⟨by decide, "ThreeSizesModel", wd_129, Or.inl rfl⟩⟩, ?_⟩
  refine List.forall_mem_cons.mpr ⟨Or.inl ⟨49, rfl, ⟨by decide, "ThreeSizesModel", wd_130, Or.inl rfl⟩⟩, ?_⟩
  refine List.forall_mem_cons.mpr ⟨Or.inl ⟨52, rfl, ⟨by decide, "ThreeSizesModel", wd_131, Or.inl rfl⟩⟩, ?_⟩
  refine List.forall_mem_cons.mpr ⟨Or.inl ⟨45, rfl, ⟨by decide, "ThreeSizesModel", wd_132, Or.inl rfl⟩⟩, ?_⟩
  refine List.forall_mem_cons.mpr ⟨Or.inl ⟨44, rfl, ⟨by decide, "ThreeSizesModel", wd_133, Or.inl rfl⟩⟩, ?_⟩
  refine List.forall_mem_cons.mpr ⟨Or.inl ⟨57, rfl, ⟨by decide, "ThreeSizesModel", wd_134, Or.inl rfl⟩⟩, ?_⟩
  refine List.forall_mem_cons.mpr ⟨Or.inl ⟨59, rfl, ⟨by decide, "ThreeSizesModel", wd_135, Or.inl rfl⟩⟩, ?_⟩
  refine List.forall_mem_cons.mpr ⟨Or.inl ⟨60, rfl, ⟨by decide, "ThreeSizesModel", wd_136, Or.inl rfl⟩⟩, ?_⟩
  refine List.forall_mem_cons.mpr ⟨Or.inl ⟨58, rfl, ⟨by decide, "ThreeSizesModel", wd_137, Or.inl rfl⟩⟩, ?_⟩
  refine List.forall_mem_cons.mpr ⟨Or.inl ⟨62, rfl, ⟨by decide, "ThreeSizesModel", wd_138, Or.inl rfl⟩⟩, ?_⟩
  refine List.forall_mem_cons.mpr ⟨Or.inl ⟨63, rfl, ⟨by decide, "ThreeSizesModel", wd_139, Or.inl rfl⟩⟩, ?_⟩
  refine List.forall_mem_cons.mpr ⟨Or.inl ⟨61, rfl, ⟨by decide, "ThreeSizesModel", wd_140, Or.inl rfl⟩⟩, ?_⟩
  refine List.forall_mem_cons.mpr ⟨Or.inl ⟨64, rfl, ⟨by decide, "ThreeSizesModel", wd_141, Or.inl rfl⟩⟩, ?_⟩
  refine List.forall_mem_cons.mpr ⟨Or.inl ⟨65, rfl, ⟨by decide, "ThreeSizesModel", wd_142, Or.inl rfl⟩⟩, ?_⟩
  refine List.forall_mem_cons.mpr ⟨Or.inl ⟨66, rfl, ⟨by decide, "ThreeSizesModel", wd_143, Or.inl rfl⟩⟩, ?_⟩
  refine List.forall_mem_cons.mpr ⟨Or.inl ⟨71, rfl, ⟨by decide, "ThreeSizesModel", wd_144, Or.inl rfl⟩⟩, ?_⟩
  refine List.forall_mem_cons.mpr ⟨Or.inl ⟨70, rfl, ⟨by decide, "ThreeSizesModel", wd_145, Or.inl rfl⟩⟩, ?_⟩
  refine List.forall_mem_cons.mpr ⟨Or.inl ⟨68, rfl, ⟨by decide, "ThreeSizesModel", wd_146, Or.inl rfl⟩⟩, ?_⟩
  refine List.forall_mem_cons.mpr ⟨Or.inl ⟨69, rfl, ⟨by decide, "ThreeSizesModel", wd_147, Or.inl rfl⟩⟩, ?_⟩
  refine List.forall_mem_cons.mpr ⟨Or.inl ⟨67, rfl, ⟨by decide, "ThreeSizesModel", wd_148, Or.inl rfl⟩⟩, ?_⟩
  refine List.forall_mem_cons.mpr ⟨Or.inl ⟨72, rfl, ⟨by decide, "ThreeSizesModel", wd_149, Or.inl rfl⟩⟩, ?_⟩
  refine List.forall_mem_cons.mpr ⟨Or.inl ⟨73, rfl, ⟨by decide, "ThreeSizesModel", wd_150, Or.inl rfl⟩⟩, ?_⟩
  refine List.forall_mem_cons.mpr ⟨Or.inl ⟨74, rfl, ⟨by decide, "ThreeSizesModel", wd_151, Or.inl rfl⟩⟩, ?_⟩
  refine List.forall_mem_cons.mpr ⟨Or.inl ⟨56, rfl, ⟨by decide, "ThreeSizesModel", wd_152, Or.inl rfl⟩⟩, ?_⟩
  refine List.forall_mem_cons.mpr ⟨Or.inl ⟨54, rfl, ⟨by decide, "ThreeSizesModel", wd_153, Or.inl rfl⟩⟩, ?_⟩
  refine List.forall_mem_cons.mpr ⟨Or.inl ⟨53, rfl, ⟨by decide, "ThreeSizesModel", wd_154, Or.inl rfl⟩⟩, ?_⟩
  refine List.forall_mem_cons.mpr ⟨Or.inl ⟨55, rfl, ⟨by decide, "ThreeSizesModel", wd_155, Or.inl rfl⟩⟩, ?_⟩
  refine List.forall_mem_cons.mpr ⟨Or.inr (Or.inl ⟨rfl, wd_156⟩), ?_⟩
  refine List.forall_mem_cons.mpr ⟨Or.inr (Or.inr ⟨rfl, wd_157⟩), ?_⟩
  exact fun _ h => absurd h List.not_mem_nil
theorem lf_pf : ∀ q ∈ lt_pf, LF_pf (am_on q.1) q.2.1 q.2.2 := by
  unfold lt_pf
  refine List.forall_mem_cons.mpr ⟨⟨0, rfl, ⟨by decide, "ThreeSizes", wd_46, Or.inl rfl⟩, by decide⟩, ?_⟩
  refine List.forall_mem_cons.mpr ⟨⟨1, rfl, ⟨by decide, "ThreeSizes", wd_59, Or.inl rfl⟩, by decide⟩, ?_⟩
  refine List.forall_mem_cons.mpr ⟨⟨2, rfl, ⟨by decide, "ThreeSizes", wd_66, Or.inl rfl⟩, by decide⟩, ?_⟩
  refine List.forall_mem_cons.mpr ⟨⟨3, rfl, ⟨by decide, "ThreeSizes", wd_60, Or.inl rfl⟩, by decide⟩, ?_⟩
  refine List.forall_mem_cons.mpr ⟨⟨4, rfl, ⟨by decide, "ThreeSizes", wd_57, Or.inl rfl⟩, by decide⟩, ?_⟩
  refine List.forall_mem_cons.mpr ⟨⟨5, rfl, ⟨by decide, "ThreeSizes", wd_42, Or.inl rfl⟩, by decide⟩, ?_⟩
  refine List.forall_mem_cons.mpr ⟨⟨6, rfl, ⟨by decide, "ThreeSizes", wd_68, Or.inl rfl⟩, by decide⟩, ?_⟩
  refine List.forall_mem_cons.mpr ⟨⟨17, rfl, ⟨by decide, "ThreeSizes$Wall", wd_55, Or.inl rfl⟩, by decide⟩, ?_⟩
  refine List.forall_mem_cons.mpr ⟨⟨18, rfl, ⟨by decide, "ThreeSizes$Wall", wd_56, Or.inl rfl⟩, by decide⟩, ?_⟩
  refine List.forall_mem_cons.mpr ⟨⟨29, rfl, ⟨by decide, "ThreeSizes$Tape", wd_58, Or.inl rfl⟩, by decide⟩, ?_⟩
  refine List.forall_mem_cons.mpr ⟨⟨19, rfl, ⟨by decide, "ThreeSizes$Wall", wd_65, Or.inl rfl⟩, by decide⟩, ?_⟩
  refine List.forall_mem_cons.mpr ⟨⟨7, rfl, ⟨by decide, "ThreeSizes", wd_67, Or.inl rfl⟩, by decide⟩, ?_⟩
  refine List.forall_mem_cons.mpr ⟨⟨8, rfl, ⟨by decide, "ThreeSizes$Wall", wd_69, Or.inl rfl⟩, by decide⟩, ?_⟩
  refine List.forall_mem_cons.mpr ⟨⟨9, rfl, ⟨by decide, "ThreeSizes$Wall", wd_70, Or.inl rfl⟩, by decide⟩, ?_⟩
  refine List.forall_mem_cons.mpr ⟨⟨10, rfl, ⟨by decide, "ThreeSizes$Wall", wd_71, Or.inl rfl⟩, by decide⟩, ?_⟩
  refine List.forall_mem_cons.mpr ⟨⟨11, rfl, ⟨by decide, "ThreeSizes$Wall", wd_72, Or.inl rfl⟩, by decide⟩, ?_⟩
  refine List.forall_mem_cons.mpr ⟨⟨12, rfl, ⟨by decide, "ThreeSizes$Wall", wd_73, Or.inl rfl⟩, by decide⟩, ?_⟩
  refine List.forall_mem_cons.mpr ⟨⟨13, rfl, ⟨by decide, "ThreeSizes$Wall", wd_74, Or.inl rfl⟩, by decide⟩, ?_⟩
  refine List.forall_mem_cons.mpr ⟨⟨14, rfl, ⟨by decide, "ThreeSizes$Wall", wd_75, Or.inl rfl⟩, by decide⟩, ?_⟩
  refine List.forall_mem_cons.mpr ⟨⟨15, rfl, ⟨by decide, "ThreeSizes$Wall", wd_76, Or.inl rfl⟩, by decide⟩, ?_⟩
  refine List.forall_mem_cons.mpr ⟨⟨18, rfl, ⟨by decide, "ThreeSizes$Wall", wd_79, Or.inl rfl⟩, by decide⟩, ?_⟩
  refine List.forall_mem_cons.mpr ⟨⟨19, rfl, ⟨by decide, "ThreeSizes$Wall", wd_80, Or.inl rfl⟩, by decide⟩, ?_⟩
  refine List.forall_mem_cons.mpr ⟨⟨16, rfl, ⟨by decide, "ThreeSizes$Wall", wd_77, Or.inl rfl⟩, by decide⟩, ?_⟩
  refine List.forall_mem_cons.mpr ⟨⟨17, rfl, ⟨by decide, "ThreeSizes$Wall", wd_78, Or.inl rfl⟩, by decide⟩, ?_⟩
  refine List.forall_mem_cons.mpr ⟨⟨20, rfl, ⟨by decide, "ThreeSizes$Hours", wd_83, Or.inl rfl⟩, by decide⟩, ?_⟩
  refine List.forall_mem_cons.mpr ⟨⟨21, rfl, ⟨by decide, "ThreeSizes$Hours", wd_94, Or.inl rfl⟩, by decide⟩, ?_⟩
  refine List.forall_mem_cons.mpr ⟨⟨22, rfl, ⟨by decide, "ThreeSizes$Hours", wd_88, Or.inl rfl⟩, by decide⟩, ?_⟩
  refine List.forall_mem_cons.mpr ⟨⟨23, rfl, ⟨by decide, "ThreeSizes$Hours", wd_87, Or.inl rfl⟩, by decide⟩, ?_⟩
  refine List.forall_mem_cons.mpr ⟨⟨24, rfl, ⟨by decide, "ThreeSizes$Hours", wd_81, Or.inl rfl⟩, by decide⟩, ?_⟩
  refine List.forall_mem_cons.mpr ⟨⟨26, rfl, ⟨by decide, "ThreeSizes$Hours", wd_85, Or.inl rfl⟩, by decide⟩, ?_⟩
  refine List.forall_mem_cons.mpr ⟨⟨27, rfl, ⟨by decide, "ThreeSizes$Hours", wd_86, Or.inl rfl⟩, by decide⟩, ?_⟩
  refine List.forall_mem_cons.mpr ⟨⟨28, rfl, ⟨by decide, "ThreeSizes$Hours", wd_89, Or.inl rfl⟩, by decide⟩, ?_⟩
  refine List.forall_mem_cons.mpr ⟨⟨25, rfl, ⟨by decide, "ThreeSizes$Hours", wd_82, Or.inl rfl⟩, by decide⟩, ?_⟩
  refine List.forall_mem_cons.mpr ⟨⟨30, rfl, ⟨by decide, "ThreeSizes$Tape", wd_96, Or.inl rfl⟩, by decide⟩, ?_⟩
  refine List.forall_mem_cons.mpr ⟨⟨29, rfl, ⟨by decide, "ThreeSizes$Tape", wd_95, Or.inl rfl⟩, by decide⟩, ?_⟩
  refine List.forall_mem_cons.mpr ⟨⟨34, rfl, ⟨by decide, "ThreeSizes$Tape", wd_97, Or.inl rfl⟩, by decide⟩, ?_⟩
  refine List.forall_mem_cons.mpr ⟨⟨33, rfl, ⟨by decide, "ThreeSizes$Tape", wd_104, Or.inl rfl⟩, by decide⟩, ?_⟩
  refine List.forall_mem_cons.mpr ⟨⟨17, rfl, ⟨by decide, "ThreeSizes$Wall", wd_158, Or.inl rfl⟩, by decide⟩, ?_⟩
  refine List.forall_mem_cons.mpr ⟨⟨18, rfl, ⟨by decide, "ThreeSizes$Wall", wd_159, Or.inl rfl⟩, by decide⟩, ?_⟩
  refine List.forall_mem_cons.mpr ⟨⟨32, rfl, ⟨by decide, "ThreeSizes$Tape", wd_103, Or.inl rfl⟩, by decide⟩, ?_⟩
  refine List.forall_mem_cons.mpr ⟨⟨31, rfl, ⟨by decide, "ThreeSizes$Tape", wd_98, Or.inl rfl⟩, by decide⟩, ?_⟩
  refine List.forall_mem_cons.mpr ⟨⟨35, rfl, ⟨by decide, "ThreeSizes$Row", wd_105, Or.inl rfl⟩, by decide⟩, ?_⟩
  refine List.forall_mem_cons.mpr ⟨⟨36, rfl, ⟨by decide, "ThreeSizes$Row", wd_106, Or.inl rfl⟩, by decide⟩, ?_⟩
  refine List.forall_mem_cons.mpr ⟨⟨37, rfl, ⟨by decide, "ThreeSizesModel", wd_123, Or.inl rfl⟩, by decide⟩, ?_⟩
  refine List.forall_mem_cons.mpr ⟨⟨38, rfl, ⟨by decide, "ThreeSizesModel", wd_124, Or.inl rfl⟩, by decide⟩, ?_⟩
  refine List.forall_mem_cons.mpr ⟨⟨39, rfl, ⟨by decide, "ThreeSizesModel", wd_125, Or.inl rfl⟩, by decide⟩, ?_⟩
  refine List.forall_mem_cons.mpr ⟨⟨40, rfl, ⟨by decide, "ThreeSizesModel", wd_126, Or.inl rfl⟩, by decide⟩, ?_⟩
  refine List.forall_mem_cons.mpr ⟨⟨41, rfl, ⟨by decide, "ThreeSizesModel", wd_127, Or.inl rfl⟩, by decide⟩, ?_⟩
  refine List.forall_mem_cons.mpr ⟨⟨42, rfl, ⟨by decide, "ThreeSizesModel", wd_128, Or.inl rfl⟩, by decide⟩, ?_⟩
  refine List.forall_mem_cons.mpr ⟨⟨43, rfl, ⟨by decide, "ThreeSizesModel", wd_129, Or.inl rfl⟩, by decide⟩, ?_⟩
  refine List.forall_mem_cons.mpr ⟨⟨44, rfl, ⟨by decide, "ThreeSizesModel", wd_133, Or.inl rfl⟩, by decide⟩, ?_⟩
  refine List.forall_mem_cons.mpr ⟨⟨46, rfl, ⟨by decide, "ThreeSizesModel", wd_118, Or.inl rfl⟩, by decide⟩, ?_⟩
  refine List.forall_mem_cons.mpr ⟨⟨47, rfl, ⟨by decide, "ThreeSizesModel", wd_121, Or.inl rfl⟩, by decide⟩, ?_⟩
  refine List.forall_mem_cons.mpr ⟨⟨48, rfl, ⟨by decide, "ThreeSizesModel", wd_122, Or.inl rfl⟩, by decide⟩, ?_⟩
  refine List.forall_mem_cons.mpr ⟨⟨49, rfl, ⟨by decide, "ThreeSizesModel", wd_130, Or.inl rfl⟩, by decide⟩, ?_⟩
  refine List.forall_mem_cons.mpr ⟨⟨51, rfl, ⟨by decide, "ThreeSizesModel", wd_120, Or.inl rfl⟩, by decide⟩, ?_⟩
  refine List.forall_mem_cons.mpr ⟨⟨52, rfl, ⟨by decide, "ThreeSizesModel", wd_131, Or.inl rfl⟩, by decide⟩, ?_⟩
  refine List.forall_mem_cons.mpr ⟨⟨53, rfl, ⟨by decide, "ThreeSizesModel", wd_154, Or.inl rfl⟩, by decide⟩, ?_⟩
  refine List.forall_mem_cons.mpr ⟨⟨54, rfl, ⟨by decide, "ThreeSizesModel", wd_153, Or.inl rfl⟩, by decide⟩, ?_⟩
  refine List.forall_mem_cons.mpr ⟨⟨62, rfl, ⟨by decide, "ThreeSizesModel", wd_138, Or.inl rfl⟩, by decide⟩, ?_⟩
  refine List.forall_mem_cons.mpr ⟨⟨64, rfl, ⟨by decide, "ThreeSizesModel", wd_141, Or.inl rfl⟩, by decide⟩, ?_⟩
  refine List.forall_mem_cons.mpr ⟨⟨65, rfl, ⟨by decide, "ThreeSizesModel", wd_142, Or.inl rfl⟩, by decide⟩, ?_⟩
  refine List.forall_mem_cons.mpr ⟨⟨66, rfl, ⟨by decide, "ThreeSizesModel", wd_143, Or.inl rfl⟩, by decide⟩, ?_⟩
  refine List.forall_mem_cons.mpr ⟨⟨67, rfl, ⟨by decide, "ThreeSizesModel", wd_148, Or.inl rfl⟩, by decide⟩, ?_⟩
  refine List.forall_mem_cons.mpr ⟨⟨68, rfl, ⟨by decide, "ThreeSizesModel", wd_146, Or.inl rfl⟩, by decide⟩, ?_⟩
  refine List.forall_mem_cons.mpr ⟨⟨69, rfl, ⟨by decide, "ThreeSizesModel", wd_147, Or.inl rfl⟩, by decide⟩, ?_⟩
  refine List.forall_mem_cons.mpr ⟨⟨50, rfl, ⟨by decide, "ThreeSizesModel", wd_119, Or.inl rfl⟩, by decide⟩, ?_⟩
  refine List.forall_mem_cons.mpr ⟨⟨45, rfl, ⟨by decide, "ThreeSizesModel", wd_132, Or.inl rfl⟩, by decide⟩, ?_⟩
  refine List.forall_mem_cons.mpr ⟨⟨57, rfl, ⟨by decide, "ThreeSizesModel", wd_134, Or.inl rfl⟩, by decide⟩, ?_⟩
  refine List.forall_mem_cons.mpr ⟨⟨59, rfl, ⟨by decide, "ThreeSizesModel", wd_135, Or.inl rfl⟩, by decide⟩, ?_⟩
  refine List.forall_mem_cons.mpr ⟨⟨60, rfl, ⟨by decide, "ThreeSizesModel", wd_136, Or.inl rfl⟩, by decide⟩, ?_⟩
  refine List.forall_mem_cons.mpr ⟨⟨58, rfl, ⟨by decide, "ThreeSizesModel", wd_137, Or.inl rfl⟩, by decide⟩, ?_⟩
  refine List.forall_mem_cons.mpr ⟨⟨61, rfl, ⟨by decide, "ThreeSizesModel", wd_140, Or.inl rfl⟩, by decide⟩, ?_⟩
  refine List.forall_mem_cons.mpr ⟨⟨63, rfl, ⟨by decide, "ThreeSizesModel", wd_139, Or.inl rfl⟩, by decide⟩, ?_⟩
  refine List.forall_mem_cons.mpr ⟨⟨71, rfl, ⟨by decide, "ThreeSizesModel", wd_144, Or.inl rfl⟩, by decide⟩, ?_⟩
  refine List.forall_mem_cons.mpr ⟨⟨70, rfl, ⟨by decide, "ThreeSizesModel", wd_145, Or.inl rfl⟩, by decide⟩, ?_⟩
  refine List.forall_mem_cons.mpr ⟨⟨72, rfl, ⟨by decide, "ThreeSizesModel", wd_149, Or.inl rfl⟩, by decide⟩, ?_⟩
  refine List.forall_mem_cons.mpr ⟨⟨73, rfl, ⟨by decide, "ThreeSizesModel", wd_150, Or.inl rfl⟩, by decide⟩, ?_⟩
  refine List.forall_mem_cons.mpr ⟨⟨74, rfl, ⟨by decide, "ThreeSizesModel", wd_151, Or.inl rfl⟩, by decide⟩, ?_⟩
  refine List.forall_mem_cons.mpr ⟨⟨56, rfl, ⟨by decide, "ThreeSizesModel", wd_152, Or.inl rfl⟩, by decide⟩, ?_⟩
  refine List.forall_mem_cons.mpr ⟨⟨55, rfl, ⟨by decide, "ThreeSizesModel", wd_155, Or.inl rfl⟩, by decide⟩, ?_⟩
  refine List.forall_mem_cons.mpr ⟨⟨75, rfl, ⟨by decide, "ThreeSizes$Rule", wd_160, Or.inl rfl⟩, by decide⟩, ?_⟩
  exact fun _ h => absurd h List.not_mem_nil
theorem lf_nw : ∀ q ∈ lt_nw, LF_nw (am_on q.1) q.2.1 q.2.2 := by
  unfold lt_nw
  refine List.forall_mem_cons.mpr ⟨⟨2, rfl, by decide, by decide, wd_161⟩, ?_⟩
  refine List.forall_mem_cons.mpr ⟨⟨3, rfl, by decide, by decide, wd_162⟩, ?_⟩
  refine List.forall_mem_cons.mpr ⟨⟨4, rfl, by decide, by decide, wd_163⟩, ?_⟩
  refine List.forall_mem_cons.mpr ⟨⟨5, rfl, by decide, by decide, wd_164⟩, ?_⟩
  refine List.forall_mem_cons.mpr ⟨⟨7, rfl, by decide, by decide, wd_165⟩, ?_⟩
  refine List.forall_mem_cons.mpr ⟨⟨6, rfl, by decide, by decide, wd_166⟩, ?_⟩
  refine List.forall_mem_cons.mpr ⟨⟨8, rfl, by decide, by decide, wd_167⟩, ?_⟩
  refine List.forall_mem_cons.mpr ⟨⟨9, rfl, by decide, by decide, wd_168⟩, ?_⟩
  refine List.forall_mem_cons.mpr ⟨⟨10, rfl, by decide, by decide, wd_169⟩, ?_⟩
  refine List.forall_mem_cons.mpr ⟨⟨11, rfl, by decide, by decide, wd_170⟩, ?_⟩
  refine List.forall_mem_cons.mpr ⟨⟨12, rfl, by decide, by decide, wd_171⟩, ?_⟩
  refine List.forall_mem_cons.mpr ⟨⟨1, rfl, by decide, by decide, wd_172⟩, ?_⟩
  refine List.forall_mem_cons.mpr ⟨⟨12, rfl, by decide, by decide, wd_173⟩, ?_⟩
  exact fun _ h => absurd h List.not_mem_nil
theorem lf_ana : ∀ q ∈ lt_ana, LF_ana (am_on q.1) q.2.1 q.2.2 := by
  unfold lt_ana
  refine List.forall_mem_cons.mpr ⟨⟨rfl, wd_174⟩, ?_⟩
  exact fun _ h => absurd h List.not_mem_nil
theorem lf_mna : ∀ q ∈ lt_mna, LF_mna (am_on q.1) q.2.1 q.2.2 := by
  unfold lt_mna
  refine List.forall_mem_cons.mpr ⟨Or.inr ⟨rfl, wd_175⟩, ?_⟩
  refine List.forall_mem_cons.mpr ⟨Or.inl ⟨rfl, wd_176⟩, ?_⟩
  exact fun _ h => absurd h List.not_mem_nil
theorem lf_ins : ∀ q ∈ lt_ins, LF_ins (am_on q.1) q.2.1 q.2.2 := by
  unfold lt_ins
  refine List.forall_mem_cons.mpr ⟨⟨0, rfl, by decide, wd_164⟩, ?_⟩
  refine List.forall_mem_cons.mpr ⟨⟨1, rfl, by decide, wd_177⟩, ?_⟩
  refine List.forall_mem_cons.mpr ⟨⟨2, rfl, by decide, wd_178⟩, ?_⟩
  refine List.forall_mem_cons.mpr ⟨⟨3, rfl, by decide, wd_179⟩, ?_⟩
  refine List.forall_mem_cons.mpr ⟨⟨4, rfl, by decide, wd_180⟩, ?_⟩
  refine List.forall_mem_cons.mpr ⟨⟨5, rfl, by decide, wd_181⟩, ?_⟩
  refine List.forall_mem_cons.mpr ⟨⟨6, rfl, by decide, wd_182⟩, ?_⟩
  refine List.forall_mem_cons.mpr ⟨⟨7, rfl, by decide, wd_183⟩, ?_⟩
  exact fun _ h => absurd h List.not_mem_nil
theorem lf_cc : ∀ q ∈ lt_cc, LF_cc (am_on q.1) q.2.1 q.2.2 := by
  unfold lt_cc
  refine List.forall_mem_cons.mpr ⟨⟨0, rfl, by decide, wd_164⟩, ?_⟩
  refine List.forall_mem_cons.mpr ⟨⟨1, rfl, by decide, wd_177⟩, ?_⟩
  exact fun _ h => absurd h List.not_mem_nil
theorem lf_iv : ∀ q ∈ lt_iv, LF_iv (am_on q.1) q.2.1 q.2.2 := by
  unfold lt_iv
  refine List.forall_mem_cons.mpr ⟨Or.inl ⟨44, _, rfl, by decide, by decide, rfl, wd_184, wd_185, wd_186⟩, ?_⟩
  refine List.forall_mem_cons.mpr ⟨Or.inl ⟨50, _, rfl, by decide, by decide, rfl, wd_187, wd_188, wd_189⟩, ?_⟩
  refine List.forall_mem_cons.mpr ⟨Or.inl ⟨52, _, rfl, by decide, by decide, rfl, wd_190, wd_191, wd_192⟩, ?_⟩
  refine List.forall_mem_cons.mpr ⟨Or.inl ⟨113, _, rfl, by decide, by decide, rfl, wd_193, wd_194, wd_195⟩, ?_⟩
  refine List.forall_mem_cons.mpr ⟨Or.inl ⟨115, _, rfl, by decide, by decide, rfl, wd_196, wd_197, wd_198⟩, ?_⟩
  refine List.forall_mem_cons.mpr ⟨Or.inl ⟨54, _, rfl, by decide, by decide, rfl, wd_199, wd_200, wd_201⟩, ?_⟩
  refine List.forall_mem_cons.mpr ⟨Or.inl ⟨114, _, rfl, by decide, by decide, rfl, wd_202, wd_203, wd_204⟩, ?_⟩
  refine List.forall_mem_cons.mpr ⟨Or.inr ⟨0, _, rfl, by decide, rfl, wd_205⟩, ?_⟩
  refine List.forall_mem_cons.mpr ⟨Or.inl ⟨51, _, rfl, by decide, by decide, rfl, wd_206, wd_207, wd_208⟩, ?_⟩
  refine List.forall_mem_cons.mpr ⟨Or.inl ⟨53, _, rfl, by decide, by decide, rfl, wd_209, wd_210, wd_211⟩, ?_⟩
  refine List.forall_mem_cons.mpr ⟨Or.inr ⟨4, _, rfl, by decide, rfl, wd_212⟩, ?_⟩
  refine List.forall_mem_cons.mpr ⟨Or.inr ⟨3, _, rfl, by decide, rfl, wd_213⟩, ?_⟩
  refine List.forall_mem_cons.mpr ⟨Or.inl ⟨69, _, rfl, by decide, by decide, rfl, wd_214, wd_215, wd_216⟩, ?_⟩
  refine List.forall_mem_cons.mpr ⟨Or.inl ⟨59, _, rfl, by decide, by decide, rfl, wd_217, wd_218, wd_219⟩, ?_⟩
  refine List.forall_mem_cons.mpr ⟨Or.inl ⟨75, _, rfl, by decide, by decide, rfl, wd_220, wd_221, wd_222⟩, ?_⟩
  refine List.forall_mem_cons.mpr ⟨Or.inl ⟨76, _, rfl, by decide, by decide, rfl, wd_223, wd_224, wd_225⟩, ?_⟩
  refine List.forall_mem_cons.mpr ⟨Or.inl ⟨73, _, rfl, by decide, by decide, rfl, wd_226, wd_227, wd_228⟩, ?_⟩
  refine List.forall_mem_cons.mpr ⟨Or.inl ⟨101, _, rfl, by decide, by decide, rfl, wd_229, wd_230, wd_231⟩, ?_⟩
  refine List.forall_mem_cons.mpr ⟨Or.inl ⟨65, _, rfl, by decide, by decide, rfl, wd_232, wd_233, wd_234⟩, ?_⟩
  refine List.forall_mem_cons.mpr ⟨Or.inl ⟨102, _, rfl, by decide, by decide, rfl, wd_235, wd_236, wd_237⟩, ?_⟩
  refine List.forall_mem_cons.mpr ⟨Or.inl ⟨68, _, rfl, by decide, by decide, rfl, wd_238, wd_239, wd_240⟩, ?_⟩
  refine List.forall_mem_cons.mpr ⟨Or.inl ⟨70, _, rfl, by decide, by decide, rfl, wd_241, wd_242, wd_243⟩, ?_⟩
  refine List.forall_mem_cons.mpr ⟨Or.inl ⟨78, _, rfl, by decide, by decide, rfl, wd_244, wd_245, wd_246⟩, ?_⟩
  refine List.forall_mem_cons.mpr ⟨Or.inl ⟨45, _, rfl, by decide, by decide, rfl, wd_247, wd_248, wd_249⟩, ?_⟩
  refine List.forall_mem_cons.mpr ⟨Or.inl ⟨60, _, rfl, by decide, by decide, rfl, wd_250, wd_251, wd_252⟩, ?_⟩
  refine List.forall_mem_cons.mpr ⟨Or.inl ⟨61, _, rfl, by decide, by decide, rfl, wd_253, wd_254, wd_255⟩, ?_⟩
  refine List.forall_mem_cons.mpr ⟨Or.inl ⟨87, _, rfl, by decide, by decide, rfl, wd_256, wd_257, wd_258⟩, ?_⟩
  refine List.forall_mem_cons.mpr ⟨Or.inl ⟨80, _, rfl, by decide, by decide, rfl, wd_259, wd_260, wd_261⟩, ?_⟩
  refine List.forall_mem_cons.mpr ⟨Or.inl ⟨56, _, rfl, by decide, by decide, rfl, wd_262, wd_263, wd_264⟩, ?_⟩
  refine List.forall_mem_cons.mpr ⟨Or.inl ⟨97, _, rfl, by decide, by decide, rfl, wd_265, wd_266, wd_267⟩, ?_⟩
  refine List.forall_mem_cons.mpr ⟨Or.inl ⟨98, _, rfl, by decide, by decide, rfl, wd_268, wd_269, wd_270⟩, ?_⟩
  refine List.forall_mem_cons.mpr ⟨Or.inl ⟨55, _, rfl, by decide, by decide, rfl, wd_271, wd_272, wd_273⟩, ?_⟩
  refine List.forall_mem_cons.mpr ⟨Or.inl ⟨57, _, rfl, by decide, by decide, rfl, wd_274, wd_275, wd_276⟩, ?_⟩
  refine List.forall_mem_cons.mpr ⟨Or.inl ⟨116, _, rfl, by decide, by decide, rfl, wd_277, wd_278, wd_279⟩, ?_⟩
  refine List.forall_mem_cons.mpr ⟨Or.inl ⟨71, _, rfl, by decide, by decide, rfl, wd_280, wd_281, wd_282⟩, ?_⟩
  refine List.forall_mem_cons.mpr ⟨Or.inl ⟨72, _, rfl, by decide, by decide, rfl, wd_283, wd_284, wd_285⟩, ?_⟩
  refine List.forall_mem_cons.mpr ⟨Or.inl ⟨99, _, rfl, by decide, by decide, rfl, wd_286, wd_287, wd_288⟩, ?_⟩
  refine List.forall_mem_cons.mpr ⟨Or.inl ⟨62, _, rfl, by decide, by decide, rfl, wd_289, wd_290, wd_291⟩, ?_⟩
  refine List.forall_mem_cons.mpr ⟨Or.inl ⟨74, _, rfl, by decide, by decide, rfl, wd_292, wd_293, wd_294⟩, ?_⟩
  refine List.forall_mem_cons.mpr ⟨Or.inl ⟨89, _, rfl, by decide, by decide, rfl, wd_295, wd_296, wd_297⟩, ?_⟩
  refine List.forall_mem_cons.mpr ⟨Or.inl ⟨82, _, rfl, by decide, by decide, rfl, wd_298, wd_299, wd_300⟩, ?_⟩
  refine List.forall_mem_cons.mpr ⟨Or.inl ⟨63, _, rfl, by decide, by decide, rfl, wd_301, wd_302, wd_303⟩, ?_⟩
  refine List.forall_mem_cons.mpr ⟨Or.inr ⟨2, _, rfl, by decide, rfl, wd_304⟩, ?_⟩
  refine List.forall_mem_cons.mpr ⟨Or.inl ⟨90, _, rfl, by decide, by decide, rfl, wd_305, wd_306, wd_307⟩, ?_⟩
  refine List.forall_mem_cons.mpr ⟨Or.inl ⟨88, _, rfl, by decide, by decide, rfl, wd_308, wd_309, wd_310⟩, ?_⟩
  refine List.forall_mem_cons.mpr ⟨Or.inl ⟨68, _, rfl, by decide, by decide, rfl, wd_311, wd_239, wd_240⟩, ?_⟩
  refine List.forall_mem_cons.mpr ⟨Or.inl ⟨74, _, rfl, by decide, by decide, rfl, wd_312, wd_293, wd_294⟩, ?_⟩
  refine List.forall_mem_cons.mpr ⟨Or.inl ⟨78, _, rfl, by decide, by decide, rfl, wd_313, wd_245, wd_246⟩, ?_⟩
  refine List.forall_mem_cons.mpr ⟨Or.inl ⟨77, _, rfl, by decide, by decide, rfl, wd_314, wd_315, wd_316⟩, ?_⟩
  refine List.forall_mem_cons.mpr ⟨Or.inl ⟨79, _, rfl, by decide, by decide, rfl, wd_317, wd_318, wd_319⟩, ?_⟩
  refine List.forall_mem_cons.mpr ⟨Or.inl ⟨81, _, rfl, by decide, by decide, rfl, wd_320, wd_321, wd_322⟩, ?_⟩
  refine List.forall_mem_cons.mpr ⟨Or.inl ⟨83, _, rfl, by decide, by decide, rfl, wd_323, wd_324, wd_325⟩, ?_⟩
  refine List.forall_mem_cons.mpr ⟨Or.inl ⟨69, _, rfl, by decide, by decide, rfl, wd_326, wd_215, wd_216⟩, ?_⟩
  refine List.forall_mem_cons.mpr ⟨Or.inl ⟨84, _, rfl, by decide, by decide, rfl, wd_327, wd_328, wd_329⟩, ?_⟩
  refine List.forall_mem_cons.mpr ⟨Or.inl ⟨70, _, rfl, by decide, by decide, rfl, wd_330, wd_242, wd_243⟩, ?_⟩
  refine List.forall_mem_cons.mpr ⟨Or.inl ⟨78, _, rfl, by decide, by decide, rfl, wd_331, wd_245, wd_246⟩, ?_⟩
  refine List.forall_mem_cons.mpr ⟨Or.inl ⟨77, _, rfl, by decide, by decide, rfl, wd_332, wd_315, wd_316⟩, ?_⟩
  refine List.forall_mem_cons.mpr ⟨Or.inl ⟨86, _, rfl, by decide, by decide, rfl, wd_333, wd_334, wd_335⟩, ?_⟩
  refine List.forall_mem_cons.mpr ⟨Or.inl ⟨91, _, rfl, by decide, by decide, rfl, wd_336, wd_337, wd_338⟩, ?_⟩
  refine List.forall_mem_cons.mpr ⟨Or.inl ⟨94, _, rfl, by decide, by decide, rfl, wd_339, wd_340, wd_341⟩, ?_⟩
  refine List.forall_mem_cons.mpr ⟨Or.inl ⟨96, _, rfl, by decide, by decide, rfl, wd_342, wd_343, wd_344⟩, ?_⟩
  refine List.forall_mem_cons.mpr ⟨Or.inr ⟨3, _, rfl, by decide, rfl, wd_345⟩, ?_⟩
  refine List.forall_mem_cons.mpr ⟨Or.inl ⟨87, _, rfl, by decide, by decide, rfl, wd_346, wd_257, wd_258⟩, ?_⟩
  refine List.forall_mem_cons.mpr ⟨Or.inr ⟨2, _, rfl, by decide, rfl, wd_347⟩, ?_⟩
  refine List.forall_mem_cons.mpr ⟨Or.inl ⟨93, _, rfl, by decide, by decide, rfl, wd_348, wd_349, wd_350⟩, ?_⟩
  refine List.forall_mem_cons.mpr ⟨Or.inl ⟨74, _, rfl, by decide, by decide, rfl, wd_351, wd_293, wd_294⟩, ?_⟩
  refine List.forall_mem_cons.mpr ⟨Or.inl ⟨92, _, rfl, by decide, by decide, rfl, wd_352, wd_353, wd_354⟩, ?_⟩
  refine List.forall_mem_cons.mpr ⟨Or.inl ⟨95, _, rfl, by decide, by decide, rfl, wd_355, wd_356, wd_357⟩, ?_⟩
  refine List.forall_mem_cons.mpr ⟨Or.inl ⟨80, _, rfl, by decide, by decide, rfl, wd_358, wd_260, wd_261⟩, ?_⟩
  refine List.forall_mem_cons.mpr ⟨Or.inl ⟨79, _, rfl, by decide, by decide, rfl, wd_359, wd_318, wd_319⟩, ?_⟩
  refine List.forall_mem_cons.mpr ⟨Or.inl ⟨106, _, rfl, by decide, by decide, rfl, wd_360, wd_361, wd_362⟩, ?_⟩
  refine List.forall_mem_cons.mpr ⟨Or.inl ⟨103, _, rfl, by decide, by decide, rfl, wd_363, wd_364, wd_365⟩, ?_⟩
  refine List.forall_mem_cons.mpr ⟨Or.inl ⟨105, _, rfl, by decide, by decide, rfl, wd_366, wd_367, wd_368⟩, ?_⟩
  refine List.forall_mem_cons.mpr ⟨Or.inl ⟨108, _, rfl, by decide, by decide, rfl, wd_369, wd_370, wd_371⟩, ?_⟩
  refine List.forall_mem_cons.mpr ⟨Or.inl ⟨104, _, rfl, by decide, by decide, rfl, wd_372, wd_373, wd_374⟩, ?_⟩
  refine List.forall_mem_cons.mpr ⟨Or.inl ⟨109, _, rfl, by decide, by decide, rfl, wd_375, wd_376, wd_377⟩, ?_⟩
  refine List.forall_mem_cons.mpr ⟨Or.inl ⟨74, _, rfl, by decide, by decide, rfl, wd_378, wd_293, wd_294⟩, ?_⟩
  refine List.forall_mem_cons.mpr ⟨Or.inl ⟨110, _, rfl, by decide, by decide, rfl, wd_379, wd_380, wd_381⟩, ?_⟩
  refine List.forall_mem_cons.mpr ⟨Or.inl ⟨76, _, rfl, by decide, by decide, rfl, wd_382, wd_224, wd_225⟩, ?_⟩
  refine List.forall_mem_cons.mpr ⟨Or.inl ⟨242, _, rfl, by decide, by decide, rfl, wd_383, wd_384, wd_385⟩, ?_⟩
  refine List.forall_mem_cons.mpr ⟨Or.inl ⟨238, _, rfl, by decide, by decide, rfl, wd_386, wd_387, wd_388⟩, ?_⟩
  refine List.forall_mem_cons.mpr ⟨Or.inl ⟨80, _, rfl, by decide, by decide, rfl, wd_389, wd_260, wd_261⟩, ?_⟩
  refine List.forall_mem_cons.mpr ⟨Or.inl ⟨137, _, rfl, by decide, by decide, rfl, wd_390, wd_391, wd_392⟩, ?_⟩
  refine List.forall_mem_cons.mpr ⟨Or.inl ⟨145, _, rfl, by decide, by decide, rfl, wd_393, wd_394, wd_395⟩, ?_⟩
  refine List.forall_mem_cons.mpr ⟨Or.inl ⟨185, _, rfl, by decide, by decide, rfl, wd_396, wd_397, wd_398⟩, ?_⟩
  refine List.forall_mem_cons.mpr ⟨Or.inl ⟨141, _, rfl, by decide, by decide, rfl, wd_399, wd_400, wd_401⟩, ?_⟩
  refine List.forall_mem_cons.mpr ⟨Or.inl ⟨158, _, rfl, by decide, by decide, rfl, wd_402, wd_403, wd_404⟩, ?_⟩
  refine List.forall_mem_cons.mpr ⟨Or.inl ⟨161, _, rfl, by decide, by decide, rfl, wd_405, wd_406, wd_407⟩, ?_⟩
  refine List.forall_mem_cons.mpr ⟨Or.inl ⟨139, _, rfl, by decide, by decide, rfl, wd_408, wd_409, wd_410⟩, ?_⟩
  refine List.forall_mem_cons.mpr ⟨Or.inl ⟨242, _, rfl, by decide, by decide, rfl, wd_411, wd_384, wd_385⟩, ?_⟩
  refine List.forall_mem_cons.mpr ⟨Or.inl ⟨238, _, rfl, by decide, by decide, rfl, wd_412, wd_387, wd_388⟩, ?_⟩
  refine List.forall_mem_cons.mpr ⟨Or.inl ⟨169, _, rfl, by decide, by decide, rfl, wd_413, wd_414, wd_415⟩, ?_⟩
  refine List.forall_mem_cons.mpr ⟨Or.inl ⟨168, _, rfl, by decide, by decide, rfl, wd_416, wd_417, wd_418⟩, ?_⟩
  refine List.forall_mem_cons.mpr ⟨Or.inl ⟨170, _, rfl, by decide, by decide, rfl, wd_419, wd_420, wd_421⟩, ?_⟩
  refine List.forall_mem_cons.mpr ⟨Or.inl ⟨171, _, rfl, by decide, by decide, rfl, wd_422, wd_423, wd_424⟩, ?_⟩
  refine List.forall_mem_cons.mpr ⟨Or.inl ⟨172, _, rfl, by decide, by decide, rfl, wd_425, wd_426, wd_427⟩, ?_⟩
  refine List.forall_mem_cons.mpr ⟨Or.inl ⟨173, _, rfl, by decide, by decide, rfl, wd_428, wd_429, wd_430⟩, ?_⟩
  refine List.forall_mem_cons.mpr ⟨Or.inl ⟨174, _, rfl, by decide, by decide, rfl, wd_431, wd_432, wd_433⟩, ?_⟩
  refine List.forall_mem_cons.mpr ⟨Or.inl ⟨206, _, rfl, by decide, by decide, rfl, wd_434, wd_435, wd_436⟩, ?_⟩
  refine List.forall_mem_cons.mpr ⟨Or.inl ⟨175, _, rfl, by decide, by decide, rfl, wd_437, wd_438, wd_439⟩, ?_⟩
  refine List.forall_mem_cons.mpr ⟨Or.inl ⟨226, _, rfl, by decide, by decide, rfl, wd_440, wd_441, wd_442⟩, ?_⟩
  refine List.forall_mem_cons.mpr ⟨Or.inl ⟨179, _, rfl, by decide, by decide, rfl, wd_443, wd_444, wd_445⟩, ?_⟩
  refine List.forall_mem_cons.mpr ⟨Or.inl ⟨181, _, rfl, by decide, by decide, rfl, wd_446, wd_447, wd_448⟩, ?_⟩
  refine List.forall_mem_cons.mpr ⟨Or.inl ⟨188, _, rfl, by decide, by decide, rfl, wd_449, wd_450, wd_451⟩, ?_⟩
  refine List.forall_mem_cons.mpr ⟨Or.inl ⟨146, _, rfl, by decide, by decide, rfl, wd_452, wd_453, wd_454⟩, ?_⟩
  refine List.forall_mem_cons.mpr ⟨Or.inl ⟨182, _, rfl, by decide, by decide, rfl, wd_455, wd_456, wd_457⟩, ?_⟩
  refine List.forall_mem_cons.mpr ⟨Or.inl ⟨184, _, rfl, by decide, by decide, rfl, wd_458, wd_459, wd_460⟩, ?_⟩
  refine List.forall_mem_cons.mpr ⟨Or.inl ⟨183, _, rfl, by decide, by decide, rfl, wd_461, wd_462, wd_463⟩, ?_⟩
  refine List.forall_mem_cons.mpr ⟨Or.inl ⟨156, _, rfl, by decide, by decide, rfl, wd_464, wd_465, wd_466⟩, ?_⟩
  refine List.forall_mem_cons.mpr ⟨Or.inl ⟨187, _, rfl, by decide, by decide, rfl, wd_467, wd_468, wd_469⟩, ?_⟩
  refine List.forall_mem_cons.mpr ⟨Or.inl ⟨189, _, rfl, by decide, by decide, rfl, wd_470, wd_471, wd_472⟩, ?_⟩
  refine List.forall_mem_cons.mpr ⟨Or.inl ⟨190, _, rfl, by decide, by decide, rfl, wd_473, wd_474, wd_475⟩, ?_⟩
  refine List.forall_mem_cons.mpr ⟨Or.inl ⟨192, _, rfl, by decide, by decide, rfl, wd_476, wd_477, wd_478⟩, ?_⟩
  refine List.forall_mem_cons.mpr ⟨Or.inl ⟨191, _, rfl, by decide, by decide, rfl, wd_479, wd_480, wd_481⟩, ?_⟩
  refine List.forall_mem_cons.mpr ⟨Or.inl ⟨199, _, rfl, by decide, by decide, rfl, wd_482, wd_483, wd_484⟩, ?_⟩
  refine List.forall_mem_cons.mpr ⟨Or.inl ⟨200, _, rfl, by decide, by decide, rfl, wd_485, wd_486, wd_487⟩, ?_⟩
  refine List.forall_mem_cons.mpr ⟨Or.inl ⟨203, _, rfl, by decide, by decide, rfl, wd_488, wd_489, wd_490⟩, ?_⟩
  refine List.forall_mem_cons.mpr ⟨Or.inl ⟨202, _, rfl, by decide, by decide, rfl, wd_491, wd_492, wd_493⟩, ?_⟩
  refine List.forall_mem_cons.mpr ⟨Or.inl ⟨209, _, rfl, by decide, by decide, rfl, wd_494, wd_495, wd_496⟩, ?_⟩
  refine List.forall_mem_cons.mpr ⟨Or.inl ⟨216, _, rfl, by decide, by decide, rfl, wd_497, wd_498, wd_499⟩, ?_⟩
  refine List.forall_mem_cons.mpr ⟨Or.inl ⟨220, _, rfl, by decide, by decide, rfl, wd_500, wd_501, wd_502⟩, ?_⟩
  refine List.forall_mem_cons.mpr ⟨Or.inl ⟨221, _, rfl, by decide, by decide, rfl, wd_503, wd_504, wd_505⟩, ?_⟩
  refine List.forall_mem_cons.mpr ⟨Or.inr ⟨1, _, rfl, by decide, rfl, wd_506⟩, ?_⟩
  refine List.forall_mem_cons.mpr ⟨Or.inl ⟨1, _, rfl, by decide, by decide, rfl, wd_507, wd_508, wd_509⟩, ?_⟩
  refine List.forall_mem_cons.mpr ⟨Or.inl ⟨147, _, rfl, by decide, by decide, rfl, wd_510, wd_511, wd_512⟩, ?_⟩
  refine List.forall_mem_cons.mpr ⟨Or.inl ⟨2, _, rfl, by decide, by decide, rfl, wd_513, wd_514, wd_515⟩, ?_⟩
  refine List.forall_mem_cons.mpr ⟨Or.inl ⟨149, _, rfl, by decide, by decide, rfl, wd_516, wd_517, wd_518⟩, ?_⟩
  refine List.forall_mem_cons.mpr ⟨Or.inl ⟨3, _, rfl, by decide, by decide, rfl, wd_519, wd_520, wd_521⟩, ?_⟩
  refine List.forall_mem_cons.mpr ⟨Or.inl ⟨150, _, rfl, by decide, by decide, rfl, wd_522, wd_523, wd_524⟩, ?_⟩
  refine List.forall_mem_cons.mpr ⟨Or.inl ⟨4, _, rfl, by decide, by decide, rfl, wd_525, wd_526, wd_527⟩, ?_⟩
  refine List.forall_mem_cons.mpr ⟨Or.inl ⟨151, _, rfl, by decide, by decide, rfl, wd_528, wd_529, wd_530⟩, ?_⟩
  refine List.forall_mem_cons.mpr ⟨Or.inl ⟨5, _, rfl, by decide, by decide, rfl, wd_531, wd_532, wd_533⟩, ?_⟩
  refine List.forall_mem_cons.mpr ⟨Or.inl ⟨152, _, rfl, by decide, by decide, rfl, wd_534, wd_535, wd_536⟩, ?_⟩
  refine List.forall_mem_cons.mpr ⟨Or.inl ⟨6, _, rfl, by decide, by decide, rfl, wd_537, wd_538, wd_539⟩, ?_⟩
  refine List.forall_mem_cons.mpr ⟨Or.inl ⟨153, _, rfl, by decide, by decide, rfl, wd_540, wd_541, wd_542⟩, ?_⟩
  refine List.forall_mem_cons.mpr ⟨Or.inl ⟨7, _, rfl, by decide, by decide, rfl, wd_543, wd_544, wd_545⟩, ?_⟩
  refine List.forall_mem_cons.mpr ⟨Or.inl ⟨155, _, rfl, by decide, by decide, rfl, wd_546, wd_547, wd_548⟩, ?_⟩
  refine List.forall_mem_cons.mpr ⟨Or.inl ⟨8, _, rfl, by decide, by decide, rfl, wd_549, wd_550, wd_551⟩, ?_⟩
  refine List.forall_mem_cons.mpr ⟨Or.inl ⟨157, _, rfl, by decide, by decide, rfl, wd_552, wd_553, wd_554⟩, ?_⟩
  refine List.forall_mem_cons.mpr ⟨Or.inl ⟨9, _, rfl, by decide, by decide, rfl, wd_555, wd_556, wd_557⟩, ?_⟩
  refine List.forall_mem_cons.mpr ⟨Or.inl ⟨159, _, rfl, by decide, by decide, rfl, wd_558, wd_559, wd_560⟩, ?_⟩
  refine List.forall_mem_cons.mpr ⟨Or.inl ⟨10, _, rfl, by decide, by decide, rfl, wd_561, wd_562, wd_563⟩, ?_⟩
  refine List.forall_mem_cons.mpr ⟨Or.inl ⟨160, _, rfl, by decide, by decide, rfl, wd_564, wd_565, wd_566⟩, ?_⟩
  refine List.forall_mem_cons.mpr ⟨Or.inl ⟨11, _, rfl, by decide, by decide, rfl, wd_567, wd_568, wd_569⟩, ?_⟩
  refine List.forall_mem_cons.mpr ⟨Or.inl ⟨162, _, rfl, by decide, by decide, rfl, wd_570, wd_571, wd_572⟩, ?_⟩
  refine List.forall_mem_cons.mpr ⟨Or.inl ⟨12, _, rfl, by decide, by decide, rfl, wd_573, wd_574, wd_575⟩, ?_⟩
  refine List.forall_mem_cons.mpr ⟨Or.inl ⟨163, _, rfl, by decide, by decide, rfl, wd_576, wd_577, wd_578⟩, ?_⟩
  refine List.forall_mem_cons.mpr ⟨Or.inl ⟨13, _, rfl, by decide, by decide, rfl, wd_579, wd_580, wd_581⟩, ?_⟩
  refine List.forall_mem_cons.mpr ⟨Or.inl ⟨164, _, rfl, by decide, by decide, rfl, wd_582, wd_583, wd_584⟩, ?_⟩
  refine List.forall_mem_cons.mpr ⟨Or.inl ⟨14, _, rfl, by decide, by decide, rfl, wd_585, wd_586, wd_587⟩, ?_⟩
  refine List.forall_mem_cons.mpr ⟨Or.inl ⟨165, _, rfl, by decide, by decide, rfl, wd_588, wd_589, wd_590⟩, ?_⟩
  refine List.forall_mem_cons.mpr ⟨Or.inl ⟨15, _, rfl, by decide, by decide, rfl, wd_591, wd_592, wd_593⟩, ?_⟩
  refine List.forall_mem_cons.mpr ⟨Or.inl ⟨176, _, rfl, by decide, by decide, rfl, wd_594, wd_595, wd_596⟩, ?_⟩
  refine List.forall_mem_cons.mpr ⟨Or.inl ⟨16, _, rfl, by decide, by decide, rfl, wd_597, wd_598, wd_599⟩, ?_⟩
  refine List.forall_mem_cons.mpr ⟨Or.inl ⟨177, _, rfl, by decide, by decide, rfl, wd_600, wd_601, wd_602⟩, ?_⟩
  refine List.forall_mem_cons.mpr ⟨Or.inl ⟨17, _, rfl, by decide, by decide, rfl, wd_603, wd_604, wd_605⟩, ?_⟩
  refine List.forall_mem_cons.mpr ⟨Or.inl ⟨186, _, rfl, by decide, by decide, rfl, wd_606, wd_607, wd_608⟩, ?_⟩
  refine List.forall_mem_cons.mpr ⟨Or.inl ⟨18, _, rfl, by decide, by decide, rfl, wd_609, wd_610, wd_611⟩, ?_⟩
  refine List.forall_mem_cons.mpr ⟨Or.inl ⟨180, _, rfl, by decide, by decide, rfl, wd_612, wd_613, wd_614⟩, ?_⟩
  refine List.forall_mem_cons.mpr ⟨Or.inl ⟨19, _, rfl, by decide, by decide, rfl, wd_615, wd_616, wd_617⟩, ?_⟩
  refine List.forall_mem_cons.mpr ⟨Or.inl ⟨193, _, rfl, by decide, by decide, rfl, wd_618, wd_619, wd_620⟩, ?_⟩
  refine List.forall_mem_cons.mpr ⟨Or.inl ⟨20, _, rfl, by decide, by decide, rfl, wd_621, wd_622, wd_623⟩, ?_⟩
  refine List.forall_mem_cons.mpr ⟨Or.inl ⟨194, _, rfl, by decide, by decide, rfl, wd_624, wd_625, wd_626⟩, ?_⟩
  refine List.forall_mem_cons.mpr ⟨Or.inl ⟨21, _, rfl, by decide, by decide, rfl, wd_627, wd_628, wd_629⟩, ?_⟩
  refine List.forall_mem_cons.mpr ⟨Or.inl ⟨195, _, rfl, by decide, by decide, rfl, wd_630, wd_631, wd_632⟩, ?_⟩
  refine List.forall_mem_cons.mpr ⟨Or.inl ⟨22, _, rfl, by decide, by decide, rfl, wd_633, wd_634, wd_635⟩, ?_⟩
  refine List.forall_mem_cons.mpr ⟨Or.inl ⟨196, _, rfl, by decide, by decide, rfl, wd_636, wd_637, wd_638⟩, ?_⟩
  refine List.forall_mem_cons.mpr ⟨Or.inl ⟨23, _, rfl, by decide, by decide, rfl, wd_639, wd_640, wd_641⟩, ?_⟩
  refine List.forall_mem_cons.mpr ⟨Or.inl ⟨197, _, rfl, by decide, by decide, rfl, wd_642, wd_643, wd_644⟩, ?_⟩
  refine List.forall_mem_cons.mpr ⟨Or.inl ⟨24, _, rfl, by decide, by decide, rfl, wd_645, wd_646, wd_647⟩, ?_⟩
  refine List.forall_mem_cons.mpr ⟨Or.inl ⟨198, _, rfl, by decide, by decide, rfl, wd_648, wd_649, wd_650⟩, ?_⟩
  refine List.forall_mem_cons.mpr ⟨Or.inl ⟨25, _, rfl, by decide, by decide, rfl, wd_651, wd_652, wd_653⟩, ?_⟩
  refine List.forall_mem_cons.mpr ⟨Or.inl ⟨201, _, rfl, by decide, by decide, rfl, wd_654, wd_655, wd_656⟩, ?_⟩
  refine List.forall_mem_cons.mpr ⟨Or.inl ⟨26, _, rfl, by decide, by decide, rfl, wd_657, wd_658, wd_659⟩, ?_⟩
  refine List.forall_mem_cons.mpr ⟨Or.inl ⟨204, _, rfl, by decide, by decide, rfl, wd_660, wd_661, wd_662⟩, ?_⟩
  refine List.forall_mem_cons.mpr ⟨Or.inl ⟨27, _, rfl, by decide, by decide, rfl, wd_663, wd_664, wd_665⟩, ?_⟩
  refine List.forall_mem_cons.mpr ⟨Or.inl ⟨205, _, rfl, by decide, by decide, rfl, wd_666, wd_667, wd_668⟩, ?_⟩
  refine List.forall_mem_cons.mpr ⟨Or.inl ⟨28, _, rfl, by decide, by decide, rfl, wd_669, wd_670, wd_671⟩, ?_⟩
  refine List.forall_mem_cons.mpr ⟨Or.inl ⟨207, _, rfl, by decide, by decide, rfl, wd_672, wd_673, wd_674⟩, ?_⟩
  refine List.forall_mem_cons.mpr ⟨Or.inl ⟨29, _, rfl, by decide, by decide, rfl, wd_675, wd_676, wd_677⟩, ?_⟩
  refine List.forall_mem_cons.mpr ⟨Or.inl ⟨210, _, rfl, by decide, by decide, rfl, wd_678, wd_679, wd_680⟩, ?_⟩
  refine List.forall_mem_cons.mpr ⟨Or.inl ⟨30, _, rfl, by decide, by decide, rfl, wd_681, wd_682, wd_683⟩, ?_⟩
  refine List.forall_mem_cons.mpr ⟨Or.inl ⟨211, _, rfl, by decide, by decide, rfl, wd_684, wd_685, wd_686⟩, ?_⟩
  refine List.forall_mem_cons.mpr ⟨Or.inl ⟨31, _, rfl, by decide, by decide, rfl, wd_687, wd_688, wd_689⟩, ?_⟩
  refine List.forall_mem_cons.mpr ⟨Or.inl ⟨212, _, rfl, by decide, by decide, rfl, wd_690, wd_691, wd_692⟩, ?_⟩
  refine List.forall_mem_cons.mpr ⟨Or.inl ⟨32, _, rfl, by decide, by decide, rfl, wd_693, wd_694, wd_695⟩, ?_⟩
  refine List.forall_mem_cons.mpr ⟨Or.inl ⟨213, _, rfl, by decide, by decide, rfl, wd_696, wd_697, wd_698⟩, ?_⟩
  refine List.forall_mem_cons.mpr ⟨Or.inl ⟨33, _, rfl, by decide, by decide, rfl, wd_699, wd_700, wd_701⟩, ?_⟩
  refine List.forall_mem_cons.mpr ⟨Or.inl ⟨214, _, rfl, by decide, by decide, rfl, wd_702, wd_703, wd_704⟩, ?_⟩
  refine List.forall_mem_cons.mpr ⟨Or.inl ⟨34, _, rfl, by decide, by decide, rfl, wd_705, wd_706, wd_707⟩, ?_⟩
  refine List.forall_mem_cons.mpr ⟨Or.inl ⟨215, _, rfl, by decide, by decide, rfl, wd_708, wd_709, wd_710⟩, ?_⟩
  refine List.forall_mem_cons.mpr ⟨Or.inl ⟨35, _, rfl, by decide, by decide, rfl, wd_711, wd_712, wd_713⟩, ?_⟩
  refine List.forall_mem_cons.mpr ⟨Or.inl ⟨217, _, rfl, by decide, by decide, rfl, wd_714, wd_715, wd_716⟩, ?_⟩
  refine List.forall_mem_cons.mpr ⟨Or.inl ⟨36, _, rfl, by decide, by decide, rfl, wd_717, wd_718, wd_719⟩, ?_⟩
  refine List.forall_mem_cons.mpr ⟨Or.inl ⟨218, _, rfl, by decide, by decide, rfl, wd_720, wd_721, wd_722⟩, ?_⟩
  refine List.forall_mem_cons.mpr ⟨Or.inl ⟨37, _, rfl, by decide, by decide, rfl, wd_723, wd_724, wd_725⟩, ?_⟩
  refine List.forall_mem_cons.mpr ⟨Or.inl ⟨219, _, rfl, by decide, by decide, rfl, wd_726, wd_727, wd_728⟩, ?_⟩
  refine List.forall_mem_cons.mpr ⟨Or.inl ⟨38, _, rfl, by decide, by decide, rfl, wd_729, wd_730, wd_731⟩, ?_⟩
  refine List.forall_mem_cons.mpr ⟨Or.inl ⟨222, _, rfl, by decide, by decide, rfl, wd_732, wd_733, wd_734⟩, ?_⟩
  refine List.forall_mem_cons.mpr ⟨Or.inl ⟨39, _, rfl, by decide, by decide, rfl, wd_735, wd_736, wd_737⟩, ?_⟩
  refine List.forall_mem_cons.mpr ⟨Or.inl ⟨223, _, rfl, by decide, by decide, rfl, wd_738, wd_739, wd_740⟩, ?_⟩
  refine List.forall_mem_cons.mpr ⟨Or.inl ⟨40, _, rfl, by decide, by decide, rfl, wd_741, wd_742, wd_743⟩, ?_⟩
  refine List.forall_mem_cons.mpr ⟨Or.inl ⟨224, _, rfl, by decide, by decide, rfl, wd_744, wd_745, wd_746⟩, ?_⟩
  refine List.forall_mem_cons.mpr ⟨Or.inl ⟨41, _, rfl, by decide, by decide, rfl, wd_747, wd_748, wd_749⟩, ?_⟩
  refine List.forall_mem_cons.mpr ⟨Or.inl ⟨227, _, rfl, by decide, by decide, rfl, wd_750, wd_751, wd_752⟩, ?_⟩
  refine List.forall_mem_cons.mpr ⟨Or.inl ⟨42, _, rfl, by decide, by decide, rfl, wd_753, wd_754, wd_755⟩, ?_⟩
  refine List.forall_mem_cons.mpr ⟨Or.inl ⟨228, _, rfl, by decide, by decide, rfl, wd_756, wd_757, wd_758⟩, ?_⟩
  refine List.forall_mem_cons.mpr ⟨Or.inl ⟨43, _, rfl, by decide, by decide, rfl, wd_759, wd_760, wd_761⟩, ?_⟩
  refine List.forall_mem_cons.mpr ⟨Or.inl ⟨229, _, rfl, by decide, by decide, rfl, wd_762, wd_763, wd_764⟩, ?_⟩
  refine List.forall_mem_cons.mpr ⟨Or.inl ⟨241, _, rfl, by decide, by decide, rfl, wd_765, wd_766, wd_767⟩, ?_⟩
  refine List.forall_mem_cons.mpr ⟨Or.inl ⟨240, _, rfl, by decide, by decide, rfl, wd_768, wd_769, wd_770⟩, ?_⟩
  exact fun _ h => absurd h List.not_mem_nil
theorem lf_is : ∀ q ∈ lt_is, LF_is (am_on q.1) q.2.1 q.2.2 := by
  unfold lt_is
  refine List.forall_mem_cons.mpr ⟨Or.inl ⟨rfl, wd_771⟩, ?_⟩
  refine List.forall_mem_cons.mpr ⟨Or.inr (Or.inl ⟨64, _, rfl, rfl, rfl, rfl, wd_772, Or.inr (List.mem_of_getElem? (i := 0) rfl)⟩), ?_⟩
  refine List.forall_mem_cons.mpr ⟨Or.inr (Or.inl ⟨85, _, rfl, rfl, rfl, rfl, wd_773, Or.inr (List.mem_of_getElem? (i := 1) rfl)⟩), ?_⟩
  refine List.forall_mem_cons.mpr ⟨Or.inr (Or.inl ⟨100, _, rfl, rfl, rfl, rfl, wd_774, Or.inr (List.mem_of_getElem? (i := 2) rfl)⟩), ?_⟩
  refine List.forall_mem_cons.mpr ⟨Or.inr (Or.inl ⟨111, _, rfl, rfl, rfl, rfl, wd_776, Or.inl wd_775⟩), ?_⟩
  refine List.forall_mem_cons.mpr ⟨Or.inr (Or.inl ⟨120, _, rfl, rfl, rfl, rfl, wd_778, Or.inl wd_777⟩), ?_⟩
  refine List.forall_mem_cons.mpr ⟨Or.inr (Or.inl ⟨117, _, rfl, rfl, rfl, rfl, wd_780, Or.inl wd_779⟩), ?_⟩
  refine List.forall_mem_cons.mpr ⟨Or.inr (Or.inl ⟨123, _, rfl, rfl, rfl, rfl, wd_782, Or.inl wd_781⟩), ?_⟩
  refine List.forall_mem_cons.mpr ⟨Or.inr (Or.inl ⟨126, _, rfl, rfl, rfl, rfl, wd_784, Or.inl wd_783⟩), ?_⟩
  refine List.forall_mem_cons.mpr ⟨Or.inr (Or.inl ⟨129, _, rfl, rfl, rfl, rfl, wd_786, Or.inl wd_785⟩), ?_⟩
  refine List.forall_mem_cons.mpr ⟨Or.inr (Or.inl ⟨132, _, rfl, rfl, rfl, rfl, wd_788, Or.inl wd_787⟩), ?_⟩
  refine List.forall_mem_cons.mpr ⟨Or.inl ⟨rfl, wd_789⟩, ?_⟩
  refine List.forall_mem_cons.mpr ⟨Or.inl ⟨rfl, wd_790⟩, ?_⟩
  refine List.forall_mem_cons.mpr ⟨Or.inl ⟨rfl, wd_791⟩, ?_⟩
  refine List.forall_mem_cons.mpr ⟨Or.inr (Or.inl ⟨230, _, rfl, rfl, rfl, rfl, wd_792, Or.inr (List.mem_of_getElem? (i := 3) rfl)⟩), ?_⟩
  refine List.forall_mem_cons.mpr ⟨Or.inr (Or.inl ⟨231, _, rfl, rfl, rfl, rfl, wd_794, Or.inl wd_793⟩), ?_⟩
  refine List.forall_mem_cons.mpr ⟨Or.inr (Or.inl ⟨117, _, rfl, rfl, rfl, rfl, wd_780, Or.inl wd_795⟩), ?_⟩
  refine List.forall_mem_cons.mpr ⟨Or.inr (Or.inl ⟨117, _, rfl, rfl, rfl, rfl, wd_780, Or.inl wd_796⟩), ?_⟩
  refine List.forall_mem_cons.mpr ⟨Or.inr (Or.inr ⟨119, _, rfl, rfl, by decide, wd_797, wd_798, wd_799, wd_800⟩), ?_⟩
  refine List.forall_mem_cons.mpr ⟨Or.inr (Or.inl ⟨231, _, rfl, rfl, rfl, rfl, wd_794, Or.inl wd_801⟩), ?_⟩
  refine List.forall_mem_cons.mpr ⟨Or.inr (Or.inl ⟨126, _, rfl, rfl, rfl, rfl, wd_784, Or.inl wd_802⟩), ?_⟩
  refine List.forall_mem_cons.mpr ⟨Or.inr (Or.inl ⟨231, _, rfl, rfl, rfl, rfl, wd_794, Or.inl wd_803⟩), ?_⟩
  refine List.forall_mem_cons.mpr ⟨Or.inl ⟨rfl, wd_804⟩, ?_⟩
  refine List.forall_mem_cons.mpr ⟨Or.inr (Or.inl ⟨136, _, rfl, rfl, rfl, rfl, wd_806, Or.inl wd_805⟩), ?_⟩
  refine List.forall_mem_cons.mpr ⟨Or.inl ⟨rfl, wd_807⟩, ?_⟩
  refine List.forall_mem_cons.mpr ⟨Or.inr (Or.inl ⟨230, _, rfl, rfl, rfl, rfl, wd_792, Or.inr (List.mem_of_getElem? (i := 6) rfl)⟩), ?_⟩
  refine List.forall_mem_cons.mpr ⟨Or.inr (Or.inl ⟨0, _, rfl, rfl, rfl, rfl, wd_809, Or.inl wd_808⟩), ?_⟩
  refine List.forall_mem_cons.mpr ⟨Or.inr (Or.inl ⟨136, _, rfl, rfl, rfl, rfl, wd_806, Or.inl wd_810⟩), ?_⟩
  exact fun _ h => absurd h List.not_mem_nil
theorem lf_st : ∀ q ∈ lt_st, LF_st (am_on q.1) q.2.1 q.2.2 := by
  unfold lt_st
  refine List.forall_mem_cons.mpr ⟨Or.inr ⟨46, _, rfl, rfl, wd_811, wd_812⟩, ?_⟩
  refine List.forall_mem_cons.mpr ⟨Or.inl ⟨rfl, wd_813⟩, ?_⟩
  refine List.forall_mem_cons.mpr ⟨Or.inr ⟨58, _, rfl, rfl, wd_814, wd_815⟩, ?_⟩
  refine List.forall_mem_cons.mpr ⟨Or.inr ⟨47, _, rfl, rfl, wd_816, wd_817⟩, ?_⟩
  refine List.forall_mem_cons.mpr ⟨Or.inr ⟨48, _, rfl, rfl, wd_818, wd_819⟩, ?_⟩
  refine List.forall_mem_cons.mpr ⟨Or.inr ⟨49, _, rfl, rfl, wd_820, wd_821⟩, ?_⟩
  refine List.forall_mem_cons.mpr ⟨Or.inr ⟨67, _, rfl, rfl, wd_822, wd_823⟩, ?_⟩
  refine List.forall_mem_cons.mpr ⟨Or.inr ⟨237, _, rfl, rfl, wd_824, wd_825⟩, ?_⟩
  refine List.forall_mem_cons.mpr ⟨Or.inr ⟨66, _, rfl, rfl, wd_826, wd_827⟩, ?_⟩
  refine List.forall_mem_cons.mpr ⟨Or.inl ⟨rfl, wd_828⟩, ?_⟩
  refine List.forall_mem_cons.mpr ⟨Or.inr ⟨66, _, rfl, rfl, wd_829, wd_827⟩, ?_⟩
  refine List.forall_mem_cons.mpr ⟨Or.inr ⟨236, _, rfl, rfl, wd_830, wd_831⟩, ?_⟩
  refine List.forall_mem_cons.mpr ⟨Or.inr ⟨66, _, rfl, rfl, wd_832, wd_827⟩, ?_⟩
  refine List.forall_mem_cons.mpr ⟨Or.inl ⟨rfl, wd_833⟩, ?_⟩
  refine List.forall_mem_cons.mpr ⟨Or.inr ⟨107, _, rfl, rfl, wd_834, wd_835⟩, ?_⟩
  refine List.forall_mem_cons.mpr ⟨Or.inr ⟨66, _, rfl, rfl, wd_836, wd_827⟩, ?_⟩
  refine List.forall_mem_cons.mpr ⟨Or.inr ⟨66, _, rfl, rfl, wd_837, wd_827⟩, ?_⟩
  refine List.forall_mem_cons.mpr ⟨Or.inr ⟨66, _, rfl, rfl, wd_838, wd_827⟩, ?_⟩
  refine List.forall_mem_cons.mpr ⟨Or.inr ⟨66, _, rfl, rfl, wd_839, wd_827⟩, ?_⟩
  refine List.forall_mem_cons.mpr ⟨Or.inr ⟨237, _, rfl, rfl, wd_840, wd_825⟩, ?_⟩
  refine List.forall_mem_cons.mpr ⟨Or.inr ⟨138, _, rfl, rfl, wd_841, wd_842⟩, ?_⟩
  refine List.forall_mem_cons.mpr ⟨Or.inr ⟨142, _, rfl, rfl, wd_843, wd_844⟩, ?_⟩
  refine List.forall_mem_cons.mpr ⟨Or.inr ⟨143, _, rfl, rfl, wd_845, wd_846⟩, ?_⟩
  refine List.forall_mem_cons.mpr ⟨Or.inr ⟨148, _, rfl, rfl, wd_847, wd_848⟩, ?_⟩
  refine List.forall_mem_cons.mpr ⟨Or.inr ⟨154, _, rfl, rfl, wd_849, wd_850⟩, ?_⟩
  refine List.forall_mem_cons.mpr ⟨Or.inr ⟨178, _, rfl, rfl, wd_851, wd_852⟩, ?_⟩
  refine List.forall_mem_cons.mpr ⟨Or.inr ⟨166, _, rfl, rfl, wd_853, wd_854⟩, ?_⟩
  refine List.forall_mem_cons.mpr ⟨Or.inr ⟨167, _, rfl, rfl, wd_855, wd_856⟩, ?_⟩
  refine List.forall_mem_cons.mpr ⟨Or.inr ⟨144, _, rfl, rfl, wd_857, wd_858⟩, ?_⟩
  refine List.forall_mem_cons.mpr ⟨Or.inr ⟨140, _, rfl, rfl, wd_859, wd_860⟩, ?_⟩
  refine List.forall_mem_cons.mpr ⟨Or.inr ⟨225, _, rfl, rfl, wd_861, wd_862⟩, ?_⟩
  refine List.forall_mem_cons.mpr ⟨Or.inr ⟨208, _, rfl, rfl, wd_863, wd_864⟩, ?_⟩
  refine List.forall_mem_cons.mpr ⟨Or.inr ⟨243, _, rfl, rfl, wd_865, wd_866⟩, ?_⟩
  refine List.forall_mem_cons.mpr ⟨Or.inr ⟨244, _, rfl, rfl, wd_867, wd_868⟩, ?_⟩
  refine List.forall_mem_cons.mpr ⟨Or.inr ⟨239, _, rfl, rfl, wd_869, wd_870⟩, ?_⟩
  exact fun _ h => absurd h List.not_mem_nil
theorem lf_c_1 : LF_c (sd_cl.getD 1 ("", cT_1, 0)) := ⟨show ∀ w ∈ ([.laysFinal "ThreeSizes" "ThreeSizes" "real" "LThreeSizes$Wall;", .laysFinal "ThreeSizes" "ThreeSizes" "trial" "LThreeSizes$Wall;", .laysFinal "ThreeSizes" "ThreeSizes" "kept" "LThreeSizes$Wall;", .laysFinal "ThreeSizes" "ThreeSizes" "hours" "LThreeSizes$Hours;", .laysFinal "ThreeSizes" "ThreeSizes" "tape" "LThreeSizes$Tape;", .laysFinal "ThreeSizes" "ThreeSizes" "shelves" "[LThreeSizes$Thing;", .laysFinal "ThreeSizes" "ThreeSizes" "refusals" "[I", .lays "ThreeSizes" "ThreeSizes" "isKept" "Z"] : List Cond), w ∈ lwG from List.forall_mem_cons.mpr ⟨wd_1133, List.forall_mem_cons.mpr ⟨wd_1134, List.forall_mem_cons.mpr ⟨wd_1135, List.forall_mem_cons.mpr ⟨wd_1136, List.forall_mem_cons.mpr ⟨wd_1137, List.forall_mem_cons.mpr ⟨wd_1138, List.forall_mem_cons.mpr ⟨wd_1139, List.forall_mem_cons.mpr ⟨wd_1140, fun _ h => absurd h List.not_mem_nil⟩⟩⟩⟩⟩⟩⟩⟩, wd_1141, wd_872⟩
theorem lf_c_2 : LF_c (sd_cl.getD 2 ("", cT_1, 0)) := ⟨show ∀ w ∈ ([.laysFinal "ThreeSizes$Wall" "ThreeSizes$Wall" "boxes" "[I", .laysFinal "ThreeSizes$Wall" "ThreeSizes$Wall" "full" "[I", .laysFinal "ThreeSizes$Wall" "ThreeSizes$Wall" "goes" "[I", .laysFinal "ThreeSizes$Wall" "ThreeSizes$Wall" "sizeOf" "[I", .laysFinal "ThreeSizes$Wall" "ThreeSizes$Wall" "comesOf" "[I", .laysFinal "ThreeSizes$Wall" "ThreeSizes$Wall" "worthOf" "[I", .laysFinal "ThreeSizes$Wall" "ThreeSizes$Wall" "backOf" "[I", .laysFinal "ThreeSizes$Wall" "ThreeSizes$Wall" "days" "[I", .lays "ThreeSizes$Wall" "ThreeSizes$Wall" "count" "I", .lays "ThreeSizes$Wall" "ThreeSizes$Wall" "near" "I", .lays "ThreeSizes$Wall" "ThreeSizes$Wall" "way" "I", .lays "ThreeSizes$Wall" "ThreeSizes$Wall" "seed" "I"] : List Cond), w ∈ lwG from List.forall_mem_cons.mpr ⟨wd_1142, List.forall_mem_cons.mpr ⟨wd_1143, List.forall_mem_cons.mpr ⟨wd_1144, List.forall_mem_cons.mpr ⟨wd_1145, List.forall_mem_cons.mpr ⟨wd_1146, List.forall_mem_cons.mpr ⟨wd_1147, List.forall_mem_cons.mpr ⟨wd_1148, List.forall_mem_cons.mpr ⟨wd_1149, List.forall_mem_cons.mpr ⟨wd_1150, List.forall_mem_cons.mpr ⟨wd_1151, List.forall_mem_cons.mpr ⟨wd_1152, List.forall_mem_cons.mpr ⟨wd_1153, fun _ h => absurd h List.not_mem_nil⟩⟩⟩⟩⟩⟩⟩⟩⟩⟩⟩⟩, wd_1154, wd_937⟩
theorem lf_c_3 : LF_c (sd_cl.getD 3 ("", cT_1, 0)) := ⟨show ∀ w ∈ ([.laysFinal "ThreeSizes$Hours" "ThreeSizes$Hours" "values" "[J", .laysFinal "ThreeSizes$Hours" "ThreeSizes$Hours" "tails" "[J", .laysFinal "ThreeSizes$Hours" "ThreeSizes$Hours" "plan" "[I", .laysFinal "ThreeSizes$Hours" "ThreeSizes$Hours" "sums" "[J", .laysFinal "ThreeSizes$Hours" "ThreeSizes$Hours" "states" "[I", .lays "ThreeSizes$Hours" "ThreeSizes$Hours" "stateCount" "I", .laysFinal "ThreeSizes$Hours" "ThreeSizes$Hours" "lostBy" "[J", .laysFinal "ThreeSizes$Hours" "ThreeSizes$Hours" "gainBy" "[J", .laysFinal "ThreeSizes$Hours" "ThreeSizes$Hours" "atMost" "[J"] : List Cond), w ∈ lwG from List.forall_mem_cons.mpr ⟨wd_1155, List.forall_mem_cons.mpr ⟨wd_1156, List.forall_mem_cons.mpr ⟨wd_1157, List.forall_mem_cons.mpr ⟨wd_1158, List.forall_mem_cons.mpr ⟨wd_1159, List.forall_mem_cons.mpr ⟨wd_1160, List.forall_mem_cons.mpr ⟨wd_1161, List.forall_mem_cons.mpr ⟨wd_1162, List.forall_mem_cons.mpr ⟨wd_1163, fun _ h => absurd h List.not_mem_nil⟩⟩⟩⟩⟩⟩⟩⟩⟩, wd_1164, wd_959⟩
theorem lf_c_4 : LF_c (sd_cl.getD 4 ("", cT_1, 0)) := ⟨show ∀ w ∈ ([.lays "ThreeSizes$Tape" "ThreeSizes$Tape" "length" "I", .laysFinal "ThreeSizes$Tape" "ThreeSizes$Tape" "bytes" "[B", .lays "ThreeSizes$Tape" "ThreeSizes$Tape" "token" "I", .lays "ThreeSizes$Tape" "ThreeSizes$Tape" "at" "I", .lays "ThreeSizes$Tape" "ThreeSizes$Tape" "end" "I", .lays "ThreeSizes$Tape" "ThreeSizes$Tape" "fault" "I"] : List Cond), w ∈ lwG from List.forall_mem_cons.mpr ⟨wd_1165, List.forall_mem_cons.mpr ⟨wd_1166, List.forall_mem_cons.mpr ⟨wd_1167, List.forall_mem_cons.mpr ⟨wd_1168, List.forall_mem_cons.mpr ⟨wd_1169, List.forall_mem_cons.mpr ⟨wd_1170, fun _ h => absurd h List.not_mem_nil⟩⟩⟩⟩⟩⟩, wd_1171, wd_975⟩
theorem lf_c_5 : LF_c (sd_cl.getD 5 ("", cT_1, 0)) := ⟨show ∀ w ∈ ([.laysFinal "ThreeSizes$Row" "ThreeSizes$Row" "sort" "I", .laysFinal "ThreeSizes$Row" "ThreeSizes$Row" "elements" "[J"] : List Cond), w ∈ lwG from List.forall_mem_cons.mpr ⟨wd_1172, List.forall_mem_cons.mpr ⟨wd_1173, fun _ h => absurd h List.not_mem_nil⟩⟩, wd_1174, wd_987⟩
theorem lf_c_6 : LF_c (sd_cl.getD 6 ("", cT_1, 0)) := ⟨show ∀ w ∈ ([.laysFinal "ThreeSizes$Least" "ThreeSizes$Rule" "a" "I"] : List Cond), w ∈ lwG from List.forall_mem_cons.mpr ⟨wd_1175, fun _ h => absurd h List.not_mem_nil⟩, wd_1176, wd_994⟩
theorem lf_c_7 : LF_c (sd_cl.getD 7 ("", cT_1, 0)) := ⟨show ∀ w ∈ ([.laysFinal "ThreeSizes$Keep" "ThreeSizes$Rule" "a" "I"] : List Cond), w ∈ lwG from List.forall_mem_cons.mpr ⟨wd_1177, fun _ h => absurd h List.not_mem_nil⟩, wd_1178, wd_998⟩
theorem lf_c_8 : LF_c (sd_cl.getD 8 ("", cT_1, 0)) := ⟨show ∀ w ∈ ([.laysFinal "ThreeSizes$Some" "ThreeSizes$Rule" "a" "I"] : List Cond), w ∈ lwG from List.forall_mem_cons.mpr ⟨wd_1179, fun _ h => absurd h List.not_mem_nil⟩, wd_1180, wd_1002⟩
theorem lf_c_9 : LF_c (sd_cl.getD 9 ("", cT_1, 0)) := ⟨show ∀ w ∈ ([.laysFinal "ThreeSizes$Great" "ThreeSizes$Rule" "a" "I"] : List Cond), w ∈ lwG from List.forall_mem_cons.mpr ⟨wd_1181, fun _ h => absurd h List.not_mem_nil⟩, wd_1182, wd_1006⟩
theorem lf_c_10 : LF_c (sd_cl.getD 10 ("", cT_1, 0)) := ⟨show ∀ w ∈ ([.laysFinal "ThreeSizes$Even" "ThreeSizes$Rule" "a" "I"] : List Cond), w ∈ lwG from List.forall_mem_cons.mpr ⟨wd_1183, fun _ h => absurd h List.not_mem_nil⟩, wd_1184, wd_1010⟩
theorem lf_c_11 : LF_c (sd_cl.getD 11 ("", cT_1, 0)) := ⟨show ∀ w ∈ ([.laysFinal "ThreeSizes$Wise" "ThreeSizes$Rule" "a" "I"] : List Cond), w ∈ lwG from List.forall_mem_cons.mpr ⟨wd_1185, fun _ h => absurd h List.not_mem_nil⟩, wd_1186, wd_1014⟩
theorem lf_c_12 : LF_c (sd_cl.getD 12 ("", cT_1, 0)) := ⟨show ∀ w ∈ ([.laysFinal "ThreeSizesModel" "ThreeSizesModel" "shelf" "[I", .laysFinal "ThreeSizesModel" "ThreeSizesModel" "rowSort" "[I", .laysFinal "ThreeSizesModel" "ThreeSizesModel" "rowSize" "[I", .laysFinal "ThreeSizesModel" "ThreeSizesModel" "rows" "[[J", .laysFinal "ThreeSizesModel" "ThreeSizesModel" "moved" "[J", .laysFinal "ThreeSizesModel" "ThreeSizesModel" "ruleKind" "[I", .laysFinal "ThreeSizesModel" "ThreeSizesModel" "ruleBy" "[I", .laysFinal "ThreeSizesModel" "ThreeSizesModel" "tape" "[I", .lays "ThreeSizesModel" "ThreeSizesModel" "tapeSize" "I", .laysFinal "ThreeSizesModel" "ThreeSizesModel" "refused" "[I", .laysFinal "ThreeSizesModel" "ThreeSizesModel" "boxes" "[I", .laysFinal "ThreeSizesModel" "ThreeSizesModel" "full" "[I", .laysFinal "ThreeSizesModel" "ThreeSizesModel" "goes" "[I", .lays "ThreeSizesModel" "ThreeSizesModel" "sorts" "I", .laysFinal "ThreeSizesModel" "ThreeSizesModel" "sort" "[[I", .laysFinal "ThreeSizesModel" "ThreeSizesModel" "asked" "[I", .laysFinal "ThreeSizesModel" "ThreeSizesModel" "day" "[I", .lays "ThreeSizesModel" "ThreeSizesModel" "seed" "I", .lays "ThreeSizesModel" "ThreeSizesModel" "kept" "LThreeSizesModel;", .lays "ThreeSizesModel" "ThreeSizesModel" "tried" "LThreeSizesModel;", .lays "ThreeSizesModel" "ThreeSizesModel" "at" "I", .lays "ThreeSizesModel" "ThreeSizesModel" "token" "I", .lays "ThreeSizesModel" "ThreeSizesModel" "from" "I", .lays "ThreeSizesModel" "ThreeSizesModel" "figures" "J", .lays "ThreeSizesModel" "ThreeSizesModel" "fault" "I", .laysFinal "ThreeSizesModel" "ThreeSizesModel" "told" "[I", .lays "ThreeSizesModel" "ThreeSizesModel" "statements" "I", .laysFinal "ThreeSizesModel" "ThreeSizesModel" "wiseGets" "[[I", .laysFinal "ThreeSizesModel" "ThreeSizesModel" "values" "[[J", .laysFinal "ThreeSizesModel" "ThreeSizesModel" "behind" "[J", .laysFinal "ThreeSizesModel" "ThreeSizesModel" "carted" "[I", .laysFinal "ThreeSizesModel" "ThreeSizesModel" "triedSize" "[I", .laysFinal "ThreeSizesModel" "ThreeSizesModel" "bestSize" "[I", .lays "ThreeSizesModel" "ThreeSizesModel" "cartMost" "J", .lays "ThreeSizesModel" "ThreeSizesModel" "cartAny" "Z", .lays "ThreeSizesModel" "ThreeSizesModel" "wrongAt" "I", .lays "ThreeSizesModel" "ThreeSizesModel" "stateThen" "I", .lays "ThreeSizesModel" "ThreeSizesModel" "placedMany" "I"] : List Cond), w ∈ lwG from List.forall_mem_cons.mpr ⟨wd_1187, List.forall_mem_cons.mpr ⟨wd_1188, List.forall_mem_cons.mpr ⟨wd_1189, List.forall_mem_cons.mpr ⟨wd_1190, List.forall_mem_cons.mpr ⟨wd_1191, List.forall_mem_cons.mpr ⟨wd_1192, List.forall_mem_cons.mpr ⟨wd_1193, List.forall_mem_cons.mpr ⟨wd_1194, List.forall_mem_cons.mpr ⟨wd_1195, List.forall_mem_cons.mpr ⟨wd_1196, List.forall_mem_cons.mpr ⟨wd_1197, List.forall_mem_cons.mpr ⟨wd_1198, List.forall_mem_cons.mpr ⟨wd_1199, List.forall_mem_cons.mpr ⟨wd_1200, List.forall_mem_cons.mpr ⟨wd_1201, List.forall_mem_cons.mpr ⟨wd_1202, List.forall_mem_cons.mpr ⟨wd_1203, List.forall_mem_cons.mpr ⟨wd_1204, List.forall_mem_cons.mpr ⟨wd_1205, List.forall_mem_cons.mpr ⟨wd_1206, List.forall_mem_cons.mpr ⟨wd_1207, List.forall_mem_cons.mpr ⟨wd_1208, List.forall_mem_cons.mpr ⟨wd_1209, List.forall_mem_cons.mpr ⟨wd_1210, List.forall_mem_cons.mpr ⟨wd_1211, List.forall_mem_cons.mpr ⟨wd_1212, List.forall_mem_cons.mpr ⟨wd_1213, List.forall_mem_cons.mpr ⟨wd_1214, List.forall_mem_cons.mpr ⟨wd_1215, List.forall_mem_cons.mpr ⟨wd_1216, List.forall_mem_cons.mpr ⟨wd_1217, List.forall_mem_cons.mpr ⟨wd_1218, List.forall_mem_cons.mpr ⟨wd_1219, List.forall_mem_cons.mpr ⟨wd_1220, List.forall_mem_cons.mpr ⟨wd_1221, List.forall_mem_cons.mpr ⟨wd_1222, List.forall_mem_cons.mpr ⟨wd_1223, List.forall_mem_cons.mpr ⟨wd_1224, fun _ h => absurd h List.not_mem_nil⟩⟩⟩⟩⟩⟩⟩⟩⟩⟩⟩⟩⟩⟩⟩⟩⟩⟩⟩⟩⟩⟩⟩⟩⟩⟩⟩⟩⟩⟩⟩⟩⟩⟩⟩⟩⟩⟩, wd_1225, wd_1019⟩
theorem lf_c : ∀ c, c < 13 → LF_c (sd_cl.getD c ("", cT_1, 0)) := by
  intro c hc
  match c, hc with
  | 0, _ => exact lf_c_2
  | 1, _ => exact lf_c_1
  | 2, _ => exact lf_c_2
  | 3, _ => exact lf_c_3
  | 4, _ => exact lf_c_4
  | 5, _ => exact lf_c_5
  | 6, _ => exact lf_c_6
  | 7, _ => exact lf_c_7
  | 8, _ => exact lf_c_8
  | 9, _ => exact lf_c_9
  | 10, _ => exact lf_c_10
  | 11, _ => exact lf_c_11
  | 12, _ => exact lf_c_12
  | c + 13, hc => exact absurd hc (by omega)
theorem lf_m_0 : LF_m (am_mt.getD 0 (x, code, 4, ret, 0)) := ⟨wd_871, wd_872⟩
theorem lf_m_1 : LF_m (am_mt.getD 1 (x, code, 4, ret, 0)) := ⟨wd_873, wd_872⟩
theorem lf_m_2 : LF_m (am_mt.getD 2 (x, code, 4, ret, 0)) := ⟨wd_874, wd_872⟩
theorem lf_m_3 : LF_m (am_mt.getD 3 (x, code, 4, ret, 0)) := ⟨wd_875, wd_872⟩
theorem lf_m_4 : LF_m (am_mt.getD 4 (x, code, 4, ret, 0)) := ⟨wd_876, wd_872⟩
theorem lf_m_5 : LF_m (am_mt.getD 5 (x, code, 4, ret, 0)) := ⟨wd_877, wd_872⟩
theorem lf_m_6 : LF_m (am_mt.getD 6 (x, code, 4, ret, 0)) := ⟨wd_878, wd_872⟩
theorem lf_m_7 : LF_m (am_mt.getD 7 (x, code, 4, ret, 0)) := ⟨wd_879, wd_872⟩
theorem lf_m_8 : LF_m (am_mt.getD 8 (x, code, 4, ret, 0)) := ⟨wd_880, wd_872⟩
theorem lf_m_9 : LF_m (am_mt.getD 9 (x, code, 4, ret, 0)) := ⟨wd_881, wd_872⟩
theorem lf_m_10 : LF_m (am_mt.getD 10 (x, code, 4, ret, 0)) := ⟨wd_882, wd_872⟩
theorem lf_m_11 : LF_m (am_mt.getD 11 (x, code, 4, ret, 0)) := ⟨wd_883, wd_872⟩
theorem lf_m_12 : LF_m (am_mt.getD 12 (x, code, 4, ret, 0)) := ⟨wd_884, wd_872⟩
theorem lf_m_13 : LF_m (am_mt.getD 13 (x, code, 4, ret, 0)) := ⟨wd_885, wd_872⟩
theorem lf_m_14 : LF_m (am_mt.getD 14 (x, code, 4, ret, 0)) := ⟨wd_886, wd_872⟩
theorem lf_m_15 : LF_m (am_mt.getD 15 (x, code, 4, ret, 0)) := ⟨wd_887, wd_872⟩
theorem lf_m_16 : LF_m (am_mt.getD 16 (x, code, 4, ret, 0)) := ⟨wd_888, wd_872⟩
theorem lf_m_17 : LF_m (am_mt.getD 17 (x, code, 4, ret, 0)) := ⟨wd_889, wd_872⟩
theorem lf_m_18 : LF_m (am_mt.getD 18 (x, code, 4, ret, 0)) := ⟨wd_890, wd_872⟩
theorem lf_m_19 : LF_m (am_mt.getD 19 (x, code, 4, ret, 0)) := ⟨wd_891, wd_872⟩
theorem lf_m_20 : LF_m (am_mt.getD 20 (x, code, 4, ret, 0)) := ⟨wd_892, wd_872⟩
theorem lf_m_21 : LF_m (am_mt.getD 21 (x, code, 4, ret, 0)) := ⟨wd_893, wd_872⟩
theorem lf_m_22 : LF_m (am_mt.getD 22 (x, code, 4, ret, 0)) := ⟨wd_894, wd_872⟩
theorem lf_m_23 : LF_m (am_mt.getD 23 (x, code, 4, ret, 0)) := ⟨wd_895, wd_872⟩
theorem lf_m_24 : LF_m (am_mt.getD 24 (x, code, 4, ret, 0)) := ⟨wd_896, wd_872⟩
theorem lf_m_25 : LF_m (am_mt.getD 25 (x, code, 4, ret, 0)) := ⟨wd_897, wd_872⟩
theorem lf_m_26 : LF_m (am_mt.getD 26 (x, code, 4, ret, 0)) := ⟨wd_898, wd_872⟩
theorem lf_m_27 : LF_m (am_mt.getD 27 (x, code, 4, ret, 0)) := ⟨wd_899, wd_872⟩
theorem lf_m_28 : LF_m (am_mt.getD 28 (x, code, 4, ret, 0)) := ⟨wd_900, wd_872⟩
theorem lf_m_29 : LF_m (am_mt.getD 29 (x, code, 4, ret, 0)) := ⟨wd_901, wd_872⟩
theorem lf_m_30 : LF_m (am_mt.getD 30 (x, code, 4, ret, 0)) := ⟨wd_902, wd_872⟩
theorem lf_m_31 : LF_m (am_mt.getD 31 (x, code, 4, ret, 0)) := ⟨wd_903, wd_872⟩
theorem lf_m_32 : LF_m (am_mt.getD 32 (x, code, 4, ret, 0)) := ⟨wd_904, wd_872⟩
theorem lf_m_33 : LF_m (am_mt.getD 33 (x, code, 4, ret, 0)) := ⟨wd_905, wd_872⟩
theorem lf_m_34 : LF_m (am_mt.getD 34 (x, code, 4, ret, 0)) := ⟨wd_906, wd_872⟩
theorem lf_m_35 : LF_m (am_mt.getD 35 (x, code, 4, ret, 0)) := ⟨wd_907, wd_872⟩
theorem lf_m_36 : LF_m (am_mt.getD 36 (x, code, 4, ret, 0)) := ⟨wd_908, wd_872⟩
theorem lf_m_37 : LF_m (am_mt.getD 37 (x, code, 4, ret, 0)) := ⟨wd_909, wd_872⟩
theorem lf_m_38 : LF_m (am_mt.getD 38 (x, code, 4, ret, 0)) := ⟨wd_910, wd_872⟩
theorem lf_m_39 : LF_m (am_mt.getD 39 (x, code, 4, ret, 0)) := ⟨wd_911, wd_872⟩
theorem lf_m_40 : LF_m (am_mt.getD 40 (x, code, 4, ret, 0)) := ⟨wd_912, wd_872⟩
theorem lf_m_41 : LF_m (am_mt.getD 41 (x, code, 4, ret, 0)) := ⟨wd_913, wd_872⟩
theorem lf_m_42 : LF_m (am_mt.getD 42 (x, code, 4, ret, 0)) := ⟨wd_914, wd_872⟩
theorem lf_m_43 : LF_m (am_mt.getD 43 (x, code, 4, ret, 0)) := ⟨wd_915, wd_872⟩
theorem lf_m_44 : LF_m (am_mt.getD 44 (x, code, 4, ret, 0)) := ⟨wd_916, wd_872⟩
theorem lf_m_45 : LF_m (am_mt.getD 45 (x, code, 4, ret, 0)) := ⟨wd_917, wd_872⟩
theorem lf_m_46 : LF_m (am_mt.getD 46 (x, code, 4, ret, 0)) := ⟨wd_918, wd_872⟩
theorem lf_m_47 : LF_m (am_mt.getD 47 (x, code, 4, ret, 0)) := ⟨wd_919, wd_872⟩
theorem lf_m_48 : LF_m (am_mt.getD 48 (x, code, 4, ret, 0)) := ⟨wd_920, wd_872⟩
theorem lf_m_49 : LF_m (am_mt.getD 49 (x, code, 4, ret, 0)) := ⟨wd_921, wd_872⟩
theorem lf_m_50 : LF_m (am_mt.getD 50 (x, code, 4, ret, 0)) := ⟨wd_922, wd_872⟩
theorem lf_m_51 : LF_m (am_mt.getD 51 (x, code, 4, ret, 0)) := ⟨wd_923, wd_872⟩
theorem lf_m_52 : LF_m (am_mt.getD 52 (x, code, 4, ret, 0)) := ⟨wd_924, wd_872⟩
theorem lf_m_53 : LF_m (am_mt.getD 53 (x, code, 4, ret, 0)) := ⟨wd_925, wd_872⟩
theorem lf_m_54 : LF_m (am_mt.getD 54 (x, code, 4, ret, 0)) := ⟨wd_926, wd_872⟩
theorem lf_m_55 : LF_m (am_mt.getD 55 (x, code, 4, ret, 0)) := ⟨wd_927, wd_872⟩
theorem lf_m_56 : LF_m (am_mt.getD 56 (x, code, 4, ret, 0)) := ⟨wd_928, wd_872⟩
theorem lf_m_57 : LF_m (am_mt.getD 57 (x, code, 4, ret, 0)) := ⟨wd_929, wd_872⟩
theorem lf_m_58 : LF_m (am_mt.getD 58 (x, code, 4, ret, 0)) := ⟨wd_930, wd_872⟩
theorem lf_m_59 : LF_m (am_mt.getD 59 (x, code, 4, ret, 0)) := ⟨wd_931, wd_872⟩
theorem lf_m_60 : LF_m (am_mt.getD 60 (x, code, 4, ret, 0)) := ⟨wd_932, wd_872⟩
theorem lf_m_61 : LF_m (am_mt.getD 61 (x, code, 4, ret, 0)) := ⟨wd_933, wd_872⟩
theorem lf_m_62 : LF_m (am_mt.getD 62 (x, code, 4, ret, 0)) := ⟨wd_934, wd_872⟩
theorem lf_m_63 : LF_m (am_mt.getD 63 (x, code, 4, ret, 0)) := ⟨wd_935, wd_872⟩
theorem lf_m_64 : LF_m (am_mt.getD 64 (x, code, 4, ret, 0)) := ⟨wd_936, wd_937⟩
theorem lf_m_65 : LF_m (am_mt.getD 65 (x, code, 4, ret, 0)) := ⟨wd_938, wd_937⟩
theorem lf_m_66 : LF_m (am_mt.getD 66 (x, code, 4, ret, 0)) := ⟨wd_939, wd_937⟩
theorem lf_m_67 : LF_m (am_mt.getD 67 (x, code, 4, ret, 0)) := ⟨wd_940, wd_937⟩
theorem lf_m_68 : LF_m (am_mt.getD 68 (x, code, 4, ret, 0)) := ⟨wd_941, wd_937⟩
theorem lf_m_69 : LF_m (am_mt.getD 69 (x, code, 4, ret, 0)) := ⟨wd_942, wd_937⟩
theorem lf_m_70 : LF_m (am_mt.getD 70 (x, code, 4, ret, 0)) := ⟨wd_943, wd_937⟩
theorem lf_m_71 : LF_m (am_mt.getD 71 (x, code, 4, ret, 0)) := ⟨wd_944, wd_937⟩
theorem lf_m_72 : LF_m (am_mt.getD 72 (x, code, 4, ret, 0)) := ⟨wd_945, wd_937⟩
theorem lf_m_73 : LF_m (am_mt.getD 73 (x, code, 4, ret, 0)) := ⟨wd_946, wd_937⟩
theorem lf_m_74 : LF_m (am_mt.getD 74 (x, code, 4, ret, 0)) := ⟨wd_947, wd_937⟩
theorem lf_m_75 : LF_m (am_mt.getD 75 (x, code, 4, ret, 0)) := ⟨wd_948, wd_937⟩
theorem lf_m_76 : LF_m (am_mt.getD 76 (x, code, 4, ret, 0)) := ⟨wd_949, wd_937⟩
theorem lf_m_77 : LF_m (am_mt.getD 77 (x, code, 4, ret, 0)) := ⟨wd_950, wd_937⟩
theorem lf_m_78 : LF_m (am_mt.getD 78 (x, code, 4, ret, 0)) := ⟨wd_951, wd_937⟩
theorem lf_m_79 : LF_m (am_mt.getD 79 (x, code, 4, ret, 0)) := ⟨wd_952, wd_937⟩
theorem lf_m_80 : LF_m (am_mt.getD 80 (x, code, 4, ret, 0)) := ⟨wd_953, wd_937⟩
theorem lf_m_81 : LF_m (am_mt.getD 81 (x, code, 4, ret, 0)) := ⟨wd_954, wd_937⟩
theorem lf_m_82 : LF_m (am_mt.getD 82 (x, code, 4, ret, 0)) := ⟨wd_955, wd_937⟩
theorem lf_m_83 : LF_m (am_mt.getD 83 (x, code, 4, ret, 0)) := ⟨wd_956, wd_937⟩
theorem lf_m_84 : LF_m (am_mt.getD 84 (x, code, 4, ret, 0)) := ⟨wd_957, wd_937⟩
theorem lf_m_85 : LF_m (am_mt.getD 85 (x, code, 4, ret, 0)) := ⟨wd_958, wd_959⟩
theorem lf_m_86 : LF_m (am_mt.getD 86 (x, code, 4, ret, 0)) := ⟨wd_960, wd_959⟩
theorem lf_m_87 : LF_m (am_mt.getD 87 (x, code, 4, ret, 0)) := ⟨wd_961, wd_959⟩
theorem lf_m_88 : LF_m (am_mt.getD 88 (x, code, 4, ret, 0)) := ⟨wd_962, wd_959⟩
theorem lf_m_89 : LF_m (am_mt.getD 89 (x, code, 4, ret, 0)) := ⟨wd_963, wd_959⟩
theorem lf_m_90 : LF_m (am_mt.getD 90 (x, code, 4, ret, 0)) := ⟨wd_964, wd_959⟩
theorem lf_m_91 : LF_m (am_mt.getD 91 (x, code, 4, ret, 0)) := ⟨wd_965, wd_959⟩
theorem lf_m_92 : LF_m (am_mt.getD 92 (x, code, 4, ret, 0)) := ⟨wd_966, wd_959⟩
theorem lf_m_93 : LF_m (am_mt.getD 93 (x, code, 4, ret, 0)) := ⟨wd_967, wd_959⟩
theorem lf_m_94 : LF_m (am_mt.getD 94 (x, code, 4, ret, 0)) := ⟨wd_968, wd_959⟩
theorem lf_m_95 : LF_m (am_mt.getD 95 (x, code, 4, ret, 0)) := ⟨wd_969, wd_959⟩
theorem lf_m_96 : LF_m (am_mt.getD 96 (x, code, 4, ret, 0)) := ⟨wd_970, wd_959⟩
theorem lf_m_97 : LF_m (am_mt.getD 97 (x, code, 4, ret, 0)) := ⟨wd_971, wd_959⟩
theorem lf_m_98 : LF_m (am_mt.getD 98 (x, code, 4, ret, 0)) := ⟨wd_972, wd_959⟩
theorem lf_m_99 : LF_m (am_mt.getD 99 (x, code, 4, ret, 0)) := ⟨wd_973, wd_959⟩
theorem lf_m_100 : LF_m (am_mt.getD 100 (x, code, 4, ret, 0)) := ⟨wd_974, wd_975⟩
theorem lf_m_101 : LF_m (am_mt.getD 101 (x, code, 4, ret, 0)) := ⟨wd_976, wd_975⟩
theorem lf_m_102 : LF_m (am_mt.getD 102 (x, code, 4, ret, 0)) := ⟨wd_977, wd_975⟩
theorem lf_m_103 : LF_m (am_mt.getD 103 (x, code, 4, ret, 0)) := ⟨wd_978, wd_975⟩
theorem lf_m_104 : LF_m (am_mt.getD 104 (x, code, 4, ret, 0)) := ⟨wd_979, wd_975⟩
theorem lf_m_105 : LF_m (am_mt.getD 105 (x, code, 4, ret, 0)) := ⟨wd_980, wd_975⟩
theorem lf_m_106 : LF_m (am_mt.getD 106 (x, code, 4, ret, 0)) := ⟨wd_981, wd_975⟩
theorem lf_m_107 : LF_m (am_mt.getD 107 (x, code, 4, ret, 0)) := ⟨wd_982, wd_975⟩
theorem lf_m_108 : LF_m (am_mt.getD 108 (x, code, 4, ret, 0)) := ⟨wd_983, wd_975⟩
theorem lf_m_109 : LF_m (am_mt.getD 109 (x, code, 4, ret, 0)) := ⟨wd_984, wd_975⟩
theorem lf_m_110 : LF_m (am_mt.getD 110 (x, code, 4, ret, 0)) := ⟨wd_985, wd_975⟩
theorem lf_m_111 : LF_m (am_mt.getD 111 (x, code, 4, ret, 0)) := ⟨wd_986, wd_987⟩
theorem lf_m_112 : LF_m (am_mt.getD 112 (x, code, 4, ret, 0)) := ⟨wd_988, wd_987⟩
theorem lf_m_113 : LF_m (am_mt.getD 113 (x, code, 4, ret, 0)) := ⟨wd_989, wd_987⟩
theorem lf_m_114 : LF_m (am_mt.getD 114 (x, code, 4, ret, 0)) := ⟨wd_990, wd_987⟩
theorem lf_m_115 : LF_m (am_mt.getD 115 (x, code, 4, ret, 0)) := ⟨wd_991, wd_987⟩
theorem lf_m_116 : LF_m (am_mt.getD 116 (x, code, 4, ret, 0)) := ⟨wd_992, wd_987⟩
theorem lf_m_117 : LF_m (am_mt.getD 117 (x, code, 4, ret, 0)) := ⟨wd_993, wd_994⟩
theorem lf_m_118 : LF_m (am_mt.getD 118 (x, code, 4, ret, 0)) := ⟨wd_995, wd_994⟩
theorem lf_m_119 : LF_m (am_mt.getD 119 (x, code, 4, ret, 0)) := ⟨wd_996, wd_994⟩
theorem lf_m_120 : LF_m (am_mt.getD 120 (x, code, 4, ret, 0)) := ⟨wd_997, wd_998⟩
theorem lf_m_121 : LF_m (am_mt.getD 121 (x, code, 4, ret, 0)) := ⟨wd_999, wd_998⟩
theorem lf_m_122 : LF_m (am_mt.getD 122 (x, code, 4, ret, 0)) := ⟨wd_1000, wd_998⟩
theorem lf_m_123 : LF_m (am_mt.getD 123 (x, code, 4, ret, 0)) := ⟨wd_1001, wd_1002⟩
theorem lf_m_124 : LF_m (am_mt.getD 124 (x, code, 4, ret, 0)) := ⟨wd_1003, wd_1002⟩
theorem lf_m_125 : LF_m (am_mt.getD 125 (x, code, 4, ret, 0)) := ⟨wd_1004, wd_1002⟩
theorem lf_m_126 : LF_m (am_mt.getD 126 (x, code, 4, ret, 0)) := ⟨wd_1005, wd_1006⟩
theorem lf_m_127 : LF_m (am_mt.getD 127 (x, code, 4, ret, 0)) := ⟨wd_1007, wd_1006⟩
theorem lf_m_128 : LF_m (am_mt.getD 128 (x, code, 4, ret, 0)) := ⟨wd_1008, wd_1006⟩
theorem lf_m_129 : LF_m (am_mt.getD 129 (x, code, 4, ret, 0)) := ⟨wd_1009, wd_1010⟩
theorem lf_m_130 : LF_m (am_mt.getD 130 (x, code, 4, ret, 0)) := ⟨wd_1011, wd_1010⟩
theorem lf_m_131 : LF_m (am_mt.getD 131 (x, code, 4, ret, 0)) := ⟨wd_1012, wd_1010⟩
theorem lf_m_132 : LF_m (am_mt.getD 132 (x, code, 4, ret, 0)) := ⟨wd_1013, wd_1014⟩
theorem lf_m_133 : LF_m (am_mt.getD 133 (x, code, 4, ret, 0)) := ⟨wd_1015, wd_1014⟩
theorem lf_m_134 : LF_m (am_mt.getD 134 (x, code, 4, ret, 0)) := ⟨wd_1016, wd_1014⟩
theorem lf_m_135 : LF_m (am_mt.getD 135 (x, code, 4, ret, 0)) := ⟨wd_1017, wd_1014⟩
theorem lf_m_136 : LF_m (am_mt.getD 136 (x, code, 4, ret, 0)) := ⟨wd_1018, wd_1019⟩
theorem lf_m_137 : LF_m (am_mt.getD 137 (x, code, 4, ret, 0)) := ⟨wd_1020, wd_1019⟩
theorem lf_m_138 : LF_m (am_mt.getD 138 (x, code, 4, ret, 0)) := ⟨wd_1021, wd_1019⟩
theorem lf_m_139 : LF_m (am_mt.getD 139 (x, code, 4, ret, 0)) := ⟨wd_1022, wd_1019⟩
theorem lf_m_140 : LF_m (am_mt.getD 140 (x, code, 4, ret, 0)) := ⟨wd_1023, wd_1019⟩
theorem lf_m_141 : LF_m (am_mt.getD 141 (x, code, 4, ret, 0)) := ⟨wd_1024, wd_1019⟩
theorem lf_m_142 : LF_m (am_mt.getD 142 (x, code, 4, ret, 0)) := ⟨wd_1025, wd_1019⟩
theorem lf_m_143 : LF_m (am_mt.getD 143 (x, code, 4, ret, 0)) := ⟨wd_1026, wd_1019⟩
theorem lf_m_144 : LF_m (am_mt.getD 144 (x, code, 4, ret, 0)) := ⟨wd_1027, wd_1019⟩
theorem lf_m_145 : LF_m (am_mt.getD 145 (x, code, 4, ret, 0)) := ⟨wd_1028, wd_1019⟩
theorem lf_m_146 : LF_m (am_mt.getD 146 (x, code, 4, ret, 0)) := ⟨wd_1029, wd_1019⟩
theorem lf_m_147 : LF_m (am_mt.getD 147 (x, code, 4, ret, 0)) := ⟨wd_1030, wd_1019⟩
theorem lf_m_148 : LF_m (am_mt.getD 148 (x, code, 4, ret, 0)) := ⟨wd_1031, wd_1019⟩
theorem lf_m_149 : LF_m (am_mt.getD 149 (x, code, 4, ret, 0)) := ⟨wd_1032, wd_1019⟩
theorem lf_m_150 : LF_m (am_mt.getD 150 (x, code, 4, ret, 0)) := ⟨wd_1033, wd_1019⟩
theorem lf_m_151 : LF_m (am_mt.getD 151 (x, code, 4, ret, 0)) := ⟨wd_1034, wd_1019⟩
theorem lf_m_152 : LF_m (am_mt.getD 152 (x, code, 4, ret, 0)) := ⟨wd_1035, wd_1019⟩
theorem lf_m_153 : LF_m (am_mt.getD 153 (x, code, 4, ret, 0)) := ⟨wd_1036, wd_1019⟩
theorem lf_m_154 : LF_m (am_mt.getD 154 (x, code, 4, ret, 0)) := ⟨wd_1037, wd_1019⟩
theorem lf_m_155 : LF_m (am_mt.getD 155 (x, code, 4, ret, 0)) := ⟨wd_1038, wd_1019⟩
theorem lf_m_156 : LF_m (am_mt.getD 156 (x, code, 4, ret, 0)) := ⟨wd_1039, wd_1019⟩
theorem lf_m_157 : LF_m (am_mt.getD 157 (x, code, 4, ret, 0)) := ⟨wd_1040, wd_1019⟩
theorem lf_m_158 : LF_m (am_mt.getD 158 (x, code, 4, ret, 0)) := ⟨wd_1041, wd_1019⟩
theorem lf_m_159 : LF_m (am_mt.getD 159 (x, code, 4, ret, 0)) := ⟨wd_1042, wd_1019⟩
theorem lf_m_160 : LF_m (am_mt.getD 160 (x, code, 4, ret, 0)) := ⟨wd_1043, wd_1019⟩
theorem lf_m_161 : LF_m (am_mt.getD 161 (x, code, 4, ret, 0)) := ⟨wd_1044, wd_1019⟩
theorem lf_m_162 : LF_m (am_mt.getD 162 (x, code, 4, ret, 0)) := ⟨wd_1045, wd_1019⟩
theorem lf_m_163 : LF_m (am_mt.getD 163 (x, code, 4, ret, 0)) := ⟨wd_1046, wd_1019⟩
theorem lf_m_164 : LF_m (am_mt.getD 164 (x, code, 4, ret, 0)) := ⟨wd_1047, wd_1019⟩
theorem lf_m_165 : LF_m (am_mt.getD 165 (x, code, 4, ret, 0)) := ⟨wd_1048, wd_1019⟩
theorem lf_m_166 : LF_m (am_mt.getD 166 (x, code, 4, ret, 0)) := ⟨wd_1049, wd_1019⟩
theorem lf_m_167 : LF_m (am_mt.getD 167 (x, code, 4, ret, 0)) := ⟨wd_1050, wd_1019⟩
theorem lf_m_168 : LF_m (am_mt.getD 168 (x, code, 4, ret, 0)) := ⟨wd_1051, wd_1019⟩
theorem lf_m_169 : LF_m (am_mt.getD 169 (x, code, 4, ret, 0)) := ⟨wd_1052, wd_1019⟩
theorem lf_m_170 : LF_m (am_mt.getD 170 (x, code, 4, ret, 0)) := ⟨wd_1053, wd_1019⟩
theorem lf_m_171 : LF_m (am_mt.getD 171 (x, code, 4, ret, 0)) := ⟨wd_1054, wd_1019⟩
theorem lf_m_172 : LF_m (am_mt.getD 172 (x, code, 4, ret, 0)) := ⟨wd_1055, wd_1019⟩
theorem lf_m_173 : LF_m (am_mt.getD 173 (x, code, 4, ret, 0)) := ⟨wd_1056, wd_1019⟩
theorem lf_m_174 : LF_m (am_mt.getD 174 (x, code, 4, ret, 0)) := ⟨wd_1057, wd_1019⟩
theorem lf_m_175 : LF_m (am_mt.getD 175 (x, code, 4, ret, 0)) := ⟨wd_1058, wd_1019⟩
theorem lf_m_176 : LF_m (am_mt.getD 176 (x, code, 4, ret, 0)) := ⟨wd_1059, wd_1019⟩
theorem lf_m_177 : LF_m (am_mt.getD 177 (x, code, 4, ret, 0)) := ⟨wd_1060, wd_1019⟩
theorem lf_m_178 : LF_m (am_mt.getD 178 (x, code, 4, ret, 0)) := ⟨wd_1061, wd_1019⟩
theorem lf_m_179 : LF_m (am_mt.getD 179 (x, code, 4, ret, 0)) := ⟨wd_1062, wd_1019⟩
theorem lf_m_180 : LF_m (am_mt.getD 180 (x, code, 4, ret, 0)) := ⟨wd_1063, wd_1019⟩
theorem lf_m_181 : LF_m (am_mt.getD 181 (x, code, 4, ret, 0)) := ⟨wd_1064, wd_1019⟩
theorem lf_m_182 : LF_m (am_mt.getD 182 (x, code, 4, ret, 0)) := ⟨wd_1065, wd_1019⟩
theorem lf_m_183 : LF_m (am_mt.getD 183 (x, code, 4, ret, 0)) := ⟨wd_1066, wd_1019⟩
theorem lf_m_184 : LF_m (am_mt.getD 184 (x, code, 4, ret, 0)) := ⟨wd_1067, wd_1019⟩
theorem lf_m_185 : LF_m (am_mt.getD 185 (x, code, 4, ret, 0)) := ⟨wd_1068, wd_1019⟩
theorem lf_m_186 : LF_m (am_mt.getD 186 (x, code, 4, ret, 0)) := ⟨wd_1069, wd_1019⟩
theorem lf_m_187 : LF_m (am_mt.getD 187 (x, code, 4, ret, 0)) := ⟨wd_1070, wd_1019⟩
theorem lf_m_188 : LF_m (am_mt.getD 188 (x, code, 4, ret, 0)) := ⟨wd_1071, wd_1019⟩
theorem lf_m_189 : LF_m (am_mt.getD 189 (x, code, 4, ret, 0)) := ⟨wd_1072, wd_1019⟩
theorem lf_m_190 : LF_m (am_mt.getD 190 (x, code, 4, ret, 0)) := ⟨wd_1073, wd_1019⟩
theorem lf_m_191 : LF_m (am_mt.getD 191 (x, code, 4, ret, 0)) := ⟨wd_1074, wd_1019⟩
theorem lf_m_192 : LF_m (am_mt.getD 192 (x, code, 4, ret, 0)) := ⟨wd_1075, wd_1019⟩
theorem lf_m_193 : LF_m (am_mt.getD 193 (x, code, 4, ret, 0)) := ⟨wd_1076, wd_1019⟩
theorem lf_m_194 : LF_m (am_mt.getD 194 (x, code, 4, ret, 0)) := ⟨wd_1077, wd_1019⟩
theorem lf_m_195 : LF_m (am_mt.getD 195 (x, code, 4, ret, 0)) := ⟨wd_1078, wd_1019⟩
theorem lf_m_196 : LF_m (am_mt.getD 196 (x, code, 4, ret, 0)) := ⟨wd_1079, wd_1019⟩
theorem lf_m_197 : LF_m (am_mt.getD 197 (x, code, 4, ret, 0)) := ⟨wd_1080, wd_1019⟩
theorem lf_m_198 : LF_m (am_mt.getD 198 (x, code, 4, ret, 0)) := ⟨wd_1081, wd_1019⟩
theorem lf_m_199 : LF_m (am_mt.getD 199 (x, code, 4, ret, 0)) := ⟨wd_1082, wd_1019⟩
theorem lf_m_200 : LF_m (am_mt.getD 200 (x, code, 4, ret, 0)) := ⟨wd_1083, wd_1019⟩
theorem lf_m_201 : LF_m (am_mt.getD 201 (x, code, 4, ret, 0)) := ⟨wd_1084, wd_1019⟩
theorem lf_m_202 : LF_m (am_mt.getD 202 (x, code, 4, ret, 0)) := ⟨wd_1085, wd_1019⟩
theorem lf_m_203 : LF_m (am_mt.getD 203 (x, code, 4, ret, 0)) := ⟨wd_1086, wd_1019⟩
theorem lf_m_204 : LF_m (am_mt.getD 204 (x, code, 4, ret, 0)) := ⟨wd_1087, wd_1019⟩
theorem lf_m_205 : LF_m (am_mt.getD 205 (x, code, 4, ret, 0)) := ⟨wd_1088, wd_1019⟩
theorem lf_m_206 : LF_m (am_mt.getD 206 (x, code, 4, ret, 0)) := ⟨wd_1089, wd_1019⟩
theorem lf_m_207 : LF_m (am_mt.getD 207 (x, code, 4, ret, 0)) := ⟨wd_1090, wd_1019⟩
theorem lf_m_208 : LF_m (am_mt.getD 208 (x, code, 4, ret, 0)) := ⟨wd_1091, wd_1019⟩
theorem lf_m_209 : LF_m (am_mt.getD 209 (x, code, 4, ret, 0)) := ⟨wd_1092, wd_1019⟩
theorem lf_m_210 : LF_m (am_mt.getD 210 (x, code, 4, ret, 0)) := ⟨wd_1093, wd_1019⟩
theorem lf_m_211 : LF_m (am_mt.getD 211 (x, code, 4, ret, 0)) := ⟨wd_1094, wd_1019⟩
theorem lf_m_212 : LF_m (am_mt.getD 212 (x, code, 4, ret, 0)) := ⟨wd_1095, wd_1019⟩
theorem lf_m_213 : LF_m (am_mt.getD 213 (x, code, 4, ret, 0)) := ⟨wd_1096, wd_1019⟩
theorem lf_m_214 : LF_m (am_mt.getD 214 (x, code, 4, ret, 0)) := ⟨wd_1097, wd_1019⟩
theorem lf_m_215 : LF_m (am_mt.getD 215 (x, code, 4, ret, 0)) := ⟨wd_1098, wd_1019⟩
theorem lf_m_216 : LF_m (am_mt.getD 216 (x, code, 4, ret, 0)) := ⟨wd_1099, wd_1019⟩
theorem lf_m_217 : LF_m (am_mt.getD 217 (x, code, 4, ret, 0)) := ⟨wd_1100, wd_1019⟩
theorem lf_m_218 : LF_m (am_mt.getD 218 (x, code, 4, ret, 0)) := ⟨wd_1101, wd_1019⟩
theorem lf_m_219 : LF_m (am_mt.getD 219 (x, code, 4, ret, 0)) := ⟨wd_1102, wd_1019⟩
theorem lf_m_220 : LF_m (am_mt.getD 220 (x, code, 4, ret, 0)) := ⟨wd_1103, wd_1019⟩
theorem lf_m_221 : LF_m (am_mt.getD 221 (x, code, 4, ret, 0)) := ⟨wd_1104, wd_1019⟩
theorem lf_m_222 : LF_m (am_mt.getD 222 (x, code, 4, ret, 0)) := ⟨wd_1105, wd_1019⟩
theorem lf_m_223 : LF_m (am_mt.getD 223 (x, code, 4, ret, 0)) := ⟨wd_1106, wd_1019⟩
theorem lf_m_224 : LF_m (am_mt.getD 224 (x, code, 4, ret, 0)) := ⟨wd_1107, wd_1019⟩
theorem lf_m_225 : LF_m (am_mt.getD 225 (x, code, 4, ret, 0)) := ⟨wd_1108, wd_1019⟩
theorem lf_m_226 : LF_m (am_mt.getD 226 (x, code, 4, ret, 0)) := ⟨wd_1109, wd_1019⟩
theorem lf_m_227 : LF_m (am_mt.getD 227 (x, code, 4, ret, 0)) := ⟨wd_1110, wd_1019⟩
theorem lf_m_228 : LF_m (am_mt.getD 228 (x, code, 4, ret, 0)) := ⟨wd_1111, wd_1019⟩
theorem lf_m_229 : LF_m (am_mt.getD 229 (x, code, 4, ret, 0)) := ⟨wd_1112, wd_1019⟩
theorem lf_m_230 : LF_m (am_mt.getD 230 (x, code, 4, ret, 0)) := ⟨wd_1113, wd_1114⟩
theorem lf_m_231 : LF_m (am_mt.getD 231 (x, code, 4, ret, 0)) := ⟨wd_1115, wd_1116⟩
theorem lf_m_232 : LF_m (am_mt.getD 232 (x, code, 4, ret, 0)) := ⟨wd_1117, wd_1116⟩
theorem lf_m_233 : LF_m (am_mt.getD 233 (x, code, 4, ret, 0)) := ⟨wd_1118, wd_1116⟩
theorem lf_m_234 : LF_m (am_mt.getD 234 (x, code, 4, ret, 0)) := ⟨wd_1119, wd_1116⟩
theorem lf_m_236 : LF_m (am_mt.getD 236 (x, code, 4, ret, 0)) := ⟨wd_1120, wd_1121⟩
theorem lf_m_237 : LF_m (am_mt.getD 237 (x, code, 4, ret, 0)) := ⟨wd_1122, wd_1121⟩
theorem lf_m_238 : LF_m (am_mt.getD 238 (x, code, 4, ret, 0)) := ⟨wd_1123, wd_1124⟩
theorem lf_m_239 : LF_m (am_mt.getD 239 (x, code, 4, ret, 0)) := ⟨wd_1125, wd_1124⟩
theorem lf_m_240 : LF_m (am_mt.getD 240 (x, code, 4, ret, 0)) := ⟨wd_1126, wd_1124⟩
theorem lf_m_241 : LF_m (am_mt.getD 241 (x, code, 4, ret, 0)) := ⟨wd_1127, wd_1124⟩
theorem lf_m_242 : LF_m (am_mt.getD 242 (x, code, 4, ret, 0)) := ⟨wd_1128, wd_1124⟩
theorem lf_m_243 : LF_m (am_mt.getD 243 (x, code, 4, ret, 0)) := ⟨wd_1129, wd_1130⟩
theorem lf_m_244 : LF_m (am_mt.getD 244 (x, code, 4, ret, 0)) := ⟨wd_1131, wd_1132⟩
theorem lf_m : ∀ y, y < 245 → y ≠ 235 → LF_m (am_mt.getD y (x, code, 4, ret, 0)) := by
  intro y hy hn
  match y, hy, hn with
  | 0, _, _ => exact lf_m_0
  | 1, _, _ => exact lf_m_1
  | 2, _, _ => exact lf_m_2
  | 3, _, _ => exact lf_m_3
  | 4, _, _ => exact lf_m_4
  | 5, _, _ => exact lf_m_5
  | 6, _, _ => exact lf_m_6
  | 7, _, _ => exact lf_m_7
  | 8, _, _ => exact lf_m_8
  | 9, _, _ => exact lf_m_9
  | 10, _, _ => exact lf_m_10
  | 11, _, _ => exact lf_m_11
  | 12, _, _ => exact lf_m_12
  | 13, _, _ => exact lf_m_13
  | 14, _, _ => exact lf_m_14
  | 15, _, _ => exact lf_m_15
  | 16, _, _ => exact lf_m_16
  | 17, _, _ => exact lf_m_17
  | 18, _, _ => exact lf_m_18
  | 19, _, _ => exact lf_m_19
  | 20, _, _ => exact lf_m_20
  | 21, _, _ => exact lf_m_21
  | 22, _, _ => exact lf_m_22
  | 23, _, _ => exact lf_m_23
  | 24, _, _ => exact lf_m_24
  | 25, _, _ => exact lf_m_25
  | 26, _, _ => exact lf_m_26
  | 27, _, _ => exact lf_m_27
  | 28, _, _ => exact lf_m_28
  | 29, _, _ => exact lf_m_29
  | 30, _, _ => exact lf_m_30
  | 31, _, _ => exact lf_m_31
  | 32, _, _ => exact lf_m_32
  | 33, _, _ => exact lf_m_33
  | 34, _, _ => exact lf_m_34
  | 35, _, _ => exact lf_m_35
  | 36, _, _ => exact lf_m_36
  | 37, _, _ => exact lf_m_37
  | 38, _, _ => exact lf_m_38
  | 39, _, _ => exact lf_m_39
  | 40, _, _ => exact lf_m_40
  | 41, _, _ => exact lf_m_41
  | 42, _, _ => exact lf_m_42
  | 43, _, _ => exact lf_m_43
  | 44, _, _ => exact lf_m_44
  | 45, _, _ => exact lf_m_45
  | 46, _, _ => exact lf_m_46
  | 47, _, _ => exact lf_m_47
  | 48, _, _ => exact lf_m_48
  | 49, _, _ => exact lf_m_49
  | 50, _, _ => exact lf_m_50
  | 51, _, _ => exact lf_m_51
  | 52, _, _ => exact lf_m_52
  | 53, _, _ => exact lf_m_53
  | 54, _, _ => exact lf_m_54
  | 55, _, _ => exact lf_m_55
  | 56, _, _ => exact lf_m_56
  | 57, _, _ => exact lf_m_57
  | 58, _, _ => exact lf_m_58
  | 59, _, _ => exact lf_m_59
  | 60, _, _ => exact lf_m_60
  | 61, _, _ => exact lf_m_61
  | 62, _, _ => exact lf_m_62
  | 63, _, _ => exact lf_m_63
  | 64, _, _ => exact lf_m_64
  | 65, _, _ => exact lf_m_65
  | 66, _, _ => exact lf_m_66
  | 67, _, _ => exact lf_m_67
  | 68, _, _ => exact lf_m_68
  | 69, _, _ => exact lf_m_69
  | 70, _, _ => exact lf_m_70
  | 71, _, _ => exact lf_m_71
  | 72, _, _ => exact lf_m_72
  | 73, _, _ => exact lf_m_73
  | 74, _, _ => exact lf_m_74
  | 75, _, _ => exact lf_m_75
  | 76, _, _ => exact lf_m_76
  | 77, _, _ => exact lf_m_77
  | 78, _, _ => exact lf_m_78
  | 79, _, _ => exact lf_m_79
  | 80, _, _ => exact lf_m_80
  | 81, _, _ => exact lf_m_81
  | 82, _, _ => exact lf_m_82
  | 83, _, _ => exact lf_m_83
  | 84, _, _ => exact lf_m_84
  | 85, _, _ => exact lf_m_85
  | 86, _, _ => exact lf_m_86
  | 87, _, _ => exact lf_m_87
  | 88, _, _ => exact lf_m_88
  | 89, _, _ => exact lf_m_89
  | 90, _, _ => exact lf_m_90
  | 91, _, _ => exact lf_m_91
  | 92, _, _ => exact lf_m_92
  | 93, _, _ => exact lf_m_93
  | 94, _, _ => exact lf_m_94
  | 95, _, _ => exact lf_m_95
  | 96, _, _ => exact lf_m_96
  | 97, _, _ => exact lf_m_97
  | 98, _, _ => exact lf_m_98
  | 99, _, _ => exact lf_m_99
  | 100, _, _ => exact lf_m_100
  | 101, _, _ => exact lf_m_101
  | 102, _, _ => exact lf_m_102
  | 103, _, _ => exact lf_m_103
  | 104, _, _ => exact lf_m_104
  | 105, _, _ => exact lf_m_105
  | 106, _, _ => exact lf_m_106
  | 107, _, _ => exact lf_m_107
  | 108, _, _ => exact lf_m_108
  | 109, _, _ => exact lf_m_109
  | 110, _, _ => exact lf_m_110
  | 111, _, _ => exact lf_m_111
  | 112, _, _ => exact lf_m_112
  | 113, _, _ => exact lf_m_113
  | 114, _, _ => exact lf_m_114
  | 115, _, _ => exact lf_m_115
  | 116, _, _ => exact lf_m_116
  | 117, _, _ => exact lf_m_117
  | 118, _, _ => exact lf_m_118
  | 119, _, _ => exact lf_m_119
  | 120, _, _ => exact lf_m_120
  | 121, _, _ => exact lf_m_121
  | 122, _, _ => exact lf_m_122
  | 123, _, _ => exact lf_m_123
  | 124, _, _ => exact lf_m_124
  | 125, _, _ => exact lf_m_125
  | 126, _, _ => exact lf_m_126
  | 127, _, _ => exact lf_m_127
  | 128, _, _ => exact lf_m_128
  | 129, _, _ => exact lf_m_129
  | 130, _, _ => exact lf_m_130
  | 131, _, _ => exact lf_m_131
  | 132, _, _ => exact lf_m_132
  | 133, _, _ => exact lf_m_133
  | 134, _, _ => exact lf_m_134
  | 135, _, _ => exact lf_m_135
  | 136, _, _ => exact lf_m_136
  | 137, _, _ => exact lf_m_137
  | 138, _, _ => exact lf_m_138
  | 139, _, _ => exact lf_m_139
  | 140, _, _ => exact lf_m_140
  | 141, _, _ => exact lf_m_141
  | 142, _, _ => exact lf_m_142
  | 143, _, _ => exact lf_m_143
  | 144, _, _ => exact lf_m_144
  | 145, _, _ => exact lf_m_145
  | 146, _, _ => exact lf_m_146
  | 147, _, _ => exact lf_m_147
  | 148, _, _ => exact lf_m_148
  | 149, _, _ => exact lf_m_149
  | 150, _, _ => exact lf_m_150
  | 151, _, _ => exact lf_m_151
  | 152, _, _ => exact lf_m_152
  | 153, _, _ => exact lf_m_153
  | 154, _, _ => exact lf_m_154
  | 155, _, _ => exact lf_m_155
  | 156, _, _ => exact lf_m_156
  | 157, _, _ => exact lf_m_157
  | 158, _, _ => exact lf_m_158
  | 159, _, _ => exact lf_m_159
  | 160, _, _ => exact lf_m_160
  | 161, _, _ => exact lf_m_161
  | 162, _, _ => exact lf_m_162
  | 163, _, _ => exact lf_m_163
  | 164, _, _ => exact lf_m_164
  | 165, _, _ => exact lf_m_165
  | 166, _, _ => exact lf_m_166
  | 167, _, _ => exact lf_m_167
  | 168, _, _ => exact lf_m_168
  | 169, _, _ => exact lf_m_169
  | 170, _, _ => exact lf_m_170
  | 171, _, _ => exact lf_m_171
  | 172, _, _ => exact lf_m_172
  | 173, _, _ => exact lf_m_173
  | 174, _, _ => exact lf_m_174
  | 175, _, _ => exact lf_m_175
  | 176, _, _ => exact lf_m_176
  | 177, _, _ => exact lf_m_177
  | 178, _, _ => exact lf_m_178
  | 179, _, _ => exact lf_m_179
  | 180, _, _ => exact lf_m_180
  | 181, _, _ => exact lf_m_181
  | 182, _, _ => exact lf_m_182
  | 183, _, _ => exact lf_m_183
  | 184, _, _ => exact lf_m_184
  | 185, _, _ => exact lf_m_185
  | 186, _, _ => exact lf_m_186
  | 187, _, _ => exact lf_m_187
  | 188, _, _ => exact lf_m_188
  | 189, _, _ => exact lf_m_189
  | 190, _, _ => exact lf_m_190
  | 191, _, _ => exact lf_m_191
  | 192, _, _ => exact lf_m_192
  | 193, _, _ => exact lf_m_193
  | 194, _, _ => exact lf_m_194
  | 195, _, _ => exact lf_m_195
  | 196, _, _ => exact lf_m_196
  | 197, _, _ => exact lf_m_197
  | 198, _, _ => exact lf_m_198
  | 199, _, _ => exact lf_m_199
  | 200, _, _ => exact lf_m_200
  | 201, _, _ => exact lf_m_201
  | 202, _, _ => exact lf_m_202
  | 203, _, _ => exact lf_m_203
  | 204, _, _ => exact lf_m_204
  | 205, _, _ => exact lf_m_205
  | 206, _, _ => exact lf_m_206
  | 207, _, _ => exact lf_m_207
  | 208, _, _ => exact lf_m_208
  | 209, _, _ => exact lf_m_209
  | 210, _, _ => exact lf_m_210
  | 211, _, _ => exact lf_m_211
  | 212, _, _ => exact lf_m_212
  | 213, _, _ => exact lf_m_213
  | 214, _, _ => exact lf_m_214
  | 215, _, _ => exact lf_m_215
  | 216, _, _ => exact lf_m_216
  | 217, _, _ => exact lf_m_217
  | 218, _, _ => exact lf_m_218
  | 219, _, _ => exact lf_m_219
  | 220, _, _ => exact lf_m_220
  | 221, _, _ => exact lf_m_221
  | 222, _, _ => exact lf_m_222
  | 223, _, _ => exact lf_m_223
  | 224, _, _ => exact lf_m_224
  | 225, _, _ => exact lf_m_225
  | 226, _, _ => exact lf_m_226
  | 227, _, _ => exact lf_m_227
  | 228, _, _ => exact lf_m_228
  | 229, _, _ => exact lf_m_229
  | 230, _, _ => exact lf_m_230
  | 231, _, _ => exact lf_m_231
  | 232, _, _ => exact lf_m_232
  | 233, _, _ => exact lf_m_233
  | 234, _, _ => exact lf_m_234
  | 235, _, hn => exact absurd rfl hn
  | 236, _, _ => exact lf_m_236
  | 237, _, _ => exact lf_m_237
  | 238, _, _ => exact lf_m_238
  | 239, _, _ => exact lf_m_239
  | 240, _, _ => exact lf_m_240
  | 241, _, _ => exact lf_m_241
  | 242, _, _ => exact lf_m_242
  | 243, _, _ => exact lf_m_243
  | 244, _, _ => exact lf_m_244
  | y + 245, hy, _ => exact absurd hy (by omega)
theorem lf_pv_0_5 : LF_pv 0 5 (am_mt.getD 112 (x, code, 4, ret, 0)) := ⟨wd_1226, wd_1227, wd_1228, Or.inl (List.mem_of_getElem? (i := 4) rfl)⟩
theorem lf_pv_0_6 : LF_pv 0 6 (am_mt.getD 233 (x, code, 4, ret, 0)) := ⟨wd_1226, wd_1229, wd_1230, Or.inl (List.mem_of_getElem? (i := 4) rfl)⟩
theorem lf_pv_0_7 : LF_pv 0 7 (am_mt.getD 233 (x, code, 4, ret, 0)) := ⟨wd_1226, wd_1231, wd_1230, Or.inl (List.mem_of_getElem? (i := 4) rfl)⟩
theorem lf_pv_0_8 : LF_pv 0 8 (am_mt.getD 233 (x, code, 4, ret, 0)) := ⟨wd_1226, wd_1232, wd_1230, Or.inl (List.mem_of_getElem? (i := 4) rfl)⟩
theorem lf_pv_0_9 : LF_pv 0 9 (am_mt.getD 233 (x, code, 4, ret, 0)) := ⟨wd_1226, wd_1233, wd_1230, Or.inl (List.mem_of_getElem? (i := 4) rfl)⟩
theorem lf_pv_0_10 : LF_pv 0 10 (am_mt.getD 233 (x, code, 4, ret, 0)) := ⟨wd_1226, wd_1234, wd_1230, Or.inl (List.mem_of_getElem? (i := 4) rfl)⟩
theorem lf_pv_0_11 : LF_pv 0 11 (am_mt.getD 233 (x, code, 4, ret, 0)) := ⟨wd_1226, wd_1235, wd_1230, Or.inl (List.mem_of_getElem? (i := 4) rfl)⟩
theorem lf_pv_1_6 : LF_pv 1 6 (am_mt.getD 118 (x, code, 4, ret, 0)) := ⟨wd_1236, wd_1237, wd_1238, Or.inl (List.mem_of_getElem? (i := 5) rfl)⟩
theorem lf_pv_1_7 : LF_pv 1 7 (am_mt.getD 121 (x, code, 4, ret, 0)) := ⟨wd_1236, wd_1239, wd_1240, Or.inl (List.mem_of_getElem? (i := 5) rfl)⟩
theorem lf_pv_1_8 : LF_pv 1 8 (am_mt.getD 124 (x, code, 4, ret, 0)) := ⟨wd_1236, wd_1241, wd_1242, Or.inl (List.mem_of_getElem? (i := 5) rfl)⟩
theorem lf_pv_1_9 : LF_pv 1 9 (am_mt.getD 127 (x, code, 4, ret, 0)) := ⟨wd_1236, wd_1243, wd_1244, Or.inl (List.mem_of_getElem? (i := 5) rfl)⟩
theorem lf_pv_1_10 : LF_pv 1 10 (am_mt.getD 130 (x, code, 4, ret, 0)) := ⟨wd_1236, wd_1245, wd_1246, Or.inl (List.mem_of_getElem? (i := 5) rfl)⟩
theorem lf_pv_1_11 : LF_pv 1 11 (am_mt.getD 133 (x, code, 4, ret, 0)) := ⟨wd_1236, wd_1247, wd_1248, Or.inl (List.mem_of_getElem? (i := 5) rfl)⟩
theorem lf_pv_2_6 : LF_pv 2 6 (am_mt.getD 119 (x, code, 4, ret, 0)) := ⟨wd_1249, wd_1250, wd_797, Or.inl (List.mem_of_getElem? (i := 7) rfl)⟩
theorem lf_pv_2_7 : LF_pv 2 7 (am_mt.getD 122 (x, code, 4, ret, 0)) := ⟨wd_1249, wd_1251, wd_1252, Or.inl (List.mem_of_getElem? (i := 7) rfl)⟩
theorem lf_pv_2_8 : LF_pv 2 8 (am_mt.getD 125 (x, code, 4, ret, 0)) := ⟨wd_1249, wd_1253, wd_1254, Or.inl (List.mem_of_getElem? (i := 7) rfl)⟩
theorem lf_pv_2_9 : LF_pv 2 9 (am_mt.getD 128 (x, code, 4, ret, 0)) := ⟨wd_1249, wd_1255, wd_1256, Or.inl (List.mem_of_getElem? (i := 7) rfl)⟩
theorem lf_pv_2_10 : LF_pv 2 10 (am_mt.getD 131 (x, code, 4, ret, 0)) := ⟨wd_1249, wd_1257, wd_1258, Or.inl (List.mem_of_getElem? (i := 7) rfl)⟩
theorem lf_pv_2_11 : LF_pv 2 11 (am_mt.getD 135 (x, code, 4, ret, 0)) := ⟨wd_1249, wd_1259, wd_1260, Or.inl (List.mem_of_getElem? (i := 7) rfl)⟩
theorem lf_pv_3_6 : LF_pv 3 6 (am_mt.getD 232 (x, code, 4, ret, 0)) := ⟨wd_1262, wd_1263, wd_1261, Or.inr ⟨wd_1261, _, _, _, wd_1117⟩⟩
theorem lf_pv_3_7 : LF_pv 3 7 (am_mt.getD 232 (x, code, 4, ret, 0)) := ⟨wd_1262, wd_1264, wd_1261, Or.inr ⟨wd_1261, _, _, _, wd_1117⟩⟩
theorem lf_pv_3_8 : LF_pv 3 8 (am_mt.getD 232 (x, code, 4, ret, 0)) := ⟨wd_1262, wd_1265, wd_1261, Or.inr ⟨wd_1261, _, _, _, wd_1117⟩⟩
theorem lf_pv_3_9 : LF_pv 3 9 (am_mt.getD 232 (x, code, 4, ret, 0)) := ⟨wd_1262, wd_1266, wd_1261, Or.inr ⟨wd_1261, _, _, _, wd_1117⟩⟩
theorem lf_pv_3_10 : LF_pv 3 10 (am_mt.getD 232 (x, code, 4, ret, 0)) := ⟨wd_1262, wd_1267, wd_1261, Or.inr ⟨wd_1261, _, _, _, wd_1117⟩⟩
theorem lf_pv_3_11 : LF_pv 3 11 (am_mt.getD 134 (x, code, 4, ret, 0)) := ⟨wd_1262, wd_1268, wd_1269, Or.inr ⟨wd_1261, _, _, _, wd_1117⟩⟩
theorem lf_pv_4_6 : LF_pv 4 6 (am_mt.getD 234 (x, code, 4, ret, 0)) := ⟨wd_1271, wd_1272, wd_1270, Or.inr ⟨wd_1270, _, _, _, wd_1119⟩⟩
theorem lf_pv_4_7 : LF_pv 4 7 (am_mt.getD 234 (x, code, 4, ret, 0)) := ⟨wd_1271, wd_1273, wd_1270, Or.inr ⟨wd_1270, _, _, _, wd_1119⟩⟩
theorem lf_pv_4_8 : LF_pv 4 8 (am_mt.getD 234 (x, code, 4, ret, 0)) := ⟨wd_1271, wd_1274, wd_1270, Or.inr ⟨wd_1270, _, _, _, wd_1119⟩⟩
theorem lf_pv_4_9 : LF_pv 4 9 (am_mt.getD 234 (x, code, 4, ret, 0)) := ⟨wd_1271, wd_1275, wd_1270, Or.inr ⟨wd_1270, _, _, _, wd_1119⟩⟩
theorem lf_pv_4_10 : LF_pv 4 10 (am_mt.getD 234 (x, code, 4, ret, 0)) := ⟨wd_1271, wd_1276, wd_1270, Or.inr ⟨wd_1270, _, _, _, wd_1119⟩⟩
theorem lf_pv_4_11 : LF_pv 4 11 (am_mt.getD 234 (x, code, 4, ret, 0)) := ⟨wd_1271, wd_1277, wd_1270, Or.inr ⟨wd_1270, _, _, _, wd_1119⟩⟩
theorem lf_pv : ∀ j, j < 5 → ∀ c, c < 13 → am_vt (500 + j) c ≠ 0 → LF_pv j c (am_mt.getD (am_vt (500 + j) c) (x, code, 4, ret, 0)) := by
  intro j hj c hc h
  match j, hj, c, hc, h with
  | 0, _, 0, _, h => exact absurd rfl h
  | 0, _, 1, _, h => exact absurd rfl h
  | 0, _, 2, _, h => exact absurd rfl h
  | 0, _, 3, _, h => exact absurd rfl h
  | 0, _, 4, _, h => exact absurd rfl h
  | 0, _, 5, _, _ => exact lf_pv_0_5
  | 0, _, 6, _, _ => exact lf_pv_0_6
  | 0, _, 7, _, _ => exact lf_pv_0_7
  | 0, _, 8, _, _ => exact lf_pv_0_8
  | 0, _, 9, _, _ => exact lf_pv_0_9
  | 0, _, 10, _, _ => exact lf_pv_0_10
  | 0, _, 11, _, _ => exact lf_pv_0_11
  | 0, _, 12, _, h => exact absurd rfl h
  | 1, _, 0, _, h => exact absurd rfl h
  | 1, _, 1, _, h => exact absurd rfl h
  | 1, _, 2, _, h => exact absurd rfl h
  | 1, _, 3, _, h => exact absurd rfl h
  | 1, _, 4, _, h => exact absurd rfl h
  | 1, _, 5, _, h => exact absurd rfl h
  | 1, _, 6, _, _ => exact lf_pv_1_6
  | 1, _, 7, _, _ => exact lf_pv_1_7
  | 1, _, 8, _, _ => exact lf_pv_1_8
  | 1, _, 9, _, _ => exact lf_pv_1_9
  | 1, _, 10, _, _ => exact lf_pv_1_10
  | 1, _, 11, _, _ => exact lf_pv_1_11
  | 1, _, 12, _, h => exact absurd rfl h
  | 2, _, 0, _, h => exact absurd rfl h
  | 2, _, 1, _, h => exact absurd rfl h
  | 2, _, 2, _, h => exact absurd rfl h
  | 2, _, 3, _, h => exact absurd rfl h
  | 2, _, 4, _, h => exact absurd rfl h
  | 2, _, 5, _, h => exact absurd rfl h
  | 2, _, 6, _, _ => exact lf_pv_2_6
  | 2, _, 7, _, _ => exact lf_pv_2_7
  | 2, _, 8, _, _ => exact lf_pv_2_8
  | 2, _, 9, _, _ => exact lf_pv_2_9
  | 2, _, 10, _, _ => exact lf_pv_2_10
  | 2, _, 11, _, _ => exact lf_pv_2_11
  | 2, _, 12, _, h => exact absurd rfl h
  | 3, _, 0, _, h => exact absurd rfl h
  | 3, _, 1, _, h => exact absurd rfl h
  | 3, _, 2, _, h => exact absurd rfl h
  | 3, _, 3, _, h => exact absurd rfl h
  | 3, _, 4, _, h => exact absurd rfl h
  | 3, _, 5, _, h => exact absurd rfl h
  | 3, _, 6, _, _ => exact lf_pv_3_6
  | 3, _, 7, _, _ => exact lf_pv_3_7
  | 3, _, 8, _, _ => exact lf_pv_3_8
  | 3, _, 9, _, _ => exact lf_pv_3_9
  | 3, _, 10, _, _ => exact lf_pv_3_10
  | 3, _, 11, _, _ => exact lf_pv_3_11
  | 3, _, 12, _, h => exact absurd rfl h
  | 4, _, 0, _, h => exact absurd rfl h
  | 4, _, 1, _, h => exact absurd rfl h
  | 4, _, 2, _, h => exact absurd rfl h
  | 4, _, 3, _, h => exact absurd rfl h
  | 4, _, 4, _, h => exact absurd rfl h
  | 4, _, 5, _, h => exact absurd rfl h
  | 4, _, 6, _, _ => exact lf_pv_4_6
  | 4, _, 7, _, _ => exact lf_pv_4_7
  | 4, _, 8, _, _ => exact lf_pv_4_8
  | 4, _, 9, _, _ => exact lf_pv_4_9
  | 4, _, 10, _, _ => exact lf_pv_4_10
  | 4, _, 11, _, _ => exact lf_pv_4_11
  | 4, _, 12, _, h => exact absurd rfl h
  | j, hj, c + 13, hc, _ => exact absurd hc (by omega)
  | j + 5, hj, c, hc, _ => exact absurd hj (by omega)
theorem wx_init : (Cond.instanceMethod ⟨"java/lang/Object", "<init>", "()V"⟩ : Cond) ∈ lwG := wd_1278
theorem wx_acs : (Cond.static ⟨"java/lang/System", "arraycopy", "(Ljava/lang/Object;ILjava/lang/Object;II)V"⟩ : Cond) ∈ lwG := wd_1279
theorem wx_sys : (Cond.initialized "java/lang/System" : Cond) ∈ lwG := wd_1280
theorem wx_ai : (Cond.arrayClass .int : Cond) ∈ lwG := wd_1281
theorem wx_al : (Cond.arrayClass .long : Cond) ∈ lwG := wd_1282
theorem wx_ab : (Cond.arrayClass .byte : Cond) ∈ lwG := wd_1283
theorem wx_str : (Cond.initialized "java/lang/String" : Cond) ∈ lwG := wd_1124
