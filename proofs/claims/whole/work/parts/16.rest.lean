theorem wx_initc : Cond.code objectInit ⟨#[0xb1]⟩ 1 none ∈ lwG := lw_at (i := 95) (by decide +kernel) (by decide +kernel)
theorem sd_castok : ((List.range 8).all fun t => (List.range 12).all fun k => decide (k < 5) || (decide (k < (am_ir t).1) || (decide ((am_ir t).2 < k) || (decide ((sd_cl.getD k ("", cT_1, 0)).1 = sd_in t) || decide (Cond.castable (sd_cl.getD k ("", cT_1, 0)).1 (sd_in t) ∈ sd_nw))))) = true := by decide +kernel
theorem sd_cast {t k : Nat} (ht : t < 8) (h1 : 5 ≤ k) (h2 : k ≤ 11) (h3 : (am_ir t).1 ≤ k) (h4 : k ≤ (am_ir t).2) : (sd_cl.getD k ("", cT_1, 0)).1 = sd_in t ∨ Cond.castable (sd_cl.getD k ("", cT_1, 0)).1 (sd_in t) ∈ sd_nw := by
  have h9 := List.all_eq_true.mp (List.all_eq_true.mp sd_castok t (List.mem_range.mpr ht)) k (List.mem_range.mpr (by omega))
  simp only [Bool.or_eq_true, decide_eq_true_eq] at h9
  rcases h9 with z | z | z | z | z
  · omega
  · omega
  · omega
  · exact Or.inl z
  · exact Or.inr z
theorem sd_ncok {t k : Nat} (ht : t < 8) (h1 : 5 ≤ k) (h2 : k ≤ 11) (h3 : k < (am_ir t).1 ∨ (am_ir t).2 < k) : (k, t) ∈ sd_nc := by
  unfold sd_nc
  refine List.mem_flatMap.mpr ⟨t, List.mem_range.mpr ht, List.mem_map.mpr ⟨k, List.mem_filter.mpr ⟨List.mem_range.mpr (by omega), ?_⟩, rfl⟩⟩
  simp only [Bool.and_eq_true, Bool.or_eq_true, decide_eq_true_eq]
  exact ⟨h1, h3⟩
theorem sd_nat : nativeFrameWords "java/lang/System" "arraycopy" 5 + 11 ≤ 90 := by decide +kernel
section SI
variable {dC : Nat → ClassId} {dI : Nat → Nat → Nat} {dA : Nat → ClassId} {s0 : Nat} {sv : Nat → Value} {p : Program} {l : Launch} {e : Env} {R : Room} {s : State} {m : MethodId} {args : Array Value} {below : List Frame} {meth : Method} {c : Code} {q : am_M} {n0 q0 : Nat} {Z : State → Prop} {h : am_H} {pc : Nat} {ls st : List Value}
theorem sd_instanceof {a t idx : Nat} (C : sd_Cx dC dI dA s0 sv p s m args meth c q n0) (hd : decode q.2.1 pc = .ok (.instanceof idx, 3)) (ht : t < 8) (hcl : Cond.classLink (am_on q.2.2.2.2) idx (sd_in t) ∈ lwG) (hk : a = 0 ∨ 5 ≤ am_k h a ∧ am_k h a ≤ 11) (k : sd_W dC dI dA s0 sv p l e R s m args below meth c q n0 q0 Z h (pc + 3) ls (.int (if a ≠ 0 ∧ (am_ir t).1 ≤ am_k h a ∧ am_k h a ≤ (am_ir t).2 then 1 else 0) :: st)) : sd_W dC dI dA s0 sv p l e R s m args below meth c q n0 q0 Z h pc ls (.ref a :: st) := by
  intro H locs lsC hS hL hz
  have k1 := k H locs lsC hS hL hz
  show W _ _ _ _ _ _ _ _ _ _ _ _ _ _ _ (F0 m pc lsC (sd_c s0 sv a :: st.map (sd_V s0 sv)))
  change W _ _ _ _ _ _ _ _ _ _ _ _ _ _ _ (F0 m (pc + 3) lsC (.int (if a ≠ 0 ∧ (am_ir t).1 ≤ am_k h a ∧ am_k h a ≤ (am_ir t).2 then 1 else 0) :: st.map (sd_V s0 sv))) at k1
  by_cases e0 : a = 0
  · rw [if_neg (fun z => z.1 e0)] at k1
    rw [e0, sd_c_0 (sd_Cv C)]
    exact lv_instN C.1 C.2.1 hd k1
  · have hk2 : 5 ≤ am_k h a ∧ am_k h a ≤ 11 := by rcases hk with z | z; exact absurd z e0; exact z
    obtain ⟨h1, h2⟩ := sd_hi hS.2.2.1 (r := a) (by omega) (by omega)
    rw [sd_c_hi h1]
    have hrec := va_recv C.2.2.2.2.2.2.1.1 hS.1 (sd_clget (show am_k h a < 13 by omega)) ((sd_w_r h1 h2).trans (by rw [sd_E_o (by omega)]))
    by_cases hr : (am_ir t).1 ≤ am_k h a ∧ am_k h a ≤ (am_ir t).2
    · rw [if_pos ⟨e0, hr⟩] at k1
      rcases sd_cast ht hk2.1 hk2.2 hr.1 hr.2 with z | z
      · have hca := (C.2.2.2.2.2.2.1.1.1 _ _ (sd_clget (show am_k h a < 13 by omega))).2
        rw [z] at hca hrec
        exact va_instS C.1 C.2.1 C.2.2.2.1 (C.2.2.2.2.1 _ hcl) hca hrec hd k1
      · exact va_instY C.1 C.2.1 C.2.2.2.1 (C.2.2.2.2.1 _ hcl) (C.2.2.2.2.2.2.1.2.2.2.2.2.1 _ z) hrec hd k1
    · rw [if_neg (fun z => hr z.2)] at k1
      exact va_instNo C.1 C.2.1 C.2.2.2.1 (C.2.2.2.2.1 _ hcl) (C.2.2.2.2.2.2.1.2.2.2.2.2.2.1 (am_k h a, t) (sd_ncok ht hk2.1 hk2.2 (by omega))) hrec hd k1
theorem sd_checkcast {a t idx : Nat} (C : sd_Cx dC dI dA s0 sv p s m args meth c q n0) (hd : decode q.2.1 pc = .ok (.checkcast idx, 3)) (ht : t < 8) (hcl : Cond.classLink (am_on q.2.2.2.2) idx (sd_in t) ∈ lwG) (hr : (am_ir t).1 ≤ am_k h a ∧ am_k h a ≤ (am_ir t).2) (hk2 : 5 ≤ am_k h a ∧ am_k h a ≤ 11) (k : sd_W dC dI dA s0 sv p l e R s m args below meth c q n0 q0 Z h (pc + 3) ls (.ref a :: st)) : sd_W dC dI dA s0 sv p l e R s m args below meth c q n0 q0 Z h pc ls (.ref a :: st) := by
  intro H locs lsC hS hL hz
  have k1 := k H locs lsC hS hL hz
  show W _ _ _ _ _ _ _ _ _ _ _ _ _ _ _ (F0 m pc lsC (sd_c s0 sv a :: st.map (sd_V s0 sv)))
  change W _ _ _ _ _ _ _ _ _ _ _ _ _ _ _ (F0 m (pc + 3) lsC (sd_c s0 sv a :: st.map (sd_V s0 sv))) at k1
  obtain ⟨h1, h2⟩ := sd_hi hS.2.2.1 (r := a) (by omega) (by omega)
  rw [sd_c_hi h1] at k1 ⊢
  have hrec := va_recv C.2.2.2.2.2.2.1.1 hS.1 (sd_clget (show am_k h a < 13 by omega)) ((sd_w_r h1 h2).trans (by rw [sd_E_o (by omega)]))
  rcases sd_cast ht hk2.1 hk2.2 hr.1 hr.2 with z | z
  · have hca := (C.2.2.2.2.2.2.1.1.1 _ _ (sd_clget (show am_k h a < 13 by omega))).2
    rw [z] at hca hrec
    exact va_castS C.1 C.2.1 C.2.2.2.1 (C.2.2.2.2.1 _ hcl) hca hrec hd k1
  · exact va_castY C.1 C.2.1 C.2.2.2.1 (C.2.2.2.2.1 _ hcl) (C.2.2.2.2.2.2.1.2.2.2.2.2.1 _ z) hrec hd k1
theorem sd_objInit {a idx : Nat} (C : sd_Cx dC dI dA s0 sv p s m args meth c q n0) (hd : decode q.2.1 pc = .ok (.invokespecial idx, 3)) (hcl : Cond.methodLink (am_on q.2.2.2.2) idx objectInit ∈ lwG) (ha : a ≠ 0) (hw : am_wt st ≤ 8) (hR1 : 1 ≤ R.frames) (hR2 : 20 ≤ R.locals) (k : sd_W dC dI dA s0 sv p l e R s m args below meth c q n0 q0 Z h (pc + 3) ls st) : sd_W dC dI dA s0 sv p l e R s m args below meth c q n0 q0 Z h pc ls (.ref a :: st) := by
  intro H locs lsC hS hL hz
  have k1 := k H locs lsC hS hL hz
  show W _ _ _ _ _ _ _ _ _ _ _ _ _ _ _ (F0 m pc lsC (sd_c s0 sv a :: st.map (sd_V s0 sv)))
  obtain ⟨b, eb⟩ := sd_c_nz (s0 := s0) (sd_Cv C) ha
  rw [eb]
  have hw2 := sd_wt (s0 := s0) (sd_Cv C) st
  exact W.objInit C.1 C.2.1 C.2.2.2.1 (C.2.2.2.2.1 _ hcl) (C.2.2.2.2.1 _ wx_init) (C.2.2.2.2.1 _ wx_initc) rfl (by rw [C.2.2.1]; exact hz) rfl hd hR1 (by show 2 * 0 + _ + 12 ≤ _; omega) k1
theorem sd_cpyi {n dp sp : Int32} {a b idx : Nat} (C : sd_Cx dC dI dA s0 sv p s m args meth c q n0) (hd : decode q.2.1 pc = .ok (.invokestatic idx, 3)) (hcl : Cond.methodLink (am_on q.2.2.2.2) idx arraycopyName ∈ lwG) (hw : am_wt st ≤ 8) (h1 : 0 ≤ n.toInt) (h2 : 0 ≤ dp.toInt) (h3 : 0 ≤ sp.toInt) (h4 : sp.toNatClampNeg + n.toNatClampNeg ≤ am_n h a) (h5 : dp.toNatClampNeg + n.toNatClampNeg ≤ am_n h b) (ka : am_k h a = 20) (kb : am_k h b = 20) (hR1 : 1 ≤ R.frames) (hR2 : 100 ≤ R.locals) (k : sd_W dC dI dA s0 sv p l e R s m args below meth c q n0 q0 Z (am_u1 h.1 b (va_cpy (h.1 a) (h.1 b) sp.toNatClampNeg dp.toNatClampNeg n.toNatClampNeg), h.2) (pc + 3) ls st) : sd_W dC dI dA s0 sv p l e R s m args below meth c q n0 q0 Z h pc ls (.int n :: .int dp :: .ref b :: .int sp :: .ref a :: st) := by
  intro H locs lsC hS hL hz
  obtain ⟨a1, a2⟩ := sd_hi hS.2.2.1 (r := a) (by omega) (by omega)
  obtain ⟨b1, b2⟩ := sd_hi hS.2.2.1 (r := b) (by omega) (by omega)
  show W _ _ _ _ _ _ _ _ _ _ _ _ _ _ _ (F0 m pc lsC (.int n :: .int dp :: sd_c s0 sv b :: .int sp :: sd_c s0 sv a :: st.map (sd_V s0 sv)))
  rw [sd_c_hi a1, sd_c_hi b1]
  have hneg : ∀ z : Int32, 0 ≤ z.toInt → ¬ z < 0 := fun z hz1 hz2 => by rw [Int32.lt_iff_toInt_lt] at hz2; exact absurd hz2 (by simpa using hz1)
  have hw2 := sd_wt (s0 := s0) (sd_Cv C) st
  have hnat := sd_nat
  refine va_copyi C.1 C.2.1 (C.2.2.1.trans hz.symm) C.2.2.2.1 (C.2.2.2.2.1 _ hcl) C.2.2.2.2.2.2.1.2.2.2.2.2.2.2.2.2.2.1 (C.2.2.2.2.1 _ wx_acs) (C.2.2.2.2.1 _ wx_sys) C.2.2.2.2.2.2.1.1 hS.1 sd_D hS.2.1 (a - 32) (b - 32) 0 0 ((sd_w_r a1 a2).trans (by rw [sd_E_i ka])) ((sd_w_r b1 b2).trans (by rw [sd_E_i kb])) rfl rfl rfl (hneg _ h3) (hneg _ h2) (hneg _ h1) h4 h5 (fun _ _ => rfl) hR1 (by omega) hd (fun H1 locs1 hP1 _ hS1 => ?_)
  exact k H1 locs1 lsC (sd_St_set hS b1 rfl rfl (fun r hr => ⟨am_u1_n _ _ hr, rfl, rfl, rfl⟩) hP1 (by rw [sd_E_i (show am_k (am_u1 h.1 b (va_cpy (h.1 a) (h.1 b) sp.toNatClampNeg dp.toNatClampNeg n.toNatClampNeg), h.2) b = 20 from kb)]; show Sum.inl (dA 20, am_n h b, Sum.inl (am_u1 h.1 b _ b)) = _; rw [am_u1_s]) hS1) hL hz
theorem sd_cpyj {n dp sp : Int32} {a b idx : Nat} (C : sd_Cx dC dI dA s0 sv p s m args meth c q n0) (hd : decode q.2.1 pc = .ok (.invokestatic idx, 3)) (hcl : Cond.methodLink (am_on q.2.2.2.2) idx arraycopyName ∈ lwG) (hw : am_wt st ≤ 8) (h1 : 0 ≤ n.toInt) (h2 : 0 ≤ dp.toInt) (h3 : 0 ≤ sp.toInt) (h4 : sp.toNatClampNeg + n.toNatClampNeg ≤ am_n h a) (h5 : dp.toNatClampNeg + n.toNatClampNeg ≤ am_n h b) (ka : am_k h a = 21) (kb : am_k h b = 21) (hR1 : 1 ≤ R.frames) (hR2 : 100 ≤ R.locals) (k : sd_W dC dI dA s0 sv p l e R s m args below meth c q n0 q0 Z (h.1, am_u1 h.2.1 b (va_cpy (h.2.1 a) (h.2.1 b) sp.toNatClampNeg dp.toNatClampNeg n.toNatClampNeg), h.2.2) (pc + 3) ls st) : sd_W dC dI dA s0 sv p l e R s m args below meth c q n0 q0 Z h pc ls (.int n :: .int dp :: .ref b :: .int sp :: .ref a :: st) := by
  intro H locs lsC hS hL hz
  obtain ⟨a1, a2⟩ := sd_hi hS.2.2.1 (r := a) (by omega) (by omega)
  obtain ⟨b1, b2⟩ := sd_hi hS.2.2.1 (r := b) (by omega) (by omega)
  show W _ _ _ _ _ _ _ _ _ _ _ _ _ _ _ (F0 m pc lsC (.int n :: .int dp :: sd_c s0 sv b :: .int sp :: sd_c s0 sv a :: st.map (sd_V s0 sv)))
  rw [sd_c_hi a1, sd_c_hi b1]
  have hneg : ∀ z : Int32, 0 ≤ z.toInt → ¬ z < 0 := fun z hz1 hz2 => by rw [Int32.lt_iff_toInt_lt] at hz2; exact absurd hz2 (by simpa using hz1)
  have hw2 := sd_wt (s0 := s0) (sd_Cv C) st
  have hnat := sd_nat
  refine va_copyl C.1 C.2.1 (C.2.2.1.trans hz.symm) C.2.2.2.1 (C.2.2.2.2.1 _ hcl) C.2.2.2.2.2.2.1.2.2.2.2.2.2.2.2.2.2.1 (C.2.2.2.2.1 _ wx_acs) (C.2.2.2.2.1 _ wx_sys) C.2.2.2.2.2.2.1.1 hS.1 sd_D hS.2.1 (a - 32) (b - 32) 1 1 ((sd_w_r a1 a2).trans (by rw [sd_E_j ka])) ((sd_w_r b1 b2).trans (by rw [sd_E_j kb])) rfl rfl rfl (hneg _ h3) (hneg _ h2) (hneg _ h1) h4 h5 (fun _ _ => rfl) hR1 (by omega) hd (fun H1 locs1 hP1 _ hS1 => ?_)
  exact k H1 locs1 lsC (sd_St_set hS b1 rfl rfl (fun r hr => ⟨rfl, am_u1_n _ _ hr, rfl, rfl⟩) hP1 (by rw [sd_E_j (show am_k (h.1, am_u1 h.2.1 b (va_cpy (h.2.1 a) (h.2.1 b) sp.toNatClampNeg dp.toNatClampNeg n.toNatClampNeg), h.2.2) b = 21 from kb)]; show Sum.inl (dA 21, am_n h b, Sum.inr <| Sum.inl (am_u1 h.2.1 b _ b)) = _; rw [am_u1_s]) hS1) hL hz
theorem sd_strv {a idx : Nat} (C : sd_Cx dC dI dA s0 sv p s m args meth c q n0) (hd : decode q.2.1 pc = .ok (.getfield idx, 3)) (hcl : Cond.fieldLink (am_on q.2.2.2.2) idx "java/lang/String" "value" "[B" ∈ lwG) (hk : am_k h a = 40) (k : sd_W dC dI dA s0 sv p l e R s m args below meth c q n0 q0 Z h (pc + 3) ls (.ref (h.2.2.1 a 0) :: st)) : sd_W dC dI dA s0 sv p l e R s m args below meth c q n0 q0 Z h pc ls (.ref a :: st) := by
  intro H locs lsC hS hL hz
  have k1 := k H locs lsC hS hL hz
  show W _ _ _ _ _ _ _ _ _ _ _ _ _ _ _ (F0 m pc lsC (sd_c s0 sv a :: st.map (sd_V s0 sv)))
  have h1 := sd_lo hS.2.2.1 (r := a) (by omega)
  obtain ⟨t, e1, -, -, hv⟩ := (hS.2.2.2.1 a h1).2.2 hk
  rw [sd_c_lo h1, e1]
  exact vk_getf C.1 C.2.1 hv hS.2.1 C.2.2.2.1 (C.2.2.2.2.1 _ hcl) (fun _ z => z) hd k1
theorem sd_strc {a idx : Nat} (C : sd_Cx dC dI dA s0 sv p s m args meth c q n0) (hd : decode q.2.1 pc = .ok (.getfield idx, 3)) (hcl : Cond.fieldLink (am_on q.2.2.2.2) idx "java/lang/String" "coder" "B" ∈ lwG) (hk : am_k h a = 40) (k : sd_W dC dI dA s0 sv p l e R s m args below meth c q n0 q0 Z h (pc + 3) ls (.int 0 :: st)) : sd_W dC dI dA s0 sv p l e R s m args below meth c q n0 q0 Z h pc ls (.ref a :: st) := by
  intro H locs lsC hS hL hz
  have k1 := k H locs lsC hS hL hz
  show W _ _ _ _ _ _ _ _ _ _ _ _ _ _ _ (F0 m pc lsC (sd_c s0 sv a :: st.map (sd_V s0 sv)))
  have h1 := sd_lo hS.2.2.1 (r := a) (by omega)
  obtain ⟨t, e1, -, hv, -⟩ := (hS.2.2.2.1 a h1).2.2 hk
  rw [sd_c_lo h1, e1]
  exact vk_getf C.1 C.2.1 hv hS.2.1 C.2.2.2.1 (C.2.2.2.2.1 _ hcl) (fun _ z => z) hd k1
theorem sd_gs_step {idx : Nat} (C : sd_Cx dC dI dA s0 sv p s m args meth c q n0) (hd : decode q.2.1 pc = .ok (.getstatic idx, 3)) (hcl : Cond.fieldLink (am_on q.2.2.2.2) idx "ThreeSizes$Wall" "STEP" "[I" ∈ lwG) (k : sd_W dC dI dA s0 sv p l e R s m args below meth c q n0 q0 Z h (pc + 3) ls (.ref 1 :: st)) : sd_W dC dI dA s0 sv p l e R s m args below meth c q n0 q0 Z h pc ls st := by
  intro H locs lsC hS hL hz
  exact va_gets C.1 C.2.1 (C.2.2.2.2.2.2.1.2.1) hS.2.1 C.2.2.2.1 (C.2.2.2.2.1 _ hcl) (fun _ z => z) hd (k H locs lsC hS hL hz)
theorem sd_gs_comp {idx : Nat} (C : sd_Cx dC dI dA s0 sv p s m args meth c q n0) (hd : decode q.2.1 pc = .ok (.getstatic idx, 3)) (hcl : Cond.fieldLink (am_on q.2.2.2.2) idx "java/lang/String" "COMPACT_STRINGS" "Z" ∈ lwG) (k : sd_W dC dI dA s0 sv p l e R s m args below meth c q n0 q0 Z h (pc + 3) ls (.int 1 :: st)) : sd_W dC dI dA s0 sv p l e R s m args below meth c q n0 q0 Z h pc ls st := by
  intro H locs lsC hS hL hz
  exact va_gets C.1 C.2.1 (C.2.2.2.2.2.2.1.2.2.1) hS.2.1 C.2.2.2.1 (C.2.2.2.2.1 _ hcl) (fun _ z => z) hd (k H locs lsC hS hL hz)
theorem sd_gs_form {idx : Nat} (C : sd_Cx dC dI dA s0 sv p s m args meth c q n0) (hd : decode q.2.1 pc = .ok (.getstatic idx, 3)) (hcl : Cond.fieldLink (am_on q.2.2.2.2) idx "jdk/internal/util/Preconditions" "SIOOBE_FORMATTER" "Ljava/util/function/BiFunction;" ∈ lwG) (k : sd_W dC dI dA s0 sv p l e R s m args below meth c q n0 q0 Z h (pc + 3) ls (.float 0 :: st)) : sd_W dC dI dA s0 sv p l e R s m args below meth c q n0 q0 Z h pc ls st := by
  intro H locs lsC hS hL hz
  exact va_gets C.1 C.2.1 (C.2.2.2.2.2.2.1.2.2.2.1) hS.2.1 C.2.2.2.1 (C.2.2.2.2.1 _ hcl) (fun _ z => z) hd (k H locs lsC hS hL hz)
theorem sd_ldc {idx : Nat} {v : Int32} (C : sd_Cx dC dI dA s0 sv p s m args meth c q n0) (hd : decode q.2.1 pc = .ok (.ldc idx, 2)) (hcl : Cond.constant (am_on q.2.2.2.2) idx v ∈ lwG) (k : sd_W dC dI dA s0 sv p l e R s m args below meth c q n0 q0 Z h (pc + 2) ls (.int v :: st)) : sd_W dC dI dA s0 sv p l e R s m args below meth c q n0 q0 Z h pc ls st := fun H locs lsC hS hL hz => lv_ldc C.1 C.2.1 C.2.2.2.1 (C.2.2.2.2.1 _ hcl) hd (k H locs lsC hS hL hz)
theorem sd_ldcw {idx : Nat} {v : Int32} (C : sd_Cx dC dI dA s0 sv p s m args meth c q n0) (hd : decode q.2.1 pc = .ok (.ldc_w idx, 3)) (hcl : Cond.constant (am_on q.2.2.2.2) idx v ∈ lwG) (k : sd_W dC dI dA s0 sv p l e R s m args below meth c q n0 q0 Z h (pc + 3) ls (.int v :: st)) : sd_W dC dI dA s0 sv p l e R s m args below meth c q n0 q0 Z h pc ls st := fun H locs lsC hS hL hz => lv_ldcw C.1 C.2.1 C.2.2.2.1 (C.2.2.2.2.1 _ hcl) hd (k H locs lsC hS hL hz)
theorem sd_ldc2 {idx : Nat} {v : Int64} (C : sd_Cx dC dI dA s0 sv p s m args meth c q n0) (hd : decode q.2.1 pc = .ok (.ldc2_w idx, 3)) (hcl : Cond.constantLong (am_on q.2.2.2.2) idx v ∈ lwG) (k : sd_W dC dI dA s0 sv p l e R s m args below meth c q n0 q0 Z h (pc + 3) ls (.long v :: st)) : sd_W dC dI dA s0 sv p l e R s m args below meth c q n0 q0 Z h pc ls st := fun H locs lsC hS hL hz => lv_ldc2 C.1 C.2.1 C.2.2.2.1 (C.2.2.2.2.1 _ hcl) hd (k H locs lsC hS hL hz)
theorem sd_strlt : ∀ w ∈ sd_str, w.2.2.2 < 32 := by decide +kernel
theorem sd_ldcs {idx i : Nat} {tx : String} (C : sd_Cx dC dI dA s0 sv p s m args meth c q n0) (hd : decode q.2.1 pc = .ok (.ldc idx, 2)) (hm : (am_on q.2.2.2.2, idx, tx, i) ∈ sd_str) (k : sd_W dC dI dA s0 sv p l e R s m args below meth c q n0 q0 Z h (pc + 2) ls (.ref i :: st)) : sd_W dC dI dA s0 sv p l e R s m args below meth c q n0 q0 Z h pc ls st := by
  intro H locs lsC hS hL hz
  have k1 := k H locs lsC hS hL hz
  obtain ⟨a, e1, hv⟩ := C.2.2.2.2.2.2.1.2.2.2.2.1 _ hm
  change W _ _ _ _ _ _ _ _ _ _ _ _ _ _ _ (F0 m (pc + 2) lsC (sd_c s0 sv i :: st.map (sd_V s0 sv))) at k1
  rw [sd_c_lo (sd_strlt _ hm), show sv i = .ref a from e1] at k1
  exact va_ldcS C.1 C.2.1 C.2.2.2.1 hv hd k1
end SI
