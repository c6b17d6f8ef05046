theorem am_rcok : ((List.range 245).all fun y => decide (am_rc.getD y 0 = 0) || ((decide (1 ≤ am_rc.getD y 0) && (decide (am_rc.getD y 0 ≤ 12) && decide ((am_q y).1.cls = (sd_cl.getD (am_rc.getD y 0) ("", cT_1, 0)).1))) || (decide (am_rc.getD y 0 = 40) && decide ((am_q y).1.cls = "java/lang/String")))) = true := by decide +kernel
theorem am_rcf {y : Nat} (hy : y < 245) (h0 : am_rc.getD y 0 ≠ 0) : (1 ≤ am_rc.getD y 0 ∧ am_rc.getD y 0 ≤ 12 ∧ (am_q y).1.cls = (sd_cl.getD (am_rc.getD y 0) ("", cT_1, 0)).1) ∨ (am_rc.getD y 0 = 40 ∧ (am_q y).1.cls = "java/lang/String") := by
  have h := List.all_eq_true.mp am_rcok y (List.mem_range.mpr hy)
  simp only [Bool.or_eq_true, Bool.and_eq_true, decide_eq_true_eq] at h
  rcases h with z | z | z
  · exact absurd z h0
  · exact Or.inl z
  · exact Or.inr z
theorem lt_stok : ∀ w ∈ lt_st, (match w.2.2 with
  | .inr (.invokestatic y) => am_is y && decide (y ≠ 235)
  | _ => true) = true := by decide +kernel
theorem lt_ivok : ∀ w ∈ lt_iv, (match w.2.2 with
  | .inr (.invokevirtual y) => decide (500 ≤ y) || (!am_is y && decide (y ≠ 235))
  | _ => true) = true := by decide +kernel
theorem lt_isok : ∀ w ∈ lt_is, (match w.2.2 with
  | .inr (.invokespecial y) => !am_is y && decide (y ≠ 235)
  | .inr (.invokedynamic y) => !am_is y && decide (y ≠ 235)
  | _ => true) = true := by decide +kernel
theorem am_pvok : ((List.range 5).all fun j => (List.range 13).all fun k => decide (am_vt (500 + j) k = 0) || (decide (am_vt (500 + j) k < 245) && (decide (am_vt (500 + j) k ≠ 235) && (!am_is (am_vt (500 + j) k) && (decide (1 ≤ k) && decide (am_na (am_vt (500 + j) k) = am_na (500 + j))))))) = true := by decide +kernel
theorem am_plok : ((List.range 5).all fun j => decide ((sd_pl j).cls ≠ "java/lang/invoke/MethodHandle") && (decide ((sd_pl j).cls ≠ "java/lang/invoke/VarHandle") && (decide ((parseMethodDescriptor (sd_pl j).desc).map (fun d => d.parameters.length) = some (am_na (500 + j) - 1)) && decide (1 ≤ am_na (500 + j))))) = true := by decide +kernel
theorem am_pvlen : ∀ j, j < 5 → (am_pv.getD j []).length = 13 := by decide +kernel
theorem am_vt_hi {j k : Nat} (hj : j < 5) (h : am_vt (500 + j) k ≠ 0) : k < 13 := by
  unfold am_vt at h
  rw [if_neg (by omega), show 500 + j - 500 = j by omega] at h
  rcases Nat.lt_or_ge k 13 with z | z
  · exact z
  · exfalso
    apply h
    rw [List.getD_eq_getElem?_getD, List.getElem?_eq_none (by rw [am_pvlen j hj]; exact z)]
    rfl
section SD2
variable {dC : Nat → ClassId} {dI : Nat → Nat → Nat} {dA : Nat → ClassId} {s0 : Nat} {sv : Nat → Value} {p : Program} {l : Launch} {e : Env} {R : Room} {s : State} {m : MethodId} {args : Array Value} {below : List Frame} {meth : Method} {c : Code} {q : am_M} {n0 q0 : Nat} {Z : State → Prop} {h h' : am_H} {pc n d k idx : Nat} {ls st as st' : List Value} {r : Option Value}
/-- the receiver of a call -/
theorem sd_rcv {H : Heap} {locs : List Loc} {a kc : Nat} (C : sd_Cx dC dI dA s0 sv p s m args meth c q n0) (hS : sd_St dC dI dA s0 sv s n0 q0 h H locs) (hk : am_k h a = kc) (h1 : 1 ≤ kc) (h2 : kc ≤ 12) : ∃ b, sd_c s0 sv a = .ref b ∧ ∃ cell : Cell, H[b]? = some cell ∧ cell.vm.isStatics = false ∧ s.vm.findClass (sd_cl.getD kc ("", cT_1, 0)).1 = some cell.cls := by
  subst hk
  obtain ⟨g1, g2⟩ := sd_hi hS.2.2.1 (r := a) (by omega) (by omega)
  exact ⟨_, sd_c_hi g1, va_recv C.2.2.2.2.2.2.1.1 hS.1 (sd_clget (show am_k h a < 13 by omega)) ((sd_w_r g1 g2).trans (by rw [sd_E_o h2]))⟩
theorem sd_rcvS {H : Heap} {locs : List Loc} {a : Nat} (C : sd_Cx dC dI dA s0 sv p s m args meth c q n0) (hS : sd_St dC dI dA s0 sv s n0 q0 h H locs) (hk : am_k h a = 40) : ∃ b, sd_c s0 sv a = .ref b ∧ ∃ cell : Cell, H[b]? = some cell ∧ cell.vm.isStatics = false ∧ s.vm.findClass "java/lang/String" = some cell.cls := by
  have g1 := sd_lo hS.2.2.1 (r := a) (by omega)
  obtain ⟨t, e1, ⟨cell, o1, o2, o3, o4⟩, -, -⟩ := (hS.2.2.2.1 a g1).2.2 hk
  refine ⟨t, (sd_c_lo g1).trans e1, cell, ?_, o2, o3⟩
  rw [hS.2.1.2.1 t (Array.getElem?_eq_some_iff.mp o1).1 o4]
  exact o1
theorem sd_cst (IH : sd_Main l dC dI dA s0 sv n) (C : sd_Cx dC dI dA s0 sv p s m args meth c q n0) (hd : decode q.2.1 pc = .ok (.invokestatic idx, 3)) (hk : k < 245) (hkl : k ≠ 235) (hl : Cond.methodLink (am_on q.2.2.2.2) idx (am_q k).1 ∈ lwG) (hst : Cond.static (am_q k).1 ∈ lwG) (his : am_is k = true) (hp : am_pop (am_na k) [] st = some (as, st')) (hw : am_wt st' ≤ 8) (hla : (am_lay as).length ≤ am_mx k) (e1 : am_x n d k (am_bk k 0) (am_ent k as) [] h = some (r, h')) (hR1 : d + 1 + 1 ≤ R.frames) (hR2 : 100 * (d + 1 + 1) ≤ R.locals) (hR3 : h'.2.2.2.2.1 - n0 ≤ R.cells) (hR4 : h'.2.2.2.2.2 - q0 ≤ R.slots) (k1 : sd_W dC dI dA s0 sv p l e R s m args below meth c q n0 q0 Z h' (pc + 3) ls (r.toList ++ st')) : sd_W dC dI dA s0 sv p l e R s m args below meth c q n0 q0 Z h pc ls st := by
  intro H locs lsC hS hL hz
  obtain ⟨f1, f2, f3, f4, f5, f6, f7, f8⟩ := am_mtf hk hkl
  obtain ⟨p1, p2⟩ := am_pop_st hp
  have hm := am_x_mono _ _ _ _ _ _ _ _ _ e1
  refine sd_size C.2.2.2.2.2.2.2 hS (fun hsz => ?_)
  refine sd_after (a := (as.map (sd_V s0 sv)).toArray) C hS hL hz hm.1 hm.2 ?_ k1
  rw [p1, List.map_append, List.map_reverse]
  exact va_runS (Ts := lwG) ⟨C.1, C.2.1, C.2.2.1, C.2.2.2.1, C.2.2.2.2.1⟩ (sd_met IH hk hkl e1 hla (sd_Cv C)) (va_cwS (am_pn k) C.2.2.2.2.1 (sd_good (List.forall_mem_append.mpr ⟨List.forall_mem_cons.mpr ⟨hl, List.forall_mem_cons.mpr ⟨hst, List.forall_mem_cons.mpr ⟨(lf_m k hk hkl).2, fun _ z => absurd z List.not_mem_nil⟩⟩⟩, sd_ws hk hkl⟩)) rfl rfl rfl ⟨f1, f2, f4⟩ ⟨by show d + 1 + 1 ≤ _; exact hR1, by show 8 + (_ + 11) + 100 * (d + 1) ≤ _; omega⟩) ⟨sd_blind, sd_pre C hS hsz⟩ rfl (by rw [List.length_map, p2, am_naok k hk, if_pos his]; rfl) hz rfl (by have h9 := sd_wt (s0 := s0) (sd_Cv C) st'; show 2 * 0 + _ ≤ 8; omega) hd ⟨by have := hS.2.2.2.2.1; have := hm.1; omega, by have := hS.2.2.2.2.2; have := hm.2; omega⟩
theorem sd_civ {a : Nat} {as2 : List Value} (IH : sd_Main l dC dI dA s0 sv n) (C : sd_Cx dC dI dA s0 sv p s m args meth c q n0) (hd : decode q.2.1 pc = .ok (.invokevirtual idx, 3)) (hk : k < 245) (hkl : k ≠ 235) (hl : Cond.methodLink (am_on q.2.2.2.2) idx (am_q k).1 ∈ lwG) (hin : Cond.instanceMethod (am_q k).1 ∈ lwG) (hse : Cond.selects (am_q k).1.cls (am_q k).1 (am_q k).1 ∈ lwG) (his : am_is k = false) (hrc : am_rc.getD k 0 = am_k h a) (h0 : am_k h a ≠ 0) (hp : am_pop (am_na k) [] st = some (.ref a :: as2, st')) (hw : am_wt st' ≤ 8) (hla : (am_lay (.ref a :: as2)).length ≤ am_mx k) (e1 : am_x n d k (am_bk k 0) (am_ent k (.ref a :: as2)) [] h = some (r, h')) (hR1 : d + 1 + 1 ≤ R.frames) (hR2 : 100 * (d + 1 + 1) ≤ R.locals) (hR3 : h'.2.2.2.2.1 - n0 ≤ R.cells) (hR4 : h'.2.2.2.2.2 - q0 ≤ R.slots) (k1 : sd_W dC dI dA s0 sv p l e R s m args below meth c q n0 q0 Z h' (pc + 3) ls (r.toList ++ st')) : sd_W dC dI dA s0 sv p l e R s m args below meth c q n0 q0 Z h pc ls st := by
  intro H locs lsC hS hL hz
  obtain ⟨f1, f2, f3, f4, f5, f6, f7, f8⟩ := am_mtf hk hkl
  obtain ⟨p1, p2⟩ := am_pop_st hp
  have hm := am_x_mono _ _ _ _ _ _ _ _ _ e1
  refine sd_size C.2.2.2.2.2.2.2 hS (fun hsz => ?_)
  obtain ⟨b, hb, hcell⟩ : ∃ b, sd_c s0 sv a = .ref b ∧ ∃ cell : Cell, H[b]? = some cell ∧ cell.vm.isStatics = false ∧ s.vm.findClass (am_q k).1.cls = some cell.cls := by
    rcases am_rcf hk (by rw [hrc]; exact h0) with ⟨z1, z2, z3⟩ | ⟨z1, z3⟩
    · rw [z3]; exact sd_rcv C hS hrc.symm z1 z2
    · rw [z3]; exact sd_rcvS C hS (by rw [← hrc]; exact z1)
  have hmap : (Value.ref a :: as2).map (sd_V s0 sv) = .ref b :: as2.map (sd_V s0 sv) := by show sd_c s0 sv a :: _ = _; rw [hb]
  refine sd_after (a := (Value.ref b :: as2.map (sd_V s0 sv)).toArray) C hS hL hz hm.1 hm.2 ?_ k1
  rw [p1, List.map_append, List.map_reverse, hmap, List.reverse_cons, List.append_assoc]
  exact va_runV (Ts := lwG) ⟨C.1, C.2.1, C.2.2.1, C.2.2.2.1, C.2.2.2.2.1⟩ (sd_met IH hk hkl e1 hla (sd_Cv C)) (cwV (am_pn k) C.2.2.2.2.1 (sd_good (List.forall_mem_append.mpr ⟨List.forall_mem_cons.mpr ⟨hl, List.forall_mem_cons.mpr ⟨hin, List.forall_mem_cons.mpr ⟨hse, List.forall_mem_cons.mpr ⟨(lf_m k hk hkl).2, fun _ z => absurd z List.not_mem_nil⟩⟩⟩⟩, sd_ws hk hkl⟩)) rfl rfl rfl ⟨rfl, f1, f2, f4⟩ ⟨by show d + 1 + 1 ≤ _; exact hR1, by show 8 + (_ + 11) + 100 * (d + 1) ≤ _; omega⟩) ⟨sd_blind, hcell, fun U hU hW => by have := sd_pre (as := .ref a :: as2) C hS hsz U hU hW; rwa [hmap] at this⟩ rfl (by rw [am_naok k hk, his] at p2; rw [List.length_map]; simpa using p2) hz rfl (by have h9 := sd_wt (s0 := s0) (sd_Cv C) st'; show 2 * 0 + _ ≤ 8; omega) hd ⟨by have := hS.2.2.2.2.1; have := hm.1; omega, by have := hS.2.2.2.2.2; have := hm.2; omega⟩
theorem sd_cpv {a j : Nat} {as2 : List Value} (IH : sd_Main l dC dI dA s0 sv n) (C : sd_Cx dC dI dA s0 sv p s m args meth c q n0) (hd : decode q.2.1 pc = .ok (.invokevirtual idx, 3)) (hj : j < 5) (hl : Cond.methodLink (am_on q.2.2.2.2) idx (sd_pl j) ∈ lwG) (hv0 : am_vt (500 + j) (am_k h a) ≠ 0) (hke : k = am_vt (500 + j) (am_k h a)) (hp : am_pop (am_na (500 + j)) [] st = some (.ref a :: as2, st')) (hw : am_wt st' ≤ 8) (hla : (am_lay (.ref a :: as2)).length ≤ am_mx k) (e1 : am_x n d k (am_bk k 0) (am_ent k (.ref a :: as2)) [] h = some (r, h')) (hR1 : d + 1 + 1 ≤ R.frames) (hR2 : 100 * (d + 1 + 1) ≤ R.locals) (hR3 : h'.2.2.2.2.1 - n0 ≤ R.cells) (hR4 : h'.2.2.2.2.2 - q0 ≤ R.slots) (k1 : sd_W dC dI dA s0 sv p l e R s m args below meth c q n0 q0 Z h' (pc + 3) ls (r.toList ++ st')) : sd_W dC dI dA s0 sv p l e R s m args below meth c q n0 q0 Z h pc ls st := by
  intro H locs lsC hS hL hz
  have hc13 := am_vt_hi hj hv0
  have hpv := List.all_eq_true.mp (List.all_eq_true.mp am_pvok j (List.mem_range.mpr hj)) (am_k h a) (List.mem_range.mpr hc13)
  simp only [Bool.or_eq_true, Bool.and_eq_true, decide_eq_true_eq, Bool.not_eq_true'] at hpv
  obtain ⟨hk, hkl, his, hc1, hna⟩ : am_vt (500 + j) (am_k h a) < 245 ∧ am_vt (500 + j) (am_k h a) ≠ 235 ∧ am_is (am_vt (500 + j) (am_k h a)) = false ∧ 1 ≤ am_k h a ∧ am_na (am_vt (500 + j) (am_k h a)) = am_na (500 + j) := by
    rcases hpv with z | z
    · exact absurd z hv0
    · exact z
  rw [← hke] at hk hkl his hna
  have hpl := List.all_eq_true.mp am_plok j (List.mem_range.mpr hj)
  simp only [Bool.and_eq_true, decide_eq_true_eq] at hpl
  obtain ⟨g1, g2, g3, g4⟩ := hpl
  obtain ⟨v1, v2, v3, v4⟩ := lf_pv j hj (am_k h a) hc13 hv0
  rw [← hke] at v2 v3
  obtain ⟨f1, f2, f3, f4, f5, f6, f7, f8⟩ := am_mtf hk hkl
  obtain ⟨p1, p2⟩ := am_pop_st hp
  have hm := am_x_mono _ _ _ _ _ _ _ _ _ e1
  refine sd_size C.2.2.2.2.2.2.2 hS (fun hsz => ?_)
  obtain ⟨b, hb, hcell⟩ := sd_rcv C hS (a := a) rfl hc1 (by omega)
  have hmap : (Value.ref a :: as2).map (sd_V s0 sv) = .ref b :: as2.map (sd_V s0 sv) := by show sd_c s0 sv a :: _ = _; rw [hb]
  refine sd_after (a := (Value.ref b :: as2.map (sd_V s0 sv)).toArray) C hS hL hz hm.1 hm.2 ?_ k1
  rw [p1, List.map_append, List.map_reverse, hmap, List.reverse_cons, List.append_assoc]
  have hnil : ∀ w ∈ ([] : List Cond), w ∈ lwG := fun _ z => absurd z List.not_mem_nil
  have hR : (sd_rm d h h').frames + 1 ≤ R.frames ∧ 8 + ((am_q k).2.2.1 + 11) + (sd_rm d h h').locals ≤ R.locals := ⟨by show d + 1 + 1 ≤ _; exact hR1, by show 8 + (_ + 11) + 100 * (d + 1) ≤ _; omega⟩
  have cw : va_CU R s args (am_on q.2.2.2.2) (sd_cl.getD (am_k h a) ("", cT_1, 0)).1 (sd_pl j).cls idx (sd_pl j) (am_q k).1 (am_q k).2.1 (am_q k).2.2.1 (am_q k).2.2.2.1 (Cond.code (am_q k).1 (am_q k).2.1 (am_q k).2.2.1 (am_q k).2.2.2.1 :: lwG) (sd_rm d h h') (h'.2.2.2.2.1 - h.2.2.2.2.1) (h'.2.2.2.2.2 - h.2.2.2.2.2) (am_na (500 + j) - 1) := by
    rcases v4 with v4 | ⟨v4, b0, m0, r0, v5⟩
    · exact va_cwA (am_na (500 + j) - 1) C.2.2.2.2.1 (sd_good (List.forall_mem_append.mpr ⟨List.forall_mem_cons.mpr ⟨hl, List.forall_mem_cons.mpr ⟨v1, List.forall_mem_cons.mpr ⟨v2, List.forall_mem_cons.mpr ⟨v3, List.forall_mem_cons.mpr ⟨(lf_m k hk hkl).2, hnil⟩⟩⟩⟩⟩, sd_ws hk hkl⟩)) rfl rfl rfl (C.2.2.2.2.2.2.1.2.2.2.2.2.1 _ v4) ⟨g1, g2, g3⟩ hR
    · exact va_cwO (am_na (500 + j) - 1) C.2.2.2.2.1 (sd_good (List.forall_mem_append.mpr ⟨List.forall_mem_cons.mpr ⟨hl, List.forall_mem_cons.mpr ⟨v1, List.forall_mem_cons.mpr ⟨v4, List.forall_mem_cons.mpr ⟨v2, List.forall_mem_cons.mpr ⟨v3, List.forall_mem_cons.mpr ⟨(lf_m k hk hkl).2, hnil⟩⟩⟩⟩⟩⟩, sd_ws hk hkl⟩)) rfl rfl rfl v5 ⟨g1, g2, g3⟩ hR
  exact va_runU (Ts := lwG) ⟨C.1, C.2.1, C.2.2.1, C.2.2.2.1, C.2.2.2.2.1⟩ (sd_met IH hk hkl e1 hla (sd_Cv C)) cw ⟨sd_blind, hcell, fun U hU hW => by have := sd_pre (as := .ref a :: as2) C hS hsz U hU hW; rwa [hmap] at this⟩ rfl (by rw [List.length_map, ← p2]; rfl) hz rfl (by have h9 := sd_wt (s0 := s0) (sd_Cv C) st'; show 2 * 0 + _ ≤ 8; omega) hd ⟨by have := hS.2.2.2.2.1; have := hm.1; omega, by have := hS.2.2.2.2.2; have := hm.2; omega⟩
theorem sd_cis {a : Nat} {as2 : List Value} (IH : sd_Main l dC dI dA s0 sv n) (C : sd_Cx dC dI dA s0 sv p s m args meth c q n0) (hd : decode q.2.1 pc = .ok (.invokespecial idx, 3)) (hk : k < 245) (hkl : k ≠ 235) (hnm : (am_q k).1.name = "<init>") (hno : (am_q k).2.2.2.1 = none) (hin : Cond.instanceMethod (am_q k).1 ∈ lwG) (hl : Cond.methodLink (am_on q.2.2.2.2) idx (am_q k).1 ∈ lwG ∨ Cond.methodLinkNest (am_on q.2.2.2.2) idx (am_q k).1 "ThreeSizes" ∈ sd_nw) (his : am_is k = false) (ha : a ≠ 0) (hp : am_pop (am_na k) [] st = some (.ref a :: as2, st')) (hw : am_wt st' ≤ 8) (hla : (am_lay (.ref a :: as2)).length ≤ am_mx k) (e1 : am_x n d k (am_bk k 0) (am_ent k (.ref a :: as2)) [] h = some (r, h')) (hR1 : d + 1 + 1 ≤ R.frames) (hR2 : 100 * (d + 1 + 1) ≤ R.locals) (hR3 : h'.2.2.2.2.1 - n0 ≤ R.cells) (hR4 : h'.2.2.2.2.2 - q0 ≤ R.slots) (k1 : sd_W dC dI dA s0 sv p l e R s m args below meth c q n0 q0 Z h' (pc + 3) ls (r.toList ++ st')) : sd_W dC dI dA s0 sv p l e R s m args below meth c q n0 q0 Z h pc ls st := by
  intro H locs lsC hS hL hz
  obtain ⟨f1, f2, f3, f4, f5, f6, f7, f8⟩ := am_mtf hk hkl
  obtain ⟨p1, p2⟩ := am_pop_st hp
  have hm := am_x_mono _ _ _ _ _ _ _ _ _ e1
  refine sd_size C.2.2.2.2.2.2.2 hS (fun hsz => ?_)
  obtain ⟨b, hb⟩ := sd_c_nz (s0 := s0) (sd_Cv C) ha
  have hmap : (Value.ref a :: as2).map (sd_V s0 sv) = .ref b :: as2.map (sd_V s0 sv) := by show sd_c s0 sv a :: _ = _; rw [hb]
  refine sd_after (a := (Value.ref b :: as2.map (sd_V s0 sv)).toArray) C hS hL hz hm.1 hm.2 ?_ k1
  rw [p1, List.map_append, List.map_reverse, hmap, List.reverse_cons, List.append_assoc]
  have hM := sd_met IH hk hkl e1 hla (sd_Cv C)
  have hws := sd_ws hk hkl
  rw [hno] at hM hws
  have hpre : PreS s H (sd_Pc dC dI dA s0 sv (.ref a :: as2) h) (.ref b :: as2.map (sd_V s0 sv)) := ⟨sd_blind, fun U hU hW => by have := sd_pre (as := .ref a :: as2) C hS hsz U hU hW; rwa [hmap] at this⟩
  have hlen : (as2.map (sd_V s0 sv)).length = am_pn k := by rw [am_naok k hk, his] at p2; rw [List.length_map]; simpa using p2
  rcases hl with hl | hl
  · exact va_runI (Ts := lwG) ⟨C.1, C.2.1, C.2.2.1, C.2.2.2.1, C.2.2.2.2.1⟩ hM (cwI (am_pn k) C.2.2.2.2.1 (sd_good hws) rfl rfl rfl (C.2.2.2.2.1 _ (lf_m k hk hkl).2) (C.2.2.2.2.1 _ hl) (C.2.2.2.2.1 _ hin) hnm ⟨f1, f2, f4⟩ ⟨by show d + 1 + 1 ≤ _; exact hR1, by show 8 + (_ + 11) + 100 * (d + 1) ≤ _; omega⟩) hpre rfl hlen hz rfl (by have h9 := sd_wt (s0 := s0) (sd_Cv C) st'; show 2 * 0 + _ ≤ 8; omega) hd ⟨by have := hS.2.2.2.2.1; have := hm.1; omega, by have := hS.2.2.2.2.2; have := hm.2; omega⟩
  · exact va_runIN (Ts := lwG) ⟨C.1, C.2.1, C.2.2.1, C.2.2.2.1, C.2.2.2.2.1⟩ hM ⟨va_cnB (am_pn k) C.2.2.2.2.1 (sd_good hws) rfl rfl rfl (C.2.2.2.2.2.2.1.2.2.2.2.2.1 _ hl) (C.2.2.2.2.1 _ (lf_m k hk hkl).2) ⟨f1, f2, f4⟩ ⟨by show d + 1 + 1 ≤ _; exact hR1, by show 8 + (_ + 11) + 100 * (d + 1) ≤ _; omega⟩, hnm, C.2.2.2.2.1 _ hin⟩ hpre rfl hlen hz rfl (by have h9 := sd_wt (s0 := s0) (sd_Cv C) st'; show 2 * 0 + _ ≤ 8; omega) hd ⟨by have := hS.2.2.2.2.1; have := hm.1; omega, by have := hS.2.2.2.2.2; have := hm.2; omega⟩
theorem sd_csu {a : Nat} {as2 : List Value} (IH : sd_Main l dC dI dA s0 sv n) (C : sd_Cx dC dI dA s0 sv p s m args meth c q n0) (hd : decode q.2.1 pc = .ok (.invokespecial idx, 3)) (hk : k < 245) (hkl : k ≠ 235) (hnm : (am_q k).1.name ≠ "<init>") (hin : Cond.instanceMethod (am_q k).1 ∈ lwG) (hl : Cond.methodLink (am_on q.2.2.2.2) idx (am_q k).1 ∈ lwG) (hsm : Cond.sameMethod (am_q k).1.cls (am_q k).1.cls (am_q k).1.name (am_q k).1.desc ∈ lwG) (hsu : Cond.superclass (am_on q.2.2.2.2) (am_q k).1.cls ∈ lwG) (his : am_is k = false) (ha : am_k h a = 8) (hp : am_pop (am_na k) [] st = some (.ref a :: as2, st')) (hw : am_wt st' ≤ 8) (hla : (am_lay (.ref a :: as2)).length ≤ am_mx k) (e1 : am_x n d k (am_bk k 0) (am_ent k (.ref a :: as2)) [] h = some (r, h')) (hR1 : d + 1 + 1 ≤ R.frames) (hR2 : 100 * (d + 1 + 1) ≤ R.locals) (hR3 : h'.2.2.2.2.1 - n0 ≤ R.cells) (hR4 : h'.2.2.2.2.2 - q0 ≤ R.slots) (k1 : sd_W dC dI dA s0 sv p l e R s m args below meth c q n0 q0 Z h' (pc + 3) ls (r.toList ++ st')) : sd_W dC dI dA s0 sv p l e R s m args below meth c q n0 q0 Z h pc ls st := by
  intro H locs lsC hS hL hz
  obtain ⟨f1, f2, f3, f4, f5, f6, f7, f8⟩ := am_mtf hk hkl
  obtain ⟨p1, p2⟩ := am_pop_st hp
  have hm := am_x_mono _ _ _ _ _ _ _ _ _ e1
  refine sd_size C.2.2.2.2.2.2.2 hS (fun hsz => ?_)
  obtain ⟨b, hb, hcell⟩ := sd_rcv C hS (a := a) ha (by decide) (by decide)
  have hca := (C.2.2.2.2.2.2.1.1.1 _ _ (sd_clget (show 8 < 13 by decide))).2
  have hmap : (Value.ref a :: as2).map (sd_V s0 sv) = .ref b :: as2.map (sd_V s0 sv) := by show sd_c s0 sv a :: _ = _; rw [hb]
  refine sd_after (a := (Value.ref b :: as2.map (sd_V s0 sv)).toArray) C hS hL hz hm.1 hm.2 ?_ k1
  rw [p1, List.map_append, List.map_reverse, hmap, List.reverse_cons, List.append_assoc]
  exact va_runSU (Ts := lwG) hca ⟨C.1, C.2.1, C.2.2.1, C.2.2.2.1, C.2.2.2.2.1⟩ (sd_met IH hk hkl e1 hla (sd_Cv C)) (va_cwSU (am_pn k) C.2.2.2.2.1 (sd_good (List.forall_mem_append.mpr ⟨List.forall_mem_cons.mpr ⟨hl, List.forall_mem_cons.mpr ⟨hsm, List.forall_mem_cons.mpr ⟨hsu, List.forall_mem_cons.mpr ⟨hin, List.forall_mem_cons.mpr ⟨(lf_m k hk hkl).2, fun _ z => absurd z List.not_mem_nil⟩⟩⟩⟩⟩, sd_ws hk hkl⟩)) rfl rfl rfl ⟨hnm, f4⟩ ⟨by show d + 1 + 1 ≤ _; exact hR1, by show 8 + (_ + 11) + 100 * (d + 1) ≤ _; omega⟩) ⟨sd_blind, hcell, fun U hU hW => by have := sd_pre (as := .ref a :: as2) C hS hsz U hU hW; rwa [hmap] at this⟩ rfl (by rw [am_naok k hk, his] at p2; rw [List.length_map]; simpa using p2) hz rfl (by have h9 := sd_wt (s0 := s0) (sd_Cv C) st'; show 2 * 0 + _ ≤ 8; omega) hd ⟨by have := hS.2.2.2.2.1; have := hm.1; omega, by have := hS.2.2.2.2.2; have := hm.2; omega⟩
end SD2
