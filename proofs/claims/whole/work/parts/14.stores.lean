theorem sd_fb : ∀ f, f < 76 → (am_fd f).2.2.2 < 13 ∧ 1 ≤ (am_fd f).2.2.1 ∧ (am_fd f).2.1 < 40 := by decide +kernel
theorem sd_szok : ∀ k, k < 13 → 1 ≤ k → am_sz k = (sd_cl.getD k ("", cT_1, 0)).2.2 := by decide +kernel
theorem sd_dfl0 : ((List.range 13).all fun k => (List.range (sd_cl.getD k ("", cT_1, 0)).2.2).all fun j => decide (k = 0) || (decide (j < 40) && decide (defaultValue ((sd_cy.getD k cY_1) j) = (match sd_ty k j with
  | 1 => Value.long 0
  | 2 => Value.null
  | _ => Value.int 0)))) = true := by decide +kernel
/-- the type of a slot, by its kind -/
theorem sd_ty0 : ((List.range 13).all fun k => (List.range (sd_cl.getD k ("", cT_1, 0)).2.2).all fun j => decide (k = 0) || (match sd_ty k j with
  | 0 => decide ((sd_cy.getD k cY_1) j = .int)
  | 1 => decide ((sd_cy.getD k cY_1) j = .long)
  | 2 => ((sd_cy.getD k cY_1) j).isReference
  | 3 => decide ((sd_cy.getD k cY_1) j = .boolean)
  | _ => false)) = true := by decide +kernel
theorem sd_clget {k : Nat} (hk : k < 13) : sd_cl[k]? = some (sd_cl.getD k ("", cT_1, 0)) := by
  rw [List.getD_eq_getElem?_getD, List.getElem?_eq_getElem (show k < sd_cl.length from hk)]
  rfl
theorem sd_rfit {t : FieldType} (ht : t.isReference = true) {v : Value} (hv : v = .null ∨ ∃ a, v = .ref a) : narrow t v = v ∧ fits t v = true := by
  cases t <;> first | (exact absurd ht (by decide)) | (rcases hv with rfl | ⟨a, rfl⟩ <;> exact ⟨rfl, rfl⟩)
theorem am_pi_s (h : am_H) (a i : Nat) (x : Int32) : (am_pi h a i x).1 a = upd (h.1 a) i x := am_u1_s _ _ _
theorem am_pj_s (h : am_H) (a i : Nat) (x : Int64) : (am_pj h a i x).2.1 a = vp_updL (h.2.1 a) i x := am_u1_s _ _ _
theorem am_pr_s (h : am_H) (a i : Nat) (x : Nat) : (am_pr h a i x).2.2.1 a = va_up (h.2.2.1 a) i x := am_u1_s _ _ _
theorem am_pi_n {h : am_H} {a i b : Nat} {x : Int32} (hb : b ≠ a) : sd_q h (am_pi h a i x) b := ⟨am_u1_n _ _ hb, rfl, rfl, rfl⟩
theorem am_pj_n {h : am_H} {a i b : Nat} {x : Int64} (hb : b ≠ a) : sd_q h (am_pj h a i x) b := ⟨rfl, am_u1_n _ _ hb, rfl, rfl⟩
theorem am_pr_n {h : am_H} {a i b : Nat} {x : Nat} (hb : b ≠ a) : sd_q h (am_pr h a i x) b := ⟨rfl, rfl, am_u1_n _ _ hb, rfl⟩
section SP
variable {dC : Nat → ClassId} {dI : Nat → Nat → Nat} {dA : Nat → ClassId} {s0 : Nat} {sv : Nat → Value} {p : Program} {l : Launch} {e : Env} {R : Room} {s : State} {m : MethodId} {args : Array Value} {below : List Frame} {meth : Method} {c : Code} {q : am_M} {n0 q0 : Nat} {Z : State → Prop} {h : am_H} {pc : Nat} {ls st : List Value}
/-- behind a store into a cell of the program's -/
theorem sd_St_set {h' : am_H} {H H1 : Heap} {locs locs1 : List Loc} {a : Nat} {w : va_E} (hS : sd_St dC dI dA s0 sv s n0 q0 h H locs) (h1 : 32 ≤ a) (hn : h'.2.2.2.2 = h.2.2.2.2) (hkd : h'.2.2.2.1 = h.2.2.2.1) (hq : ∀ b, b ≠ a → sd_q h h' b) (hP1 : va_P (dC, dI) sd_cl ((sd_w dA s0 sv h).set (a - 32) (s0 + (a - 32), w)) H1) (hw : sd_E dA s0 sv h' a = w) (hS1 : va_S (sd_A s0) s.heap H1 locs1) : sd_St dC dI dA s0 sv s n0 q0 h' H1 locs1 := by
  obtain ⟨hP, -, hok, hSS, hn0, hq0⟩ := hS
  refine ⟨?_, hS1, sd_ok_keep hok (by rw [hn]) hkd, sd_S_keep hSS (fun b hb => hq b (by omega)), by rw [hn]; exact hn0, by rw [hn]; exact hq0⟩
  rw [sd_w_set h1 (by rw [hn]) hq, hw]
  exact hP1
theorem sd_iastore {x i : Int32} {a : Nat} (C : sd_Cx dC dI dA s0 sv p s m args meth c q n0) (hd : decode q.2.1 pc = .ok (.iastore, 1)) (hk : am_k h a = 20) (hi : am_in i (am_n h a) = true) (k : sd_W dC dI dA s0 sv p l e R s m args below meth c q n0 q0 Z (am_pi h a i.toNatClampNeg x) (pc + 1) ls st) : sd_W dC dI dA s0 sv p l e R s m args below meth c q n0 q0 Z h pc ls (.int x :: .int i :: .ref a :: st) := by
  intro H locs lsC hS hL hz
  obtain ⟨h1, h2⟩ := sd_hi hS.2.2.1 (r := a) (by omega) (by omega)
  show W _ _ _ _ _ _ _ _ _ _ _ _ _ _ _ (F0 m pc lsC (.int x :: .int i :: sd_c s0 sv a :: st.map (sd_V s0 sv)))
  rw [sd_c_hi h1]
  refine va_iast C.1 C.2.1 C.2.2.2.2.2.2.1.1 hS.1 sd_D hS.2.1 (a - 32) 0 ((sd_w_r h1 h2).trans (by rw [sd_E_i hk])) rfl (sd_in_of hi) hd (fun H1 locs1 hP1 _ hS1 => ?_)
  exact k H1 locs1 lsC (sd_St_set hS h1 rfl rfl (fun b hb => am_pi_n hb) hP1 (by rw [sd_E_i (show am_k (am_pi h a i.toNatClampNeg x) a = 20 from hk), am_pi_s]; rfl) hS1) hL hz
theorem sd_bastore {x i : Int32} {a : Nat} (C : sd_Cx dC dI dA s0 sv p s m args meth c q n0) (hd : decode q.2.1 pc = .ok (.bastore, 1)) (hk : am_k h a = 22) (hi : am_in i (am_n h a) = true) (k : sd_W dC dI dA s0 sv p l e R s m args below meth c q n0 q0 Z (am_pi h a i.toNatClampNeg x.toInt8.toInt32) (pc + 1) ls st) : sd_W dC dI dA s0 sv p l e R s m args below meth c q n0 q0 Z h pc ls (.int x :: .int i :: .ref a :: st) := by
  intro H locs lsC hS hL hz
  obtain ⟨h1, h2⟩ := sd_hi hS.2.2.1 (r := a) (by omega) (by omega)
  show W _ _ _ _ _ _ _ _ _ _ _ _ _ _ _ (F0 m pc lsC (.int x :: .int i :: sd_c s0 sv a :: st.map (sd_V s0 sv)))
  rw [sd_c_hi h1]
  refine va_bast C.1 C.2.1 C.2.2.2.2.2.2.1.1 hS.1 sd_D hS.2.1 (a - 32) 2 ((sd_w_r h1 h2).trans (by rw [sd_E_b hk])) rfl (sd_in_of hi) hd (fun H1 locs1 hP1 _ hS1 => ?_)
  exact k H1 locs1 lsC (sd_St_set hS h1 rfl rfl (fun b hb => am_pi_n hb) hP1 (by rw [sd_E_b (show am_k (am_pi h a i.toNatClampNeg x.toInt8.toInt32) a = 22 from hk), am_pi_s, vp_nar_byte]; rfl) hS1) hL hz
theorem sd_lastore {x : Int64} {i : Int32} {a : Nat} (C : sd_Cx dC dI dA s0 sv p s m args meth c q n0) (hd : decode q.2.1 pc = .ok (.lastore, 1)) (hk : am_k h a = 21) (hi : am_in i (am_n h a) = true) (k : sd_W dC dI dA s0 sv p l e R s m args below meth c q n0 q0 Z (am_pj h a i.toNatClampNeg x) (pc + 1) ls st) : sd_W dC dI dA s0 sv p l e R s m args below meth c q n0 q0 Z h pc ls (.long x :: .int i :: .ref a :: st) := by
  intro H locs lsC hS hL hz
  obtain ⟨h1, h2⟩ := sd_hi hS.2.2.1 (r := a) (by omega) (by omega)
  show W _ _ _ _ _ _ _ _ _ _ _ _ _ _ _ (F0 m pc lsC (.long x :: .int i :: sd_c s0 sv a :: st.map (sd_V s0 sv)))
  rw [sd_c_hi h1]
  refine va_last C.1 C.2.1 C.2.2.2.2.2.2.1.1 hS.1 sd_D hS.2.1 (a - 32) 1 ((sd_w_r h1 h2).trans (by rw [sd_E_j hk])) rfl (sd_in_of hi) hd (fun H1 locs1 hP1 _ hS1 => ?_)
  exact k H1 locs1 lsC (sd_St_set hS h1 rfl rfl (fun b hb => am_pj_n hb) hP1 (by rw [sd_E_j (show am_k (am_pj h a i.toNatClampNeg x) a = 21 from hk), am_pj_s]; rfl) hS1) hL hz
theorem sd_thing : ∀ k, k < 12 → 5 ≤ k → Cond.castable (sd_cl.getD k ("", cT_1, 0)).1 "ThreeSizes$Thing" ∈ sd_nw := by decide +kernel
theorem sd_aastore {x : Nat} {i : Int32} {a : Nat} (C : sd_Cx dC dI dA s0 sv p s m args meth c q n0) (hd : decode q.2.1 pc = .ok (.aastore, 1)) (hk : am_k h a = 23) (hi : am_in i (am_n h a) = true) (hx1 : 5 ≤ am_k h x) (hx2 : am_k h x ≤ 11) (k : sd_W dC dI dA s0 sv p l e R s m args below meth c q n0 q0 Z (am_pr h a i.toNatClampNeg x) (pc + 1) ls st) : sd_W dC dI dA s0 sv p l e R s m args below meth c q n0 q0 Z h pc ls (.ref x :: .int i :: .ref a :: st) := by
  intro H locs lsC hS hL hz
  obtain ⟨h1, h2⟩ := sd_hi hS.2.2.1 (r := a) (by omega) (by omega)
  obtain ⟨g1, g2⟩ := sd_hi hS.2.2.1 (r := x) (by omega) (by omega)
  show W _ _ _ _ _ _ _ _ _ _ _ _ _ _ _ (F0 m pc lsC (sd_c s0 sv x :: .int i :: sd_c s0 sv a :: st.map (sd_V s0 sv)))
  rw [sd_c_hi h1, sd_c_hi g1]
  refine va_astqO C.1 C.2.1 C.2.2.2.2.2.2.1.1 hS.1 sd_D hS.2.1 (a - 32) 3 (x - 32) (am_k h x) (E := "ThreeSizes$Thing") ((sd_w_r h1 h2).trans (by rw [sd_E_q1 (Or.inl hk), hk])) rfl (C.2.2.2.2.2.2.1.2.2.2.2.2.1 _ (sd_thing _ (by omega) hx1)) ((sd_w_r g1 g2).trans (by rw [sd_E_o (by omega)])) (sd_clget (by omega)) (sd_in_of hi) hd (fun H1 locs1 hP1 _ hS1 => ?_)
  refine k H1 locs1 lsC (sd_St_set hS h1 rfl rfl (fun b hb => am_pr_n hb) hP1 ?_ hS1) hL hz
  rw [sd_E_q1 (show am_k (am_pr h a i.toNatClampNeg x) a = 23 ∨ am_k (am_pr h a i.toNatClampNeg x) a = 24 ∨ am_k (am_pr h a i.toNatClampNeg x) a = 25 from Or.inl hk), am_pr_s, show am_k (am_pr h a i.toNatClampNeg x) a = 23 from hk, show am_n (am_pr h a i.toNatClampNeg x) a = am_n h a from rfl]
  refine congrArg (fun f => (Sum.inl (dA 23, am_n h a, Sum.inr (Sum.inr (Sum.inr (Sum.inr f)))) : va_E)) (funext fun j => ?_)
  by_cases e : j = i.toNatClampNeg
  · rw [e]
    show sd_o s0 sv (va_up (h.2.2.1 a) i.toNatClampNeg x i.toNatClampNeg) = va_up _ i.toNatClampNeg _ i.toNatClampNeg
    unfold va_up
    rw [if_pos rfl, if_pos rfl]
    unfold sd_o
    rw [sd_c_hi g1]
  · unfold va_up
    rw [if_neg e, if_neg e]
theorem sd_same {own rf : String} {f : Nat} (hts : ∀ w ∈ lwG, w.before args s = true) (hs : rf = (sd_fr f).1 ∨ Cond.sameField rf (sd_fr f).1 (sd_fr f).2.1 (sd_fr f).2.2.1 ∈ lwG) : ∀ x, s.fieldFound? (sd_fr f).1 (sd_fr f).2.1 (sd_fr f).2.2.1 = some x → s.fieldFound? rf (sd_fr f).2.1 (sd_fr f).2.2.1 = some x := by
  intro x hx
  rcases hs with rfl | hs
  · exact hx
  · exact u_same (hts _ hs) x hx
theorem sd_f_at {a j : Nat} (hj : j < 40) : ((List.range 40).map (fun j => sd_f s0 sv h a j))[j]? = some (sd_f s0 sv h a j) := by
  rw [List.getElem?_map, List.getElem?_range hj]
  rfl
theorem sd_getfield {f a idx : Nat} (C : sd_Cx dC dI dA s0 sv p s m args meth c q n0) (hd : decode q.2.1 pc = .ok (.getfield idx, 3)) (hf : LF_fl (am_on q.2.2.2.2) idx f) (hk1 : (am_fd f).2.2.1 ≤ am_k h a) (hk2 : am_k h a ≤ (am_fd f).2.2.2) (k : sd_W dC dI dA s0 sv p l e R s m args below meth c q n0 q0 Z h (pc + 3) ls ((match (am_fd f).1 with
        | 1 => Value.long (h.2.1 a (am_fd f).2.1)
        | 2 => Value.ref (h.2.2.1 a (am_fd f).2.1)
        | _ => Value.int (h.1 a (am_fd f).2.1)) :: st)) : sd_W dC dI dA s0 sv p l e R s m args below meth c q n0 q0 Z h pc ls (.ref a :: st) := by
  intro H locs lsC hS hL hz
  have k1 := k H locs lsC hS hL hz
  obtain ⟨hf1, rf, hw, hsm⟩ := hf
  obtain ⟨b1, b2, b3⟩ := sd_fb f hf1
  obtain ⟨c1, c2, c3, c4, c5⟩ := sd_frok f hf1 (am_k h a) (by omega) hk1 hk2
  obtain ⟨h1, h2⟩ := sd_hi hS.2.2.1 (r := a) (by omega) (by omega)
  show W _ _ _ _ _ _ _ _ _ _ _ _ _ _ _ (F0 m pc lsC (sd_c s0 sv a :: st.map (sd_V s0 sv)))
  rw [sd_c_hi h1]
  have ev : sd_V s0 sv (match (am_fd f).1 with
        | 1 => Value.long (h.2.1 a (am_fd f).2.1)
        | 2 => Value.ref (h.2.2.1 a (am_fd f).2.1)
        | _ => Value.int (h.1 a (am_fd f).2.1)) = sd_f s0 sv h a (am_fd f).2.1 := by
    unfold sd_f
    rw [c4]
    rcases (show (am_fd f).1 = 0 ∨ (am_fd f).1 = 1 ∨ (am_fd f).1 = 2 ∨ (am_fd f).1 = 3 by omega) with z | z | z | z <;> rw [z] <;> rfl
  refine va_get (C := (sd_cl.getD (am_k h a) ("", cT_1, 0)).1) (T := (sd_cl.getD (am_k h a) ("", cT_1, 0)).2.1) (N := (sd_cl.getD (am_k h a) ("", cT_1, 0)).2.2) C.1 C.2.1 C.2.2.2.2.1 (lf_c (am_k h a) (by omega)).1 C.2.2.2.1 C.2.2.2.2.2.2.1.1 hS.1 (a - 32) ((sd_w_r h1 h2).trans (by rw [sd_E_o (by omega)])) (sd_clget (by omega)) (am_fd f).2.1 c2 (ref := rf) (C.2.2.2.2.1 _ (by rw [c3]; exact hw)) (by rw [c3]; exact sd_same (own := "") C.2.2.2.2.1 hsm) (sd_f_at b3) hd ?_
  rw [← ev]
  exact k1
/-- a store into a field: what goes in is v -/
theorem sd_putf {h' : am_H} {f a idx : Nat} {v : Value} (C : sd_Cx dC dI dA s0 sv p s m args meth c q n0) (hd : decode q.2.1 pc = .ok (.putfield idx, 3)) (hf : LF_fl (am_on q.2.2.2.2) idx f) (hfin : (sd_fr f).2.2.2 = true → (sd_fr f).1 = am_on q.2.2.2.2 ∧ q.1.name = "<init>") (hk1 : (am_fd f).2.2.1 ≤ am_k h a) (hk2 : am_k h a ≤ (am_fd f).2.2.2)
    (hv : ∀ t : FieldType, (match (am_fd f).1 with
      | 0 => t = .int
      | 1 => t = .long
      | 2 => t.isReference = true
      | _ => t = .boolean) → narrow t (sd_V s0 sv v) = sd_V s0 sv v ∧ fits t (sd_V s0 sv v) = true)
    (hn : h'.2.2.2.2 = h.2.2.2.2) (hkd : h'.2.2.2.1 = h.2.2.2.1) (hq : ∀ b, b ≠ a → sd_q h h' b) (hw : ∀ j, sd_f s0 sv h' a j = if j = (am_fd f).2.1 then sd_V s0 sv v else sd_f s0 sv h a j) (k : sd_W dC dI dA s0 sv p l e R s m args below meth c q n0 q0 Z h' (pc + 3) ls st) : sd_W dC dI dA s0 sv p l e R s m args below meth c q n0 q0 Z h pc ls (v :: .ref a :: st) := by
  intro H locs lsC hS hL hz
  obtain ⟨hf1, rf, hw1, hsm⟩ := hf
  obtain ⟨b1, b2, b3⟩ := sd_fb f hf1
  obtain ⟨c1, c2, c3, c4, c5⟩ := sd_frok f hf1 (am_k h a) (by omega) hk1 hk2
  obtain ⟨h1, h2⟩ := sd_hi hS.2.2.1 (r := a) (by omega) (by omega)
  show W _ _ _ _ _ _ _ _ _ _ _ _ _ _ _ (F0 m pc lsC (sd_V s0 sv v :: sd_c s0 sv a :: st.map (sd_V s0 sv)))
  rw [sd_c_hi h1]
  have hty := List.all_eq_true.mp (List.all_eq_true.mp sd_ty0 (am_k h a) (List.mem_range.mpr (by omega))) (am_fd f).2.1 (List.mem_range.mpr c2)
  have hpf := sd_tyok (am_k h a) (by omega) (am_fd f).2.1 c2
  obtain ⟨v1, v2⟩ := hv ((sd_cy.getD (am_k h a) cY_1) (am_fd f).2.1) (by
    rw [c4] at hty
    simp only [Bool.or_eq_true, decide_eq_true_eq] at hty
    rcases hty with z | z
    · omega
    · rcases (show (am_fd f).1 = 0 ∨ (am_fd f).1 = 1 ∨ (am_fd f).1 = 2 ∨ (am_fd f).1 = 3 by omega) with y | y | y | y
      · rw [y] at z ⊢; exact of_decide_eq_true (p := (sd_cy.getD (am_k h a) cY_1) (am_fd f).2.1 = .int) z
      · rw [y] at z ⊢; exact of_decide_eq_true (p := (sd_cy.getD (am_k h a) cY_1) (am_fd f).2.1 = .long) z
      · rw [y] at z ⊢; exact z
      · rw [y] at z ⊢; exact of_decide_eq_true (p := (sd_cy.getD (am_k h a) cY_1) (am_fd f).2.1 = .boolean) z)
  have key : ∀ (H1 : Heap) (locs1 : List Loc), va_P (dC, dI) sd_cl ((sd_w dA s0 sv h).set (a - 32) (s0 + (a - 32), .inr (am_k h a, ((List.range 40).map (fun j => sd_f s0 sv h a j)).set (am_fd f).2.1 (sd_V s0 sv v)))) H1 → va_D (sd_A s0) ((sd_w dA s0 sv h).set (a - 32) (s0 + (a - 32), .inr (am_k h a, ((List.range 40).map (fun j => sd_f s0 sv h a j)).set (am_fd f).2.1 (sd_V s0 sv v)))) → va_S (sd_A s0) s.heap H1 locs1 → W p l e R s m args below meth c H1 locs1 (h.2.2.2.2.1 - n0) (h.2.2.2.2.2 - q0) Z (F0 m (pc + 3) lsC (st.map (sd_V s0 sv))) := by
    intro H1 locs1 hP1 _ hS1
    have kk := k H1 locs1 lsC (sd_St_set hS h1 hn hkd hq hP1 (by
      have ek : am_k h' a = am_k h a := by unfold am_k; rw [hkd]
      rw [sd_E_o (by rw [ek]; omega), ek]
      congr 2
      refine List.ext_getElem? (fun j => ?_)
      by_cases hj : j < 40
      · rw [sd_f_at hj, hw j, List.getElem?_set]
        by_cases ej : (am_fd f).2.1 = j
        · rw [if_pos ej.symm, if_pos ej, if_pos (by simp; omega)]
        · rw [if_neg (fun z => ej z.symm), if_neg ej, sd_f_at hj]
      · rw [List.getElem?_eq_none (by simp; omega), List.getElem?_eq_none (by simp; omega)]) hS1) hL hz
    rw [hn] at kk
    exact kk
  cases hfb : (sd_fr f).2.2.2 with
  | false => exact va_put (C := (sd_cl.getD (am_k h a) ("", cT_1, 0)).1) (T := (sd_cl.getD (am_k h a) ("", cT_1, 0)).2.1) (N := (sd_cl.getD (am_k h a) ("", cT_1, 0)).2.2) C.1 C.2.1 C.2.2.2.2.1 (lf_c (am_k h a) (by omega)).1 (sd_cy.getD (am_k h a) cY_1) (sd_tyok (am_k h a) (by omega)) (sd_nm (am_k h a) (by omega)) C.2.2.2.1 C.2.2.2.2.2.2.1.1 hS.1 sd_D hS.2.1 (a - 32) ((sd_w_r h1 h2).trans (by rw [sd_E_o (by omega)])) (sd_clget (by omega)) (am_fd f).2.1 c2 (ref := rf) (C.2.2.2.2.1 _ (by rw [c3]; exact hw1)) (by rw [c3]; exact sd_same (own := "") C.2.2.2.2.1 hsm) (by rw [c3]; exact hfb) hpf v1 v2 (by simp; omega) hd key
  | true => exact va_putF (C := (sd_cl.getD (am_k h a) ("", cT_1, 0)).1) (T := (sd_cl.getD (am_k h a) ("", cT_1, 0)).2.1) (N := (sd_cl.getD (am_k h a) ("", cT_1, 0)).2.2) C.1 C.2.1 C.2.2.2.2.1 (lf_c (am_k h a) (by omega)).1 (sd_cy.getD (am_k h a) cY_1) (sd_tyok (am_k h a) (by omega)) (sd_nm (am_k h a) (by omega)) C.2.2.2.1 C.2.2.2.2.2.2.1.1 hS.1 sd_D hS.2.1 (a - 32) ((sd_w_r h1 h2).trans (by rw [sd_E_o (by omega)])) (sd_clget (by omega)) (am_fd f).2.1 c2 (ref := rf) (C.2.2.2.2.1 _ (by rw [c3]; exact hw1)) (by rw [c3]; exact sd_same (own := "") C.2.2.2.2.1 hsm) (by rw [c3]; exact hfb) ((C.2.2.2.2.2.1 (hfin hfb).2).trans (hfin hfb).2) (by rw [c3]; exact (hfin hfb).1) hpf v1 v2 (by simp; omega) hd key
theorem sd_fty {f a idx : Nat} (hf : LF_fl (am_on q.2.2.2.2) idx f) (hk1 : (am_fd f).2.2.1 ≤ am_k h a) (hk2 : am_k h a ≤ (am_fd f).2.2.2) : sd_ty (am_k h a) (am_fd f).2.1 = (am_fd f).1 := (sd_frok f hf.1 (am_k h a) (by have := (sd_fb f hf.1).1; omega) hk1 hk2).2.2.2.1
theorem sd_puti {f a idx : Nat} {x : Int32} (C : sd_Cx dC dI dA s0 sv p s m args meth c q n0) (hd : decode q.2.1 pc = .ok (.putfield idx, 3)) (hf : LF_fl (am_on q.2.2.2.2) idx f) (hfin : (sd_fr f).2.2.2 = true → (sd_fr f).1 = am_on q.2.2.2.2 ∧ q.1.name = "<init>") (hk1 : (am_fd f).2.2.1 ≤ am_k h a) (hk2 : am_k h a ≤ (am_fd f).2.2.2) (ht : (am_fd f).1 = 0 ∨ (am_fd f).1 = 3 ∧ (x = 0 ∨ x = 1)) (k : sd_W dC dI dA s0 sv p l e R s m args below meth c q n0 q0 Z (am_pi h a (am_fd f).2.1 x) (pc + 3) ls st) : sd_W dC dI dA s0 sv p l e R s m args below meth c q n0 q0 Z h pc ls (.int x :: .ref a :: st) := by
  refine sd_putf (h' := am_pi h a (am_fd f).2.1 x) C hd hf hfin hk1 hk2 (v := .int x) ?_ rfl rfl (fun b hb => am_pi_n hb) ?_ k
  · intro t h1
    rcases ht with z | ⟨z, y⟩
    · rw [z] at h1
      cases h1
      exact ⟨rfl, rfl⟩
    · rw [z] at h1
      cases h1
      rcases y with rfl | rfl <;> exact ⟨rfl, rfl⟩
  · intro j
    have e2 := sd_fty hf hk1 hk2
    unfold sd_f
    rw [show am_k (am_pi h a (am_fd f).2.1 x) a = am_k h a from rfl, am_pi_s]
    by_cases ej : j = (am_fd f).2.1
    · rw [if_pos ej, ej, e2]
      rcases ht with z | ⟨z, -⟩ <;> rw [z] <;> simp [upd, sd_V]
    · rw [if_neg ej]
      simp only [upd, if_neg ej]
      rfl
theorem sd_putj {f a idx : Nat} {x : Int64} (C : sd_Cx dC dI dA s0 sv p s m args meth c q n0) (hd : decode q.2.1 pc = .ok (.putfield idx, 3)) (hf : LF_fl (am_on q.2.2.2.2) idx f) (hfin : (sd_fr f).2.2.2 = true → (sd_fr f).1 = am_on q.2.2.2.2 ∧ q.1.name = "<init>") (hk1 : (am_fd f).2.2.1 ≤ am_k h a) (hk2 : am_k h a ≤ (am_fd f).2.2.2) (ht : (am_fd f).1 = 1) (k : sd_W dC dI dA s0 sv p l e R s m args below meth c q n0 q0 Z (am_pj h a (am_fd f).2.1 x) (pc + 3) ls st) : sd_W dC dI dA s0 sv p l e R s m args below meth c q n0 q0 Z h pc ls (.long x :: .ref a :: st) := by
  refine sd_putf (h' := am_pj h a (am_fd f).2.1 x) C hd hf hfin hk1 hk2 (v := .long x) ?_ rfl rfl (fun b hb => am_pj_n hb) ?_ k
  · intro t h1
    rw [ht] at h1
    cases h1
    exact ⟨rfl, rfl⟩
  · intro j
    have e2 := sd_fty hf hk1 hk2
    unfold sd_f
    rw [show am_k (am_pj h a (am_fd f).2.1 x) a = am_k h a from rfl, am_pj_s]
    by_cases ej : j = (am_fd f).2.1
    · rw [if_pos ej, ej, e2, ht]
      simp [vp_updL, sd_V]
    · rw [if_neg ej]
      simp only [vp_updL, if_neg ej]
      rfl
theorem sd_putr {f a idx : Nat} {x : Nat} (C : sd_Cx dC dI dA s0 sv p s m args meth c q n0) (hd : decode q.2.1 pc = .ok (.putfield idx, 3)) (hf : LF_fl (am_on q.2.2.2.2) idx f) (hfin : (sd_fr f).2.2.2 = true → (sd_fr f).1 = am_on q.2.2.2.2 ∧ q.1.name = "<init>") (hk1 : (am_fd f).2.2.1 ≤ am_k h a) (hk2 : am_k h a ≤ (am_fd f).2.2.2) (ht : (am_fd f).1 = 2) (k : sd_W dC dI dA s0 sv p l e R s m args below meth c q n0 q0 Z (am_pr h a (am_fd f).2.1 x) (pc + 3) ls st) : sd_W dC dI dA s0 sv p l e R s m args below meth c q n0 q0 Z h pc ls (.ref x :: .ref a :: st) := by
  refine sd_putf (h' := am_pr h a (am_fd f).2.1 x) C hd hf hfin hk1 hk2 (v := .ref x) ?_ rfl rfl (fun b hb => am_pr_n hb) ?_ k
  · intro t h1
    rw [ht] at h1
    exact sd_rfit h1 (sd_c_or (sd_Cv C) x)
  · intro j
    have e2 := sd_fty hf hk1 hk2
    unfold sd_f
    rw [show am_k (am_pr h a (am_fd f).2.1 x) a = am_k h a from rfl, am_pr_s]
    by_cases ej : j = (am_fd f).2.1
    · rw [if_pos ej, ej, e2, ht]
      simp [va_up, sd_V]
    · rw [if_neg ej]
      simp only [va_up, if_neg ej]
      rfl
end SP
