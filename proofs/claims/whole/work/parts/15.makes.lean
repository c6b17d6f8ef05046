theorem am_al_k (h : am_H) (k n : Nat) : am_k (am_al h k n) (h.2.2.2.2.1 + 32) = k := by
  show (am_u1 h.2.2.2.1 (h.2.2.2.2.1 + 32) (k, n) (h.2.2.2.2.1 + 32)).1 = k
  rw [am_u1_s]
theorem am_al_n (h : am_H) (k n : Nat) : am_n (am_al h k n) (h.2.2.2.2.1 + 32) = n := by
  show (am_u1 h.2.2.2.1 (h.2.2.2.2.1 + 32) (k, n) (h.2.2.2.2.1 + 32)).2 = n
  rw [am_u1_s]
theorem am_al_q {h : am_H} {k n b : Nat} (hb : b ≠ h.2.2.2.2.1 + 32) : sd_q h (am_al h k n) b := ⟨am_u1_n _ _ hb, am_u1_n _ _ hb, am_u1_n _ _ hb, am_u1_n _ _ hb⟩
theorem am_al_ok {h : am_H} {k n : Nat} (hok : sd_ok h) (hk : k ≤ 25) : sd_ok (am_al h k n) := by
  intro r hr
  show r < h.2.2.2.2.1 + 1 + 32 ∧ _
  by_cases e : r = h.2.2.2.2.1 + 32
  · rw [e, am_al_k]
    exact ⟨by omega, fun z => by omega, fun _ => hk⟩
  · have e2 : am_k (am_al h k n) r = am_k h r := by unfold am_k; rw [(am_al_q (k := k) (n := n) e).2.2.2]
    rw [e2] at hr ⊢
    obtain ⟨a, b⟩ := hok r hr
    exact ⟨by omega, b⟩
section SA
variable {dC : Nat → ClassId} {dI : Nat → Nat → Nat} {dA : Nat → ClassId} {s0 : Nat} {sv : Nat → Value} {p : Program} {l : Launch} {e : Env} {R : Room} {s : State} {m : MethodId} {args : Array Value} {below : List Frame} {meth : Method} {c : Code} {q : am_M} {n0 q0 : Nat} {Z : State → Prop} {h : am_H} {pc : Nat} {ls st : List Value}
/-- the heap is just as large as the machine's -/
theorem sd_size {H : Heap} {locs : List Loc} {sl : Nat} {g : JFrame} (hz0 : s.heap.size = s0 + n0) (hS : sd_St dC dI dA s0 sv s n0 q0 h H locs) (kk : H.size = s0 + h.2.2.2.2.1 → W p l e R s m args below meth c H locs (h.2.2.2.2.1 - n0) sl Z g) : W p l e R s m args below meth c H locs (h.2.2.2.2.1 - n0) sl Z g := by
  intro T hT X
  refine kk ?_ T hT X
  have b1 := X.heapSize
  rw [hT, hz0] at b1
  obtain ⟨hP, hS1, -, -, hn0, -⟩ := hS
  have b2 := hS1.1
  rw [hz0] at b2
  by_cases hn : h.2.2.2.2.1 = 0
  · omega
  · have b3 : s0 + (h.2.2.2.2.1 - 1) < H.size := (hP _ _ (sd_w_at (show h.2.2.2.2.1 - 1 < h.2.2.2.2.1 by omega))).lt
    omega
/-- a new cell lies behind all others -/
theorem sd_fresh {H1 : Heap} {locs : List Loc} {sl a1 : Nat} {w : va_E} {g : JFrame} (hz0 : s.heap.size = s0 + n0) (hn0 : n0 ≤ h.2.2.2.2.1) (hP1 : va_P (dC, dI) sd_cl (sd_w dA s0 sv h ++ [(a1, w)]) H1) (hD1 : va_D (sd_A s0) (sd_w dA s0 sv h ++ [(a1, w)])) (kk : a1 = s0 + h.2.2.2.2.1 → W p l e R s m args below meth c H1 locs (h.2.2.2.2.1 - n0 + 1) sl Z g) : W p l e R s m args below meth c H1 locs (h.2.2.2.2.1 - n0 + 1) sl Z g := by
  intro T hT X
  refine kk ?_ T hT X
  have b1 := X.heapSize
  rw [hT, hz0] at b1
  have hlast : (sd_w dA s0 sv h ++ [(a1, w)])[h.2.2.2.2.1]? = some (a1, w) := by
    rw [List.getElem?_append_right (by rw [sd_w_len]; exact Nat.le_refl _), sd_w_len, Nat.sub_self]
    rfl
  have b2 : a1 < H1.size := (hP1 _ _ hlast).lt
  have b3 : s0 ≤ a1 := hD1.2 _ _ hlast
  rcases Nat.lt_or_ge a1 (s0 + h.2.2.2.2.1) with z | z
  · have hi : (sd_w dA s0 sv h ++ [(a1, w)])[a1 - s0]? = some (s0 + (a1 - s0), sd_E dA s0 sv h (a1 - s0 + 32)) := by
      rw [List.getElem?_append_left (by rw [sd_w_len]; omega)]
      exact sd_w_at (by omega)
    have := hD1.1 _ _ _ _ hlast hi (show a1 = s0 + (a1 - s0) by omega)
    omega
  · omega
/-- behind a new cell -/
theorem sd_St_new {k n : Nat} {H H1 : Heap} {locs : List Loc} {w : va_E} (hS : sd_St dC dI dA s0 sv s n0 q0 h H locs) (hk : k ≤ 25) (hP1 : va_P (dC, dI) sd_cl (sd_w dA s0 sv h ++ [(s0 + h.2.2.2.2.1, w)]) H1) (hw : sd_E dA s0 sv (am_al h k n) (h.2.2.2.2.1 + 32) = w) (hS1 : va_S (sd_A s0) s.heap H1 locs) : sd_St dC dI dA s0 sv s n0 q0 (am_al h k n) H1 locs := by
  obtain ⟨-, -, hok, hSS, hn0, hq0⟩ := hS
  refine ⟨?_, hS1, am_al_ok hok hk, sd_S_keep hSS (fun b hb => am_al_q (by omega)), Nat.le_succ_of_le hn0, Nat.le_trans hq0 (Nat.le_add_right _ _)⟩
  rw [sd_w_push (h' := am_al h k n) rfl (fun b hb => am_al_q hb), hw]
  exact hP1
theorem sd_new {cN idx : Nat} (C : sd_Cx dC dI dA s0 sv p s m args meth c q n0) (hd : decode q.2.1 pc = .ok (.new idx, 3)) (hc1 : 1 ≤ cN) (hc2 : cN ≤ 12) (hcl : Cond.classLink (am_on q.2.2.2.2) idx (sd_cl.getD cN ("", cT_1, 0)).1 ∈ lwG) (hR1 : h.2.2.2.2.1 + 1 - n0 ≤ R.cells) (hR2 : h.2.2.2.2.2 + am_sz cN - q0 ≤ R.slots) (k : sd_W dC dI dA s0 sv p l e R s m args below meth c q n0 q0 Z (am_al h cN (am_sz cN)) (pc + 3) ls (.ref (h.2.2.2.2.1 + 32) :: st)) : sd_W dC dI dA s0 sv p l e R s m args below meth c q n0 q0 Z h pc ls st := by
  intro H locs lsC hS hL hz
  have hn0 := hS.2.2.2.2.1
  have hq0 := hS.2.2.2.2.2
  have hN := sd_szok cN (by omega) hc1
  refine va_new (C := (sd_cl.getD cN ("", cT_1, 0)).1) (T := (sd_cl.getD cN ("", cT_1, 0)).2.1) (N := (sd_cl.getD cN ("", cT_1, 0)).2.2) (ci := cN) (fs := (List.range 40).map (fun j => sd_f s0 sv (am_al h cN (am_sz cN)) (h.2.2.2.2.1 + 32) j)) C.1 C.2.1 C.2.2.2.2.1 (lf_c cN (by omega)).1 (sd_cy.getD cN cY_1) (sd_tyok cN (by omega)) C.2.2.2.1 (C.2.2.2.2.1 _ hcl) (C.2.2.2.2.1 _ (lf_c cN (by omega)).2.1) (C.2.2.2.2.1 _ (lf_c cN (by omega)).2.2) C.2.2.2.2.2.2.1.1 hS.1 sd_D hS.2.1 (fun a ha => by rw [C.2.2.2.2.2.2.2] at ha; exact Nat.le_trans (Nat.le_add_right _ _) ha) (sd_clget (by omega)) (fun j hj => ?_) (by omega) (by rw [← hN]; omega) hd (fun a1 H1 hP1 hD1 hS1 => ?_)
  · have hdf := List.all_eq_true.mp (List.all_eq_true.mp sd_dfl0 cN (List.mem_range.mpr (by omega))) j (List.mem_range.mpr hj)
    simp only [Bool.or_eq_true, Bool.and_eq_true, decide_eq_true_eq] at hdf
    rcases hdf with z | ⟨z, y⟩
    · omega
    · rw [y]
      unfold vp_V
      rw [List.getD_eq_getElem?_getD, sd_f_at z]
      show _ = sd_f s0 sv (am_al h cN (am_sz cN)) (h.2.2.2.2.1 + 32) j
      unfold sd_f
      rw [am_al_k, show (am_al h cN (am_sz cN)).1 (h.2.2.2.2.1 + 32) = fun _ => 0 from am_u1_s _ _ _, show (am_al h cN (am_sz cN)).2.1 (h.2.2.2.2.1 + 32) = fun _ => 0 from am_u1_s _ _ _, show (am_al h cN (am_sz cN)).2.2.1 (h.2.2.2.2.1 + 32) = fun _ => 0 from am_u1_s _ _ _, sd_c_0 (sd_Cv C)]
      generalize sd_ty cN j = tt
      match tt with
      | 0 => rfl
      | 1 => rfl
      | 2 => rfl
      | _ + 3 => rfl
  · refine sd_fresh C.2.2.2.2.2.2.2 hn0 hP1 hD1 (fun z => ?_)
    subst z
    have kk := k H1 locs lsC (sd_St_new hS (by omega) hP1 (by rw [sd_E_o (by rw [am_al_k]; exact hc2), am_al_k]) hS1) hL hz
    rw [show (am_al h cN (am_sz cN)).2.2.2.2.1 - n0 = h.2.2.2.2.1 - n0 + 1 from Nat.sub_add_comm hn0, show (am_al h cN (am_sz cN)).2.2.2.2.2 - q0 = h.2.2.2.2.2 - q0 + am_sz cN from Nat.sub_add_comm hq0, hN] at kk
    change W p l e R s m args below meth c H1 locs _ _ Z (F0 m (pc + 3) lsC (sd_c s0 sv (h.2.2.2.2.1 + 32) :: st.map (sd_V s0 sv))) at kk
    rw [sd_c_hi (by omega), Nat.add_sub_cancel] at kk
    exact kk
theorem sd_newa_int {n : Int32} {N : Nat} (C : sd_Cx dC dI dA s0 sv p s m args meth c q n0) (hd : decode q.2.1 pc = .ok (.newarray .int, 2)) (hN : n.toNatClampNeg = N) (hn : 0 ≤ n.toInt) (hn2 : n.toInt ≤ 10000) (hR1 : h.2.2.2.2.1 + 1 - n0 ≤ R.cells) (hR2 : h.2.2.2.2.2 + N - q0 ≤ R.slots) (k : sd_W dC dI dA s0 sv p l e R s m args below meth c q n0 q0 Z (am_al h 20 N) (pc + 2) ls (.ref (h.2.2.2.2.1 + 32) :: st)) : sd_W dC dI dA s0 sv p l e R s m args below meth c q n0 q0 Z h pc ls (.int n :: st) := by
  intro H locs lsC hS hL hz
  have hn0 := hS.2.2.2.2.1
  have hq0 := hS.2.2.2.2.2
  have hN2 : N ≤ 10000 := by rw [← hN]; show n.toInt.toNat ≤ 10000; omega
  refine va_newa (atype := .int) (a0 := (N, .inl (fun _ => 0))) (N' := N) C.1 C.2.1 (C.2.2.2.2.1 _ wx_ai) rfl C.2.2.2.2.2.2.1.1 hS.1 sd_D hS.2.1 (fun a ha => by rw [C.2.2.2.2.2.2.2] at ha; exact Nat.le_trans (Nat.le_add_right _ _) ha) (fun _ => rfl) (fun z => by rw [Int32.lt_iff_toInt_lt] at z; exact absurd z (by simpa using hn)) hN (by show N * _ ≤ _; simp only [componentBytes, newarray.typeOf]; omega) (by omega) (by omega) hd (fun a1 cA H1 hK1 hP1 hD1 hS1 => ?_)
  have e1 : s.vm.findClass ("[" ++ (FieldType.int).toString) = some cA := (hK1.2 6 _ rfl).2
  have e2 : s.vm.findClass ("[" ++ (FieldType.int).toString) = some (dA 20) := (C.2.2.2.2.2.2.1.1.2 0 _ rfl).2
  have e3 : cA = dA 20 := Option.some.inj (e1.symm.trans e2)
  subst e3
  refine sd_fresh C.2.2.2.2.2.2.2 hn0 hP1 hD1 (fun z => ?_)
  subst z
  have kk := k H1 locs lsC (sd_St_new hS (by decide) hP1 (by rw [sd_E_i (am_al_k _ _ _), am_al_n, show (am_al h 20 N).1 (h.2.2.2.2.1 + 32) = fun _ => 0 from am_u1_s _ _ _]) hS1) hL hz
  rw [show (am_al h 20 N).2.2.2.2.1 - n0 = h.2.2.2.2.1 - n0 + 1 from Nat.sub_add_comm hn0, show (am_al h 20 N).2.2.2.2.2 - q0 = h.2.2.2.2.2 - q0 + N from Nat.sub_add_comm hq0] at kk
  change W p l e R s m args below meth c H1 locs _ _ Z (F0 m (pc + 2) lsC (sd_c s0 sv (h.2.2.2.2.1 + 32) :: st.map (sd_V s0 sv))) at kk
  rw [sd_c_hi (by omega), Nat.add_sub_cancel] at kk
  exact kk
theorem sd_newa_long {n : Int32} {N : Nat} (C : sd_Cx dC dI dA s0 sv p s m args meth c q n0) (hd : decode q.2.1 pc = .ok (.newarray .long, 2)) (hN : n.toNatClampNeg = N) (hn : 0 ≤ n.toInt) (hn2 : n.toInt ≤ 10000) (hR1 : h.2.2.2.2.1 + 1 - n0 ≤ R.cells) (hR2 : h.2.2.2.2.2 + N - q0 ≤ R.slots) (k : sd_W dC dI dA s0 sv p l e R s m args below meth c q n0 q0 Z (am_al h 21 N) (pc + 2) ls (.ref (h.2.2.2.2.1 + 32) :: st)) : sd_W dC dI dA s0 sv p l e R s m args below meth c q n0 q0 Z h pc ls (.int n :: st) := by
  intro H locs lsC hS hL hz
  have hn0 := hS.2.2.2.2.1
  have hq0 := hS.2.2.2.2.2
  have hN2 : N ≤ 10000 := by rw [← hN]; show n.toInt.toNat ≤ 10000; omega
  refine va_newa (atype := .long) (a0 := (N, .inr (.inl (fun _ => 0)))) (N' := N) C.1 C.2.1 (C.2.2.2.2.1 _ wx_al) rfl C.2.2.2.2.2.2.1.1 hS.1 sd_D hS.2.1 (fun a ha => by rw [C.2.2.2.2.2.2.2] at ha; exact Nat.le_trans (Nat.le_add_right _ _) ha) (fun _ => rfl) (fun z => by rw [Int32.lt_iff_toInt_lt] at z; exact absurd z (by simpa using hn)) hN (by show N * _ ≤ _; simp only [componentBytes, newarray.typeOf]; omega) (by omega) (by omega) hd (fun a1 cA H1 hK1 hP1 hD1 hS1 => ?_)
  have e1 : s.vm.findClass ("[" ++ (FieldType.long).toString) = some cA := (hK1.2 6 _ rfl).2
  have e2 : s.vm.findClass ("[" ++ (FieldType.long).toString) = some (dA 21) := (C.2.2.2.2.2.2.1.1.2 1 _ rfl).2
  have e3 : cA = dA 21 := Option.some.inj (e1.symm.trans e2)
  subst e3
  refine sd_fresh C.2.2.2.2.2.2.2 hn0 hP1 hD1 (fun z => ?_)
  subst z
  have kk := k H1 locs lsC (sd_St_new hS (by decide) hP1 (by rw [sd_E_j (am_al_k _ _ _), am_al_n, show (am_al h 21 N).2.1 (h.2.2.2.2.1 + 32) = fun _ => 0 from am_u1_s _ _ _]) hS1) hL hz
  rw [show (am_al h 21 N).2.2.2.2.1 - n0 = h.2.2.2.2.1 - n0 + 1 from Nat.sub_add_comm hn0, show (am_al h 21 N).2.2.2.2.2 - q0 = h.2.2.2.2.2 - q0 + N from Nat.sub_add_comm hq0] at kk
  change W p l e R s m args below meth c H1 locs _ _ Z (F0 m (pc + 2) lsC (sd_c s0 sv (h.2.2.2.2.1 + 32) :: st.map (sd_V s0 sv))) at kk
  rw [sd_c_hi (by omega), Nat.add_sub_cancel] at kk
  exact kk
theorem sd_newa_byte {n : Int32} {N : Nat} (C : sd_Cx dC dI dA s0 sv p s m args meth c q n0) (hd : decode q.2.1 pc = .ok (.newarray .byte, 2)) (hN : n.toNatClampNeg = N) (hn : 0 ≤ n.toInt) (hn2 : n.toInt ≤ 10000) (hR1 : h.2.2.2.2.1 + 1 - n0 ≤ R.cells) (hR2 : h.2.2.2.2.2 + N - q0 ≤ R.slots) (k : sd_W dC dI dA s0 sv p l e R s m args below meth c q n0 q0 Z (am_al h 22 N) (pc + 2) ls (.ref (h.2.2.2.2.1 + 32) :: st)) : sd_W dC dI dA s0 sv p l e R s m args below meth c q n0 q0 Z h pc ls (.int n :: st) := by
  intro H locs lsC hS hL hz
  have hn0 := hS.2.2.2.2.1
  have hq0 := hS.2.2.2.2.2
  have hN2 : N ≤ 10000 := by rw [← hN]; show n.toInt.toNat ≤ 10000; omega
  refine va_newa (atype := .byte) (a0 := (N, .inl (fun _ => 0))) (N' := N) C.1 C.2.1 (C.2.2.2.2.1 _ wx_ab) rfl C.2.2.2.2.2.2.1.1 hS.1 sd_D hS.2.1 (fun a ha => by rw [C.2.2.2.2.2.2.2] at ha; exact Nat.le_trans (Nat.le_add_right _ _) ha) (fun _ => rfl) (fun z => by rw [Int32.lt_iff_toInt_lt] at z; exact absurd z (by simpa using hn)) hN (by show N * _ ≤ _; simp only [componentBytes, newarray.typeOf]; omega) (by omega) (by omega) hd (fun a1 cA H1 hK1 hP1 hD1 hS1 => ?_)
  have e1 : s.vm.findClass ("[" ++ (FieldType.byte).toString) = some cA := (hK1.2 6 _ rfl).2
  have e2 : s.vm.findClass ("[" ++ (FieldType.byte).toString) = some (dA 22) := (C.2.2.2.2.2.2.1.1.2 2 _ rfl).2
  have e3 : cA = dA 22 := Option.some.inj (e1.symm.trans e2)
  subst e3
  refine sd_fresh C.2.2.2.2.2.2.2 hn0 hP1 hD1 (fun z => ?_)
  subst z
  have kk := k H1 locs lsC (sd_St_new hS (by decide) hP1 (by rw [sd_E_b (am_al_k _ _ _), am_al_n, show (am_al h 22 N).1 (h.2.2.2.2.1 + 32) = fun _ => 0 from am_u1_s _ _ _]) hS1) hL hz
  rw [show (am_al h 22 N).2.2.2.2.1 - n0 = h.2.2.2.2.1 - n0 + 1 from Nat.sub_add_comm hn0, show (am_al h 22 N).2.2.2.2.2 - q0 = h.2.2.2.2.2 - q0 + N from Nat.sub_add_comm hq0] at kk
  change W p l e R s m args below meth c H1 locs _ _ Z (F0 m (pc + 2) lsC (sd_c s0 sv (h.2.2.2.2.1 + 32) :: st.map (sd_V s0 sv))) at kk
  rw [sd_c_hi (by omega), Nat.add_sub_cancel] at kk
  exact kk
theorem sd_newa_q {n : Int32} {N idx : Nat} (C : sd_Cx dC dI dA s0 sv p s m args meth c q n0) (hd : decode q.2.1 pc = .ok (.anewarray idx, 3)) (hcl : Cond.classLink (am_on q.2.2.2.2) idx "ThreeSizes$Thing" ∈ lwG) (hN : n.toNatClampNeg = N) (hn : 0 ≤ n.toInt) (hn2 : n.toInt ≤ 10000) (hR1 : h.2.2.2.2.1 + 1 - n0 ≤ R.cells) (hR2 : h.2.2.2.2.2 + N - q0 ≤ R.slots) (k : sd_W dC dI dA s0 sv p l e R s m args below meth c q n0 q0 Z (am_al h 23 N) (pc + 3) ls (.ref (h.2.2.2.2.1 + 32) :: st)) : sd_W dC dI dA s0 sv p l e R s m args below meth c q n0 q0 Z h pc ls (.int n :: st) := by
  intro H locs lsC hS hL hz
  have hn0 := hS.2.2.2.2.1
  have hq0 := hS.2.2.2.2.2
  have hN2 : N ≤ 10000 := by rw [← hN]; show n.toInt.toNat ≤ 10000; omega
  refine va_newq (N' := N) C.1 C.2.1 C.2.2.2.1 (C.2.2.2.2.1 _ hcl) C.2.2.2.2.2.2.1.2.2.2.2.2.2.2.1 C.2.2.2.2.2.2.1.1 hS.1 sd_D hS.2.1 (fun a ha => by rw [C.2.2.2.2.2.2.2] at ha; exact Nat.le_trans (Nat.le_add_right _ _) ha) (fun z => by rw [Int32.lt_iff_toInt_lt] at z; exact absurd z (by simpa using hn)) hN (by omega) (by omega) (by omega) hd (fun a1 cA H1 hK1 hP1 hD1 hS1 => ?_)
  obtain ⟨-, -, -, -, -, e1⟩ := (hK1.2 6 _ rfl).2
  obtain ⟨-, -, -, -, -, e2⟩ := (C.2.2.2.2.2.2.1.1.2 3 _ rfl).2
  have e3 : cA = dA 23 := Option.some.inj (e1.symm.trans e2)
  subst e3
  refine sd_fresh C.2.2.2.2.2.2.2 hn0 hP1 hD1 (fun z => ?_)
  subst z
  have kk := k H1 locs lsC (sd_St_new hS (by decide) hP1 (by
    rw [sd_E_q1 (Or.inl (am_al_k _ _ _)), am_al_n, am_al_k, show (am_al h 23 N).2.2.1 (h.2.2.2.2.1 + 32) = fun _ => 0 from am_u1_s _ _ _]
    refine congrArg (fun f => (Sum.inl (dA 23, N, Sum.inr (Sum.inr (Sum.inr (Sum.inr f)))) : va_E)) (funext fun j => ?_)
    show sd_o s0 sv 0 = none
    unfold sd_o
    rw [sd_c_0 (sd_Cv C)]) hS1) hL hz
  rw [show (am_al h 23 N).2.2.2.2.1 - n0 = h.2.2.2.2.1 - n0 + 1 from Nat.sub_add_comm hn0, show (am_al h 23 N).2.2.2.2.2 - q0 = h.2.2.2.2.2 - q0 + N from Nat.sub_add_comm hq0] at kk
  change W p l e R s m args below meth c H1 locs _ _ Z (F0 m (pc + 3) lsC (sd_c s0 sv (h.2.2.2.2.1 + 32) :: st.map (sd_V s0 sv))) at kk
  rw [sd_c_hi (by omega), Nat.add_sub_cancel] at kk
  exact kk
theorem sd_outer (cA : ClassId) (N h0 : Nat) : ∀ i : Nat, Jvm.Free.Multi.outerC cA N h0 i = arrV cA N (fun j => if j < i then .ref (h0 + 1 + j) else .null)
  | 0 => by
    show ({ cls := cA, slots := Array.replicate N .null, vm := .none } : Cell) = _
    rw [arrV_new]
    refine congrArg (arrV cA N) (funext fun j => ?_)
    simp
  | i + 1 => by
    show (Jvm.Free.Multi.outerC cA N h0 i).setSlot i (.ref (h0 + 1 + i)) = _
    rw [sd_outer cA N h0 i, arrV_store]
    refine congrArg (arrV cA N) (funext fun j => ?_)
    by_cases e1 : j = i
    · subst e1
      simp [updV]
    · by_cases h1 : j < i
      · simp [updV, e1, h1, Nat.lt_succ_of_lt h1]
      · simp [updV, e1, h1, show ¬ j < i + 1 by omega]
theorem sd_mna {n k1 : Int32} {N M idx kO kI tO tI : Nat} {ty : FieldType} (C : sd_Cx dC dI dA s0 sv p s m args meth c q n0) (hd : decode q.2.1 pc = .ok (.multianewarray idx 2, 4)) (hcl : Cond.classLink (am_on q.2.2.2.2) idx ("[" ++ (FieldType.array ty).toString) ∈ lwG) (hov : (Cond.arrayOver (.array ty)).before #[] s = true) (hac : Cond.arrayClass ty ∈ lwG) (htO : (sd_tys dA)[tO]? = some (dA kO, .array ty)) (htI : (sd_tys dA)[tI]? = some (dA kI, ty)) (hkO : kO = 24 ∨ kO = 25) (hty : (ty = .int ∧ kI = 20) ∨ (ty = .long ∧ kI = 21))
    (hN : n.toNatClampNeg = N) (hM : k1.toNatClampNeg = M) (hn : 0 ≤ n.toInt) (hn2 : n.toInt ≤ 10000) (hm : 0 ≤ k1.toInt) (hm2 : k1.toInt ≤ 10000) (hR1 : h.2.2.2.2.1 + (1 + N) - n0 ≤ R.cells) (hR2 : h.2.2.2.2.2 + (N + N * M) - q0 ≤ R.slots) (k : sd_W dC dI dA s0 sv p l e R s m args below meth c q n0 q0 Z (am_al2 h kO kI N M) (pc + 4) ls (.ref (h.2.2.2.2.1 + 32) :: st)) : sd_W dC dI dA s0 sv p l e R s m args below meth c q n0 q0 Z h pc ls (.int k1 :: .int n :: st) := by
  intro H locs lsC hS hL hz
  have hn0 := hS.2.2.2.2.1
  have hq0 := hS.2.2.2.2.2
  have hN2 : N ≤ 10000 := by rw [← hN]; show n.toInt.toNat ≤ 10000; omega
  have hM2 : M ≤ 10000 := by rw [← hM]; show k1.toInt.toNat ≤ 10000; omega
  refine sd_size C.2.2.2.2.2.2.2 hS (fun hsz => ?_)
  intro T hT X
  subst hN
  subst hM
  have hneg : ∀ z : Int32, 0 ≤ z.toInt → ¬ z < 0 := fun z hz1 hz2 => by rw [Int32.lt_iff_toInt_lt] at hz2; exact absurd hz2 (by simpa using hz1)
  have hcb : componentBytes ty ≤ 8 := by rcases hty with ⟨rfl, -⟩ | ⟨rfl, -⟩ <;> decide
  have hdf : fits ty (defaultValue ty) = true := by rcases hty with ⟨rfl, -⟩ | ⟨rfl, -⟩ <;> rfl
  have hdd : (defaultValue ty).isDefault = true := by rcases hty with ⟨rfl, -⟩ | ⟨rfl, -⟩ <;> rfl
  obtain ⟨vm₁, cA, comp, -, fA, fC, hO, -, X', step⟩ := X.multianewarray2F C.1 C.2.2.2.1 (C.2.2.2.2.1 _ hcl) (show (Cond.arrayOver (.array ty)).before args s = true from hov) (C.2.2.2.2.1 _ hac) (g := F0 m pc lsC (.int k1 :: .int n :: st.map (sd_V s0 sv))) rfl (by rw [C.2.1]; exact hd) rfl (hneg n hn) (hneg k1 hm) (by omega) (Nat.le_trans (Nat.mul_le_mul hM2 hcb) (by decide)) (by omega) hdf hdd (by omega) (by omega)
  have eO : dA kO = cA := Option.some.inj ((C.2.2.2.2.2.2.1.1.2 tO _ htO).2.symm.trans fA)
  have eI : dA kI = comp := by
    have h9 := (C.2.2.2.2.2.2.1.1.2 tI _ htI).2
    rcases hty with ⟨rfl, -⟩ | ⟨rfl, -⟩ <;> exact Option.some.inj (Eq.trans (Eq.symm h9) fC)
  subst eO
  subst eI
  generalize hF : Jvm.Free.Multi.fill (T.setVm vm₁) (dA kO) (dA kI) n.toNatClampNeg k1.toNatClampNeg (defaultValue ty) n.toNatClampNeg = F at X' step
  have hTh : (T.setVm vm₁).heap = H := hT
  obtain ⟨f1, f2, -, -⟩ := Jvm.Free.Multi.fill_facts (T.setVm vm₁) (dA kO) (dA kI) n.toNatClampNeg k1.toNatClampNeg (defaultValue ty) n.toNatClampNeg
  rw [hF, hTh] at f1 f2
  have hold : ∀ x : Nat, x < H.size → F.heap[x]? = H[x]? := fun x hx => by
    have := Jvm.Free.Multi.fill_old (T.setVm vm₁) (dA kO) (dA kI) n.toNatClampNeg k1.toNatClampNeg (defaultValue ty) (a := x) (by rw [hTh]; exact hx) n.toNatClampNeg
    rw [hF, hTh] at this
    exact this
  have hrow : ∀ j : Nat, j < n.toNatClampNeg → F.heap[H.size + 1 + j]? = some (Jvm.Free.Multi.innerC (dA kI) k1.toNatClampNeg (defaultValue ty)) := fun j hj => by
    have := Jvm.Free.Multi.fill_inner (T.setVm vm₁) (dA kO) (dA kI) n.toNatClampNeg k1.toNatClampNeg (defaultValue ty) n.toNatClampNeg j hj
    rw [hF, hTh] at this
    exact this
  rw [sd_outer] at f2
  generalize hh2 : am_al2 h kO kI n.toNatClampNeg k1.toNatClampNeg = h2 at k
  have hin1 : h2.1 = fun b => if h.2.2.2.2.1 + 32 ≤ b ∧ b ≤ h.2.2.2.2.1 + 32 + n.toNatClampNeg then fun _ => 0 else h.1 b := by rw [← hh2]; rfl
  have hin2 : h2.2.1 = fun b => if h.2.2.2.2.1 + 32 ≤ b ∧ b ≤ h.2.2.2.2.1 + 32 + n.toNatClampNeg then fun _ => 0 else h.2.1 b := by rw [← hh2]; rfl
  have hin3 : h2.2.2.1 = fun b => if b = h.2.2.2.2.1 + 32 then (fun j => if j < n.toNatClampNeg then h.2.2.2.2.1 + 33 + j else 0) else if h.2.2.2.2.1 + 32 ≤ b ∧ b ≤ h.2.2.2.2.1 + 32 + n.toNatClampNeg then fun _ => 0 else h.2.2.1 b := by rw [← hh2]; rfl
  have hin4 : h2.2.2.2.1 = fun b => if b = h.2.2.2.2.1 + 32 then (kO, n.toNatClampNeg) else if h.2.2.2.2.1 + 32 ≤ b ∧ b ≤ h.2.2.2.2.1 + 32 + n.toNatClampNeg then (kI, k1.toNatClampNeg) else h.2.2.2.1 b := by rw [← hh2]; rfl
  have hin5 : h2.2.2.2.2.1 = h.2.2.2.2.1 + (1 + n.toNatClampNeg) := by rw [← hh2]; rfl
  have hin6 : h2.2.2.2.2.2 = h.2.2.2.2.2 + (n.toNatClampNeg + n.toNatClampNeg * k1.toNatClampNeg) := by rw [← hh2]; rfl
  have hqo : ∀ b, ¬ (h.2.2.2.2.1 + 32 ≤ b ∧ b ≤ h.2.2.2.2.1 + 32 + n.toNatClampNeg) → sd_q h h2 b := fun b hb => by
    have hb2 : b ≠ h.2.2.2.2.1 + 32 := fun z => hb (by omega)
    exact ⟨by rw [hin1]; exact if_neg hb, by rw [hin2]; exact if_neg hb, by rw [hin3]; show (if _ then _ else _) = _; rw [if_neg hb2, if_neg hb], by rw [hin4]; show (if _ then _ else _) = _; rw [if_neg hb2, if_neg hb]⟩
  have hkO2 : h2.2.2.2.1 (h.2.2.2.2.1 + 32) = (kO, n.toNatClampNeg) := by rw [hin4]; exact if_pos rfl
  have hkI2 : ∀ j, j < n.toNatClampNeg → h2.2.2.2.1 (h.2.2.2.2.1 + 33 + j) = (kI, k1.toNatClampNeg) := fun j hj => by
    rw [hin4]
    show (if _ then _ else _) = _
    rw [if_neg (by omega), if_pos (by omega)]
  have hPn : va_P (dC, dI) sd_cl (sd_w dA s0 sv h2) F.heap := by
    intro j w hw
    obtain ⟨hj, rfl⟩ := sd_w_of hw
    rw [hin5] at hj
    rcases Nat.lt_trichotomy j h.2.2.2.2.1 with z | z | z
    · rw [sd_E_q (hqo (j + 32) (by omega))]
      exact (hS.1 j _ (sd_w_at z)).kept (hold _ (by rw [hsz]; show s0 + j < _; omega))
    · subst z
      have e3 : sd_E dA s0 sv h2 (h.2.2.2.2.1 + 32) = .inl (dA kO, n.toNatClampNeg, .inr (.inr (.inr (.inr (fun j => sd_o s0 sv (h2.2.2.1 (h.2.2.2.2.1 + 32) j)))))) := by
        rw [sd_E_q1 (by unfold am_k; rw [hkO2]; rcases hkO with z | z <;> simp [z])]
        unfold am_k am_n
        rw [hkO2]
      rw [e3]
      show F.heap[s0 + h.2.2.2.2.1]? = some (vp_cell _ _)
      rw [← hsz, f2, vp_cell_q]
      refine congrArg some (congrArg (arrV (dA kO) n.toNatClampNeg) (funext fun j => ?_))
      have e9 : h2.2.2.1 (h.2.2.2.2.1 + 32) = (fun j => if j < n.toNatClampNeg then h.2.2.2.2.1 + 33 + j else 0) := by rw [hin3]; exact if_pos rfl
      rw [sd_rf (sd_Cv C), e9]
      show _ = sd_c s0 sv (if j < n.toNatClampNeg then h.2.2.2.2.1 + 33 + j else 0)
      by_cases hj2 : j < n.toNatClampNeg
      · rw [if_pos hj2, if_pos hj2, sd_c_hi (by omega), hsz]
        exact congrArg Value.ref (by show s0 + h.2.2.2.2.1 + 1 + j = s0 + (h.2.2.2.2.1 + 33 + j - 32); omega)
      · rw [if_neg hj2, if_neg hj2, sd_c_0 (sd_Cv C)]
    · obtain ⟨i, rfl⟩ : ∃ i, j = h.2.2.2.2.1 + 1 + i := ⟨j - (h.2.2.2.2.1 + 1), by omega⟩
      have hi : i < n.toNatClampNeg := by omega
      have ek : h2.2.2.2.1 (h.2.2.2.2.1 + 1 + i + 32) = (kI, k1.toNatClampNeg) := by
        rw [show h.2.2.2.2.1 + 1 + i + 32 = h.2.2.2.2.1 + 33 + i by omega]
        exact hkI2 i hi
      have e1 : h2.1 (h.2.2.2.2.1 + 1 + i + 32) = fun _ => 0 := by rw [hin1]; exact if_pos (by omega)
      have e2 : h2.2.1 (h.2.2.2.2.1 + 1 + i + 32) = fun _ => 0 := by rw [hin2]; exact if_pos (by omega)
      have hr := hrow i hi
      rw [hsz, show s0 + h.2.2.2.2.1 + 1 + i = s0 + (h.2.2.2.2.1 + 1 + i) by omega] at hr
      rcases hty with ⟨rfl, rfl⟩ | ⟨rfl, rfl⟩
      · rw [sd_E_i (by unfold am_k; rw [ek])]
        unfold am_n
        rw [ek, e1]
        show F.heap[s0 + (h.2.2.2.2.1 + 1 + i)]? = some (vp_cell _ _)
        rw [hr, vp_cell_i]
        exact congrArg some (arrV_new _ _ _)
      · rw [sd_E_j (by unfold am_k; rw [ek])]
        unfold am_n
        rw [ek, e2]
        show F.heap[s0 + (h.2.2.2.2.1 + 1 + i)]? = some (vp_cell _ _)
        rw [hr, vp_cell_l]
        exact congrArg some (arrV_new _ _ _)
  have hokn : sd_ok h2 := by
    intro r hr
    rw [hin5]
    by_cases hb : h.2.2.2.2.1 + 32 ≤ r ∧ r ≤ h.2.2.2.2.1 + 32 + n.toNatClampNeg
    · refine ⟨by omega, fun z => by omega, fun _ => ?_⟩
      by_cases hb2 : r = h.2.2.2.2.1 + 32
      · unfold am_k
        rw [hb2, hkO2]
        show kO ≤ 25
        omega
      · unfold am_k
        rw [show r = h.2.2.2.2.1 + 33 + (r - (h.2.2.2.2.1 + 33)) by omega, hkI2 _ (by omega)]
        show kI ≤ 25
        rcases hty with ⟨-, rfl⟩ | ⟨-, rfl⟩ <;> decide
    · have e2 : am_k h2 r = am_k h r := by unfold am_k; rw [(hqo r hb).2.2.2]
      rw [e2] at hr ⊢
      obtain ⟨a, b⟩ := hS.2.2.1 r hr
      exact ⟨by omega, b⟩
  have hSn : va_S (sd_A s0) s.heap F.heap locs := ⟨Nat.le_trans hS.2.1.1 (by rw [f1]; omega), fun x h1 h2 => (hold x (Nat.lt_of_lt_of_le h1 hS.2.1.1)).trans (hS.2.1.2.1 x h1 h2), hS.2.1.2.2⟩
  have kk := k F.heap locs lsC ⟨hPn, hSn, hokn, sd_S_keep hS.2.2.2.1 (fun b hb => hqo b (by omega)), by rw [hin5]; omega, by rw [hin6]; omega⟩ hL hz
  rw [hin5, hin6, show h.2.2.2.2.1 + (1 + n.toNatClampNeg) - n0 = h.2.2.2.2.1 - n0 + 1 + n.toNatClampNeg by omega, show h.2.2.2.2.2 + (n.toNatClampNeg + n.toNatClampNeg * k1.toNatClampNeg) - q0 = h.2.2.2.2.2 - q0 + n.toNatClampNeg + n.toNatClampNeg * k1.toNatClampNeg by omega] at kk
  change W p l e R s m args below meth c F.heap locs _ _ Z (F0 m (pc + 4) lsC (sd_c s0 sv (h.2.2.2.2.1 + 32) :: st.map (sd_V s0 sv))) at kk
  rw [sd_c_hi (by omega), Nat.add_sub_cancel] at kk
  obtain ⟨t, a1, b1⟩ := kk F rfl X'
  refine ⟨t, step t ?_, b1⟩
  rw [show T.heap.size = s0 + h.2.2.2.2.1 by rw [hT]; exact hsz]
  exact a1
end SA
