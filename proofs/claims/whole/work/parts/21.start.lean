/-! THE START OF THE LAW: the launch's handles, and the claim out of the machine's run -/
theorem am_s_lim {i : Instr} {ls st ls' st' : List Value} {h h' : am_H} (e : am_s i ls st h = some (ls', st', h')) (h1 : h.2.2.2.2.1 ≤ 600000) (h2 : h.2.2.2.2.2 ≤ 7302250) : h'.2.2.2.2.1 ≤ 600000 ∧ h'.2.2.2.2.2 ≤ 7302250 := by
  unfold am_s at e
  repeat' split at e
  all_goals first
    | (cases e; done)
    | (cases e; exact ⟨h1, h2⟩)
    | (rename_i hg; cases e; exact ⟨hg.2.2.1, hg.2.2.2⟩)
    | (rename_i hg _; cases e; exact ⟨hg.2.2.1, hg.2.2.2⟩)
    | (rename_i hg _; cases e; exact ⟨hg.2.2.2.2.1, hg.2.2.2.2.2⟩)
    | (rename_i hg; cases e; exact ⟨hg.2.2.2.2.1, hg.2.2.2.2.2⟩)
theorem am_x_lim : ∀ (n d y : Nat) (ops : List am_O) (ls st : List Value) (h : am_H) (r : Option Value) (h' : am_H), am_x n d y ops ls st h = some (r, h') → h.2.2.2.2.1 ≤ 600000 → h.2.2.2.2.2 ≤ 7302250 → h'.2.2.2.2.1 ≤ 600000 ∧ h'.2.2.2.2.2 ≤ 7302250 := by
  intro n
  induction n with
  | zero => intro d y ops ls st h r h' e; simp [am_x] at e
  | succ n ih =>
    intro d y ops ls st h r h' e h1 h2
    unfold am_x at e
    split at e
    · cases e
    · exact ih _ _ _ _ _ _ _ _ e h1 h2
    · split at e
      · exact ih _ _ _ _ _ _ _ _ e h1 h2
      · exact ih _ _ _ _ _ _ _ _ e h1 h2
      · split at e
        · cases e; exact ⟨h1, h2⟩
        · split at e
          · split at e
            · cases e
            · split at e
              · rename_i h3
                have a := ih _ _ _ _ _ _ _ _ h3 h1 h2
                exact ih _ _ _ _ _ _ _ _ e a.1 a.2
              · cases e
          · split at e
            · rename_i h3
              have a := am_s_lim h3 h1 h2
              exact ih _ _ _ _ _ _ _ _ e a.1 a.2
            · cases e
def st_byt : List (List Int32) := [[115, 111, 114, 116], [99, 111, 109, 101, 115], [119, 111, 114, 116, 104], [98, 97, 99, 107], [98, 111, 120], [103, 111, 101, 115], [110, 101, 97, 114], [119, 97, 121]]
def st_len : List Nat := [4, 5, 5, 4, 3, 4, 4, 3]
/-- the heap at the start: 1 is STEP, 2 to 9 the texts, 10 the script (L ints xs), 12 to 19 the texts' bytes -/
def st_ci (xs : Nat → Int32) : Nat → Nat → Int32 := fun r => match r with
  | 1 => fun j => ([1, 5, 25] : List Int32).getD j 0
  | 10 => xs
  | 12 => fun j => (st_byt.getD 0 []).getD j 0
  | 13 => fun j => (st_byt.getD 1 []).getD j 0
  | 14 => fun j => (st_byt.getD 2 []).getD j 0
  | 15 => fun j => (st_byt.getD 3 []).getD j 0
  | 16 => fun j => (st_byt.getD 4 []).getD j 0
  | 17 => fun j => (st_byt.getD 5 []).getD j 0
  | 18 => fun j => (st_byt.getD 6 []).getD j 0
  | 19 => fun j => (st_byt.getD 7 []).getD j 0
  | _ => fun _ => 0
def st_cr : Nat → Nat → Nat := fun r j => if 2 ≤ r ∧ r ≤ 9 ∧ j = 0 then r + 10 else 0
def st_kd (L : Nat) : Nat → Nat × Nat := fun r => match r with
  | 1 => (30, 3)
  | 2 => (40, 0)
  | 3 => (40, 0)
  | 4 => (40, 0)
  | 5 => (40, 0)
  | 6 => (40, 0)
  | 7 => (40, 0)
  | 8 => (40, 0)
  | 9 => (40, 0)
  | 10 => (30, L)
  | 12 => (31, 4)
  | 13 => (31, 5)
  | 14 => (31, 5)
  | 15 => (31, 4)
  | 16 => (31, 3)
  | 17 => (31, 4)
  | 18 => (31, 4)
  | 19 => (31, 3)
  | _ => (0, 0)
def st_h (L : Nat) (xs : Nat → Int32) : am_H := (st_ci xs, fun _ _ => 0, st_cr, st_kd L, 0, 0)
def st_sv (t1 b : Nat) (adK adV : Nat → Nat) (fv : Value) (r : Nat) : Value := if r = 0 then .null else if r = 1 then .ref t1 else if r = 10 then .ref b else if r = 40 then fv else if 2 ≤ r ∧ r ≤ 9 then .ref (adK (r - 2)) else if 12 ≤ r ∧ r ≤ 19 then .ref (adV (r - 12)) else .ref 0
def st_tm (i : Nat) : Term := .string "ThreeSizes$Tape" (([38, 77, 83, 89, 47, 62, 66, 70] : List Nat).getD i 0)
theorem st_f1 : (Cond.arrayOf (.static "ThreeSizes$Wall" "STEP" "[I") .int) ∈ (flatC (Jvm.Cond.and given_1 narrow_1)) := by decide +kernel
theorem st_f2 : (Cond.eq (.length (.static "ThreeSizes$Wall" "STEP" "[I")) (.int 3)) ∈ (flatC (Jvm.Cond.and given_1 narrow_1)) := by decide +kernel
theorem st_f3_0 : (Cond.eq (.elem (.static "ThreeSizes$Wall" "STEP" "[I") (.int 0)) (.int 1)) ∈ (flatC (Jvm.Cond.and given_1 narrow_1)) := by decide +kernel
theorem st_f3_1 : (Cond.eq (.elem (.static "ThreeSizes$Wall" "STEP" "[I") (.int 1)) (.int 5)) ∈ (flatC (Jvm.Cond.and given_1 narrow_1)) := by decide +kernel
theorem st_f3_2 : (Cond.eq (.elem (.static "ThreeSizes$Wall" "STEP" "[I") (.int 2)) (.int 25)) ∈ (flatC (Jvm.Cond.and given_1 narrow_1)) := by decide +kernel
theorem st_f4 : (Cond.eq (.static "java/lang/String" "COMPACT_STRINGS" "Z") (.int 1)) ∈ (flatC (Jvm.Cond.and given_1 narrow_1)) := by decide +kernel
theorem st_f5 : (Cond.isRef (.static "jdk/internal/util/Preconditions" "SIOOBE_FORMATTER" "Ljava/util/function/BiFunction;")) ∈ (flatC (Jvm.Cond.and given_1 narrow_1)) := by decide +kernel
theorem st_s1 : ∀ i, i < 8 → (Cond.exactly (st_tm i) "java/lang/String") ∈ (flatC (Jvm.Cond.and given_1 narrow_1)) := by decide +kernel
theorem st_s2 : ∀ i, i < 8 → (Cond.eq (.field (st_tm i) "java/lang/String" "coder" "B") (.int 0)) ∈ (flatC (Jvm.Cond.and given_1 narrow_1)) := by decide +kernel
theorem st_s3 : ∀ i, i < 8 → (Cond.arrayOf (.field (st_tm i) "java/lang/String" "value" "[B") .byte) ∈ (flatC (Jvm.Cond.and given_1 narrow_1)) := by decide +kernel
theorem st_s4 : ∀ i, i < 8 → (Cond.eq (.length (.field (st_tm i) "java/lang/String" "value" "[B")) (.int (Int32.ofNat (st_len.getD i 0)))) ∈ (flatC (Jvm.Cond.and given_1 narrow_1)) := by decide +kernel
theorem st_s5 : ∀ i, i < 8 → ∀ j, j < st_len.getD i 0 → (Cond.eq (.elem (.field (st_tm i) "java/lang/String" "value" "[B") (.int (Int32.ofNat j))) (.int ((st_byt.getD i []).getD j 0))) ∈ (flatC (Jvm.Cond.and given_1 narrow_1)) := by decide +kernel
theorem st_s6 : ∀ i, i < 8 → ∀ j, j < 8 → i ≠ j → (Cond.not (Cond.eq (st_tm i) (st_tm j))) ∈ (flatC (Jvm.Cond.and given_1 narrow_1)) ∨ (Cond.not (Cond.eq (st_tm j) (st_tm i))) ∈ (flatC (Jvm.Cond.and given_1 narrow_1)) := by decide +kernel
def st_tm2 (i : Nat) : Term := .string "ThreeSizesModel" (([217, 218, 219, 224, 226, 228, 229, 231] : List Nat).getD i 0)
theorem st_s7 : ∀ i, i < 8 → (Cond.eq (st_tm i) (st_tm2 i)) ∈ (flatC (Jvm.Cond.and given_1 narrow_1)) ∨ (Cond.eq (st_tm2 i) (st_tm i)) ∈ (flatC (Jvm.Cond.and given_1 narrow_1)) := by decide +kernel
theorem st_nc : ∀ q ∈ sd_nc, (Cond.not (.castable (sd_cl.getD q.1 ("", cT_1, 0)).1 (sd_in q.2))) ∈ (flatC (Jvm.Cond.and given_1 narrow_1)) := by decide +kernel
theorem st_nw : ∀ w ∈ sd_nw, w ∈ lw_tbl ∧ w.onTables = true := by decide +kernel
theorem st_str : ∀ q ∈ sd_str, Cond.stringRef q.1 q.2.1 q.2.2.1 ∈ lw_tbl ∧ 2 ≤ q.2.2.2 ∧ q.2.2.2 ≤ 9 ∧ ((q.1, q.2.1) = ("ThreeSizes$Tape", ([38, 77, 83, 89, 47, 62, 66, 70] : List Nat).getD (q.2.2.2 - 2) 0) ∨ (q.1, q.2.1) = ("ThreeSizesModel", ([217, 218, 219, 224, 226, 228, 229, 231] : List Nat).getD (q.2.2.2 - 2) 0)) := by decide +kernel
theorem st_w1 : Cond.laysStatic "ThreeSizes$Wall" "STEP" "[I" ∈ lw_tbl ∧ Cond.initialized "ThreeSizes$Wall" ∈ lw_tbl ∧ Cond.laysStatic "java/lang/String" "COMPACT_STRINGS" "Z" ∈ lw_tbl ∧ Cond.initialized "java/lang/String" ∈ lw_tbl ∧ Cond.laysStatic "jdk/internal/util/Preconditions" "SIOOBE_FORMATTER" "Ljava/util/function/BiFunction;" ∈ lw_tbl ∧ Cond.initialized "jdk/internal/util/Preconditions" ∈ lw_tbl := by decide +kernel
theorem st_w2 : Cond.arrayClass .int ∈ lw_tbl ∧ Cond.arrayClass .long ∈ lw_tbl ∧ Cond.arrayClass .byte ∈ lw_tbl ∧ Cond.arrayOver (.object "ThreeSizes$Thing") ∈ lw_tbl ∧ Cond.arrayOver (.array .int) ∈ lw_tbl ∧ Cond.arrayOver (.array .long) ∈ lw_tbl ∧ Cond.native arraycopyName ∈ lw_tbl := by decide +kernel
theorem st_cls (s : State) (args : Array Value) (hts : ∀ w ∈ lwG, w.before args s = true) : ∃ (dC : Nat → ClassId) (dI : Nat → Nat → Nat), ∀ (k : Nat) (q : vw_C), sd_cl[k]? = some q → u_Kn s q.1 q.2.1 q.2.2 (dC k) (dI k) := by
  have h1 : ∀ k : Nat, ∃ z : ClassId × (Nat → Nat), ∀ q : vw_C, sd_cl[k]? = some q → u_Kn s q.1 q.2.1 q.2.2 z.1 z.2 := by
    intro k
    by_cases hk : k < 13
    · obtain ⟨cC, iS, hu⟩ := u_known hts (lf_c k hk).1 (hts _ (lf_c k hk).2.1)
      refine ⟨(cC, iS), fun q hq => ?_⟩
      rw [sd_clget hk] at hq
      cases hq
      exact hu
    · exact ⟨(0, fun _ => 0), fun q hq => absurd (List.getElem?_eq_some_iff.mp hq).1 (fun z => hk z)⟩
  obtain ⟨f, hf⟩ := Classical.axiomOfChoice h1
  exact ⟨fun k => (f k).1, fun k => (f k).2, fun k q hq => hf k q hq⟩
theorem st_arr {s : State} {args : Array Value} {ty : FieldType} (h : (Cond.arrayClass ty).before args s = true) : ∃ cA, ArrOfT s cA ty ∧ s.vm.findClass ("[" ++ ty.toString) = some cA := by
  obtain ⟨cA, kA, comp, h1, h2, h3⟩ := Cond.arrayClass_spec h
  exact ⟨cA, fun n z => ⟨fun q hq => (by cases hq), kA, h2, comp, h3⟩, h1⟩
theorem st_arrA {s : State} {args : Array Value} {ty : FieldType} (h : (Cond.arrayOver (.array ty)).before args s = true) : ∃ cA, ArrOfT s cA (.array ty) ∧ s.vm.findClass ("[" ++ (FieldType.array ty).toString) = some cA := by
  obtain ⟨comp, cA, kA, h1, h2, h3, h4⟩ := Cond.arrayOver_specA h
  exact ⟨cA, fun n z => ⟨fun q hq => (by cases hq), kA, h2, comp, h3⟩, h4⟩
theorem st_arrO {s : State} {args : Array Value} {C : String} (h : (Cond.arrayOver (.object C)).before args s = true) : ∃ cA, ArrOfT s cA (.object C) ∧ va_RA s cA (.object C) := by
  obtain ⟨comp, cA, kA, h1, h2, h3, h4, h5⟩ := Cond.arrayOver_spec h
  exact ⟨cA, fun n z => ⟨fun q hq => (by cases hq), kA, h3, comp, h4⟩, kA, comp, h3, h4, h1, h5⟩
set_option maxRecDepth 20000 in
set_option maxHeartbeats 4000000 in
/-- the claim out of the machine's run -/
theorem st_whole {p : Program} {e : Env} {s : State} {m : MethodId} {below : List Frame} {meth : Method} {c : Code} (l : Launch) {b L : Nat} {xs : Nat → Int32} (hL : L ≤ 384) (C0 : lw_At p s m meth c b L xs) (PG : X 30 235 (am_bk 235 0) [.ref 10, .null, .null, .null] [] (st_h L xs) (fun r _ => r = some (.int 1))) : W p l e room_1 s m #[Value.ref b] below meth c s.heap [] 0 0 (lw_Z below #[Value.ref b] s) (entryFrame m ([Value.ref b] : List Value).toArray 4) := by
  obtain ⟨hx, hb, hr, hml, hown, hts, hX, hbl, hlocks, hgv⟩ := id C0
  have htG : ∀ w ∈ lwG, w.before #[Value.ref b] s = true := fun w hw => hts w (List.mem_filter.mp hw).1
  have hfl := flat_of_before _ hgv
  have hA : ∀ a : Nat, a < s.heap.size → ¬ sd_A s.heap.size a := fun a ha hz => absurd ha (Nat.not_lt.mpr hz)
  obtain ⟨dC, dI, hKc⟩ := st_cls s _ htG
  obtain ⟨w1, w2, w3, w4, w5, w6, w7⟩ := st_w2
  obtain ⟨a20, q20, r20⟩ := st_arr (hts _ w1)
  obtain ⟨a21, q21, r21⟩ := st_arr (hts _ w2)
  obtain ⟨a22, q22, r22⟩ := st_arr (hts _ w3)
  obtain ⟨a23, q23, r23⟩ := st_arrO (hts _ w4)
  obtain ⟨a24, q24, r24⟩ := st_arrA (hts _ w5)
  obtain ⟨a25, q25, r25⟩ := st_arrA (hts _ w6)
  obtain ⟨v1, v2, v3, v4, v5, v6⟩ := st_w1
  obtain ⟨t1, hev1, hT1⟩ := va_Tof (A := sd_A s.heap.size) (N := 3) (f := fun j => .int (([1, 5, 25] : List Int32).getD j 0)) (by decide) (hfl _ st_f1) (va_eqt (hfl _ st_f2)) (fun j hj => by
    match j, hj with
    | 0, _ => exact va_eqt (hfl _ st_f3_0)
    | 1, _ => exact va_eqt (hfl _ st_f3_1)
    | 2, _ => exact va_eqt (hfl _ st_f3_2)
    | j + 3, h => exact absurd h (by omega)) hA
  have hZ1 := va_Zof (hts _ v1) (hts _ v2) hev1 hA
  have hZ2 := va_Zof (hts _ v3) (hts _ v4) (va_eqt (hfl _ st_f4)) hA
  obtain ⟨fv, hfv, hZ3⟩ : ∃ fv : Value, fv.category = 1 ∧ va_Z "jdk/internal/util/Preconditions" "SIOOBE_FORMATTER" "Ljava/util/function/BiFunction;" fv (sd_A s.heap.size) s s.heap := by
    rcases va_Zqof (hts _ v5) (hts _ v6) (hfl _ st_f5) hA with z | ⟨t, z⟩
    · exact ⟨.null, rfl, z⟩
    · exact ⟨.ref t, rfl, z⟩
  obtain ⟨adK, adV, hK8, hev⟩ := vk_Sof (N := 8) (tm := st_tm) (len := st_len) (byt := st_byt) (A := sd_A s.heap.size) (by decide) (fun i hi => hfl _ (st_s1 i hi)) (fun i hi => hfl _ (st_s2 i hi)) (fun i hi => hfl _ (st_s3 i hi)) (fun i hi => hfl _ (st_s4 i hi)) (fun i hi j hj => hfl _ (st_s5 i hi j hj)) (fun i j hi hj hij => (st_s6 i hi j hj hij).imp (hfl _) (hfl _)) hA
  have hev2 : ∀ i, i < 8 → (st_tm2 i).eval #[Value.ref b] s none [] s = some (.ref (adK i)) := fun i hi => by
    rcases st_s7 i hi with z | z
    · exact va_eqR (hfl _ z) (hev i hi)
    · exact va_eqv (hfl _ z) (hev i hi)
  obtain ⟨scr, x1, x2, x3, x4, x5⟩ := hX
  have hTb : va_T .int b L (fun j => .int (xs j)) (sd_A s.heap.size) s s.heap := ⟨scr, x1, x2, x3, Nat.le_of_eq x4.symm, by rw [x4], x5, hA b hbl⟩
  have hN : sd_N dC dI (fun k => if k = 20 then a20 else if k = 21 then a21 else if k = 22 then a22 else if k = 23 then a23 else if k = 24 then a24 else a25) s.heap.size (st_sv t1 b adK adV fv) s s.heap := by
    refine ⟨⟨hKc, fun k q hk => ?_⟩, hZ1, hZ2, hZ3, fun q hq => ?_, fun w hw => va_Nw.of (st_nw w hw).2 (hts w (st_nw w hw).1), fun q hq => va_Nc.of (hfl _ (st_nc q hq)), hts _ w4, hts _ w5, hts _ w6, hts _ w7, rfl, hfv, fun r h0 h1 => ?_⟩
    · match k, hk with
      | 0, hk => cases hk; exact ⟨q20, r20⟩
      | 1, hk => cases hk; exact ⟨q21, r21⟩
      | 2, hk => cases hk; exact ⟨q22, r22⟩
      | 3, hk => cases hk; exact ⟨q23, r23⟩
      | 4, hk => cases hk; exact ⟨q24, r24⟩
      | 5, hk => cases hk; exact ⟨q25, r25⟩
      | k + 6, hk => exact absurd (List.getElem?_eq_some_iff.mp hk).1 (fun z => absurd (show k + 6 < 6 from z) (by omega))
    · obtain ⟨z1, z2, z3, z4⟩ := st_str q hq
      refine ⟨adK (q.2.2.2 - 2), ?_, ?_⟩
      · unfold st_sv
        rw [if_neg (by omega), if_neg (by omega), if_neg (by omega), if_neg (by omega), if_pos ⟨z2, z3⟩]
      · refine vk_R.of (A := #[Value.ref b]) (hts _ z1) ?_
        rcases z4 with z4 | z4
        · have e1 := hev (q.2.2.2 - 2) (by omega)
          have y1 := congrArg Prod.fst z4
          have y2 := congrArg Prod.snd z4
          dsimp only at y1 y2
          rw [y1, y2]
          exact e1
        · have e1 := hev2 (q.2.2.2 - 2) (by omega)
          have y1 := congrArg Prod.fst z4
          have y2 := congrArg Prod.snd z4
          dsimp only at y1 y2
          rw [y1, y2]
          exact e1
    · unfold st_sv
      rw [if_neg h0]
      repeat' split
      all_goals first | exact ⟨_, rfl⟩ | omega
  have C : sd_Cx dC dI (fun k => if k = 20 then a20 else if k = 21 then a21 else if k = 22 then a22 else if k = 23 then a23 else if k = 24 then a24 else a25) s.heap.size (st_sv t1 b adK adV fv) p s m #[Value.ref b] meth c (am_q 235) 0 := ⟨hx, hb, hml, hown, htG, fun z => absurd z (by decide), hN, rfl⟩
  obtain ⟨n, r, hF, he, rfl⟩ := PG
  have hlim := am_x_lim _ _ _ _ _ _ _ _ _ he (Nat.zero_le _) (Nat.zero_le _)
  have main := sd_main l dC dI (fun k => if k = 20 then a20 else if k = 21 then a21 else if k = 22 then a22 else if k = 23 then a23 else if k = 24 then a24 else a25) s.heap.size (st_sv t1 b adK adV fv) n 30 235 (some (.int 1)) hF p e room_1 s m #[Value.ref b] below meth c 0 0 (lw_Z below #[Value.ref b] s) (by decide) C (Nat.le_of_ble_eq_true rfl) (Nat.le_of_ble_eq_true rfl) hlim.1 hlim.2 (by
    intro pc i H locs lsC hd hri hSt
    have hd2 : decode code pc = .ok (i, 1) := hd
    rcases hri with ⟨rfl, x, ty, hrx, hrt, hn⟩ | ⟨-, x, hrx, -⟩ | ⟨-, x, ty, hrx, -⟩ | ⟨-, hrx, -⟩
    · refine va_forget (fun q hq => hSt.2.1.2.2 q hq) ?_
      refine W.widen (k := 600000) (n := 7302250) hlim.1 hlim.2 ?_
      exact lw_ret hx hb hr hlocks hd2
    · cases hrx
    · cases hrx
    · cases hrx) (am_bk 235 0) [.ref 10, .null, .null, .null] [] (st_h L xs) 0 he (am_okb (by decide) (show (am_pcl.getD 235 [])[0]? = some 0 by decide +kernel))
  have hv := sd_Cv C
  have hent := sd_entry (s0 := s.heap.size) (k := 235) (as := [.ref 10]) hv (by decide +kernel)
  have hw := main s.heap [] _ ⟨fun k q hk => absurd (sd_w_of hk).1 (Nat.not_lt_zero k), va_S.rf, fun r hr0 => ?_, fun r hr => ?_, Nat.zero_le _, Nat.zero_le _⟩ hent (by
    rw [hent.1]
    rfl)
  · rw [lg_entry_eq]
    exact hw
  · have h9 : r < 32 := by
      rcases Nat.lt_or_ge r 32 with z | z
      · exact z
      · exfalso
        apply hr0
        obtain ⟨k, rfl⟩ : ∃ k, r = k + 32 := ⟨r - 32, by omega⟩
        rfl
    refine ⟨by show r < 0 + 32; omega, fun _ => ?_, fun z => by omega⟩
    match r, h9, hr0 with
    | 0, _, hr0 => exact absurd rfl hr0
    | 1, _, hr0 => exact Nat.le_of_ble_eq_true rfl
    | 2, _, hr0 => exact Nat.le_of_ble_eq_true rfl
    | 3, _, hr0 => exact Nat.le_of_ble_eq_true rfl
    | 4, _, hr0 => exact Nat.le_of_ble_eq_true rfl
    | 5, _, hr0 => exact Nat.le_of_ble_eq_true rfl
    | 6, _, hr0 => exact Nat.le_of_ble_eq_true rfl
    | 7, _, hr0 => exact Nat.le_of_ble_eq_true rfl
    | 8, _, hr0 => exact Nat.le_of_ble_eq_true rfl
    | 9, _, hr0 => exact Nat.le_of_ble_eq_true rfl
    | 10, _, hr0 => exact Nat.le_of_ble_eq_true rfl
    | 11, _, hr0 => exact absurd rfl hr0
    | 12, _, hr0 => exact Nat.le_of_ble_eq_true rfl
    | 13, _, hr0 => exact Nat.le_of_ble_eq_true rfl
    | 14, _, hr0 => exact Nat.le_of_ble_eq_true rfl
    | 15, _, hr0 => exact Nat.le_of_ble_eq_true rfl
    | 16, _, hr0 => exact Nat.le_of_ble_eq_true rfl
    | 17, _, hr0 => exact Nat.le_of_ble_eq_true rfl
    | 18, _, hr0 => exact Nat.le_of_ble_eq_true rfl
    | 19, _, hr0 => exact Nat.le_of_ble_eq_true rfl
    | 20, _, hr0 => exact absurd rfl hr0
    | 21, _, hr0 => exact absurd rfl hr0
    | 22, _, hr0 => exact absurd rfl hr0
    | 23, _, hr0 => exact absurd rfl hr0
    | 24, _, hr0 => exact absurd rfl hr0
    | 25, _, hr0 => exact absurd rfl hr0
    | 26, _, hr0 => exact absurd rfl hr0
    | 27, _, hr0 => exact absurd rfl hr0
    | 28, _, hr0 => exact absurd rfl hr0
    | 29, _, hr0 => exact absurd rfl hr0
    | 30, _, hr0 => exact absurd rfl hr0
    | 31, _, hr0 => exact absurd rfl hr0
    | r + 32, h9, _ => exact absurd h9 (by omega)
  · match r, hr with
    | 0, _ => exact ⟨fun z => absurd (show (0 : Nat) = 30 from z) (by decide), fun z => absurd (show (0 : Nat) = 31 from z) (by decide), fun z => absurd (show (0 : Nat) = 40 from z) (by decide)⟩
    | 1, _ => exact ⟨fun _ => ⟨t1, rfl, hT1⟩, fun z => absurd (show (30 : Nat) = 31 from z) (by decide), fun z => absurd (show (30 : Nat) = 40 from z) (by decide)⟩
    | 2, _ => exact ⟨fun z => absurd (show (40 : Nat) = 30 from z) (by decide), fun z => absurd (show (40 : Nat) = 31 from z) (by decide), fun _ => ⟨adK 0, rfl, (hK8.1 0 (by decide)).1, (hK8.1 0 (by decide)).2.1, (hK8.1 0 (by decide)).2.2.1⟩⟩
    | 3, _ => exact ⟨fun z => absurd (show (40 : Nat) = 30 from z) (by decide), fun z => absurd (show (40 : Nat) = 31 from z) (by decide), fun _ => ⟨adK 1, rfl, (hK8.1 1 (by decide)).1, (hK8.1 1 (by decide)).2.1, (hK8.1 1 (by decide)).2.2.1⟩⟩
    | 4, _ => exact ⟨fun z => absurd (show (40 : Nat) = 30 from z) (by decide), fun z => absurd (show (40 : Nat) = 31 from z) (by decide), fun _ => ⟨adK 2, rfl, (hK8.1 2 (by decide)).1, (hK8.1 2 (by decide)).2.1, (hK8.1 2 (by decide)).2.2.1⟩⟩
    | 5, _ => exact ⟨fun z => absurd (show (40 : Nat) = 30 from z) (by decide), fun z => absurd (show (40 : Nat) = 31 from z) (by decide), fun _ => ⟨adK 3, rfl, (hK8.1 3 (by decide)).1, (hK8.1 3 (by decide)).2.1, (hK8.1 3 (by decide)).2.2.1⟩⟩
    | 6, _ => exact ⟨fun z => absurd (show (40 : Nat) = 30 from z) (by decide), fun z => absurd (show (40 : Nat) = 31 from z) (by decide), fun _ => ⟨adK 4, rfl, (hK8.1 4 (by decide)).1, (hK8.1 4 (by decide)).2.1, (hK8.1 4 (by decide)).2.2.1⟩⟩
    | 7, _ => exact ⟨fun z => absurd (show (40 : Nat) = 30 from z) (by decide), fun z => absurd (show (40 : Nat) = 31 from z) (by decide), fun _ => ⟨adK 5, rfl, (hK8.1 5 (by decide)).1, (hK8.1 5 (by decide)).2.1, (hK8.1 5 (by decide)).2.2.1⟩⟩
    | 8, _ => exact ⟨fun z => absurd (show (40 : Nat) = 30 from z) (by decide), fun z => absurd (show (40 : Nat) = 31 from z) (by decide), fun _ => ⟨adK 6, rfl, (hK8.1 6 (by decide)).1, (hK8.1 6 (by decide)).2.1, (hK8.1 6 (by decide)).2.2.1⟩⟩
    | 9, _ => exact ⟨fun z => absurd (show (40 : Nat) = 30 from z) (by decide), fun z => absurd (show (40 : Nat) = 31 from z) (by decide), fun _ => ⟨adK 7, rfl, (hK8.1 7 (by decide)).1, (hK8.1 7 (by decide)).2.1, (hK8.1 7 (by decide)).2.2.1⟩⟩
    | 10, _ => exact ⟨fun _ => ⟨b, rfl, hTb⟩, fun z => absurd (show (30 : Nat) = 31 from z) (by decide), fun z => absurd (show (30 : Nat) = 40 from z) (by decide)⟩
    | 11, _ => exact ⟨fun z => absurd (show (0 : Nat) = 30 from z) (by decide), fun z => absurd (show (0 : Nat) = 31 from z) (by decide), fun z => absurd (show (0 : Nat) = 40 from z) (by decide)⟩
    | 12, _ => exact ⟨fun z => absurd (show (31 : Nat) = 30 from z) (by decide), fun _ => ⟨adV 0, rfl, (hK8.1 0 (by decide)).2.2.2⟩, fun z => absurd (show (31 : Nat) = 40 from z) (by decide)⟩
    | 13, _ => exact ⟨fun z => absurd (show (31 : Nat) = 30 from z) (by decide), fun _ => ⟨adV 1, rfl, (hK8.1 1 (by decide)).2.2.2⟩, fun z => absurd (show (31 : Nat) = 40 from z) (by decide)⟩
    | 14, _ => exact ⟨fun z => absurd (show (31 : Nat) = 30 from z) (by decide), fun _ => ⟨adV 2, rfl, (hK8.1 2 (by decide)).2.2.2⟩, fun z => absurd (show (31 : Nat) = 40 from z) (by decide)⟩
    | 15, _ => exact ⟨fun z => absurd (show (31 : Nat) = 30 from z) (by decide), fun _ => ⟨adV 3, rfl, (hK8.1 3 (by decide)).2.2.2⟩, fun z => absurd (show (31 : Nat) = 40 from z) (by decide)⟩
    | 16, _ => exact ⟨fun z => absurd (show (31 : Nat) = 30 from z) (by decide), fun _ => ⟨adV 4, rfl, (hK8.1 4 (by decide)).2.2.2⟩, fun z => absurd (show (31 : Nat) = 40 from z) (by decide)⟩
    | 17, _ => exact ⟨fun z => absurd (show (31 : Nat) = 30 from z) (by decide), fun _ => ⟨adV 5, rfl, (hK8.1 5 (by decide)).2.2.2⟩, fun z => absurd (show (31 : Nat) = 40 from z) (by decide)⟩
    | 18, _ => exact ⟨fun z => absurd (show (31 : Nat) = 30 from z) (by decide), fun _ => ⟨adV 6, rfl, (hK8.1 6 (by decide)).2.2.2⟩, fun z => absurd (show (31 : Nat) = 40 from z) (by decide)⟩
    | 19, _ => exact ⟨fun z => absurd (show (31 : Nat) = 30 from z) (by decide), fun _ => ⟨adV 7, rfl, (hK8.1 7 (by decide)).2.2.2⟩, fun z => absurd (show (31 : Nat) = 40 from z) (by decide)⟩
    | 20, _ => exact ⟨fun z => absurd (show (0 : Nat) = 30 from z) (by decide), fun z => absurd (show (0 : Nat) = 31 from z) (by decide), fun z => absurd (show (0 : Nat) = 40 from z) (by decide)⟩
    | 21, _ => exact ⟨fun z => absurd (show (0 : Nat) = 30 from z) (by decide), fun z => absurd (show (0 : Nat) = 31 from z) (by decide), fun z => absurd (show (0 : Nat) = 40 from z) (by decide)⟩
    | 22, _ => exact ⟨fun z => absurd (show (0 : Nat) = 30 from z) (by decide), fun z => absurd (show (0 : Nat) = 31 from z) (by decide), fun z => absurd (show (0 : Nat) = 40 from z) (by decide)⟩
    | 23, _ => exact ⟨fun z => absurd (show (0 : Nat) = 30 from z) (by decide), fun z => absurd (show (0 : Nat) = 31 from z) (by decide), fun z => absurd (show (0 : Nat) = 40 from z) (by decide)⟩
    | 24, _ => exact ⟨fun z => absurd (show (0 : Nat) = 30 from z) (by decide), fun z => absurd (show (0 : Nat) = 31 from z) (by decide), fun z => absurd (show (0 : Nat) = 40 from z) (by decide)⟩
    | 25, _ => exact ⟨fun z => absurd (show (0 : Nat) = 30 from z) (by decide), fun z => absurd (show (0 : Nat) = 31 from z) (by decide), fun z => absurd (show (0 : Nat) = 40 from z) (by decide)⟩
    | 26, _ => exact ⟨fun z => absurd (show (0 : Nat) = 30 from z) (by decide), fun z => absurd (show (0 : Nat) = 31 from z) (by decide), fun z => absurd (show (0 : Nat) = 40 from z) (by decide)⟩
    | 27, _ => exact ⟨fun z => absurd (show (0 : Nat) = 30 from z) (by decide), fun z => absurd (show (0 : Nat) = 31 from z) (by decide), fun z => absurd (show (0 : Nat) = 40 from z) (by decide)⟩
    | 28, _ => exact ⟨fun z => absurd (show (0 : Nat) = 30 from z) (by decide), fun z => absurd (show (0 : Nat) = 31 from z) (by decide), fun z => absurd (show (0 : Nat) = 40 from z) (by decide)⟩
    | 29, _ => exact ⟨fun z => absurd (show (0 : Nat) = 30 from z) (by decide), fun z => absurd (show (0 : Nat) = 31 from z) (by decide), fun z => absurd (show (0 : Nat) = 40 from z) (by decide)⟩
    | 30, _ => exact ⟨fun z => absurd (show (0 : Nat) = 30 from z) (by decide), fun z => absurd (show (0 : Nat) = 31 from z) (by decide), fun z => absurd (show (0 : Nat) = 40 from z) (by decide)⟩
    | 31, _ => exact ⟨fun z => absurd (show (0 : Nat) = 30 from z) (by decide), fun z => absurd (show (0 : Nat) = 31 from z) (by decide), fun z => absurd (show (0 : Nat) = 40 from z) (by decide)⟩
    | r + 32, h9 => exact absurd h9 (by omega)
