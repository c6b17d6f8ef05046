/-! calls: what a method needs at its entry, and what stands behind it -/
def am_pn (y : Nat) : Nat := ([0, 3, 3, 5, 2, 1, 3, 2, 3, 4, 2, 2, 2, 2, 0, 0, 1, 3, 1, 2, 1, 2, 2, 1, 1, 4, 3, 3, 3, 2, 2, 2, 1, 1, 1, 2, 1, 2, 2, 1, 1, 0, 0, 1, 1, 1, 1, 1, 1, 1, 1, 1, 1, 1, 2, 3, 2, 3, 2, 3, 2, 2, 1, 0, 0, 1, 2, 1, 1, 0, 1, 0, 1, 1, 0, 4, 4, 1, 1, 5, 4, 1, 1, 0, 2, 0, 1, 2, 2, 2, 2, 1, 1, 1, 1, 2, 0, 3, 4, 0, 0, 2, 1, 1, 1, 0, 0, 1, 1, 2, 3, 2, 0, 1, 2, 2, 1, 1, 0, 4, 1, 0, 4, 1, 0, 4, 1, 0, 4, 1, 0, 4, 1, 0, 0, 4, 0, 1, 3, 1, 1, 0, 3, 2, 1, 0, 1, 3, 2, 3, 5, 2, 1, 3, 2, 2, 1, 3, 4, 4, 2, 1, 2, 2, 2, 0, 1, 1, 0, 0, 1, 4, 5, 5, 0, 0, 0, 1, 1, 1, 1, 3, 3, 4, 1, 4, 3, 4, 4, 2, 3, 1, 2, 2, 1, 2, 2, 1, 1, 5, 2, 4, 2, 3, 3, 3, 0, 3, 1, 1, 2, 2, 2, 1, 1, 1, 2, 2, 1, 2, 1, 2, 2, 1, 1, 2, 1, 0, 0, 1, 0, 1, 0, 0, 1, 1, 2, 2, 1, 2, 0, 0, 0, 2, 3] : List Nat).getD y 0
def am_is (y : Nat) : Bool := ([false, false, false, false, false, false, false, false, false, false, false, false, false, false, false, false, false, false, false, false, false, false, false, false, false, false, false, false, false, false, false, false, false, false, false, false, false, false, false, false, false, false, false, false, false, false, true, true, true, true, false, false, false, false, false, false, false, false, true, false, false, false, false, false, false, false, true, true, false, false, false, false, false, false, false, false, false, false, false, false, false, false, false, false, false, false, false, false, false, false, false, false, false, false, false, false, false, false, false, false, false, false, false, false, false, false, false, true, false, false, false, false, false, false, false, false, false, false, false, false, false, false, false, false, false, false, false, false, false, false, false, false, false, false, false, false, false, false, true, false, true, false, true, true, true, false, false, false, true, false, false, false, false, false, true, false, false, false, false, false, false, false, false, false, false, false, true, true, false, false, false, false, false, false, false, false, false, false, true, false, false, false, false, false, false, false, false, false, false, false, false, false, false, false, false, false, false, false, false, false, false, false, false, false, false, false, false, false, true, false, false, false, false, false, false, false, false, false, false, false, false, false, false, false, false, true, false, false, false, false, false, false, false, false, false, true, true, true, false, true, false, false, false, true, true] : List Bool).getD y true
theorem am_naok : ∀ y, y < 245 → am_na y = am_pn y + (if am_is y = true then 0 else 1) := by decide +kernel
theorem am_mtok : ((List.range 245).all fun y => decide (y = 235) || (decide ((am_q y).1.cls ≠ "java/lang/invoke/MethodHandle") && (decide ((am_q y).1.cls ≠ "java/lang/invoke/VarHandle") && (plainFor (am_q y).1 && (decide ((parseMethodDescriptor (am_q y).1.desc).map (fun d => d.parameters.length) = some (am_pn y)) && (decide (am_mx y = (am_q y).2.2.1) && (decide ((am_q y).2.2.1 ≤ 20) && (decide (am_on (am_q y).2.2.2.2 = (am_q y).1.cls) && decide ((am_pcl.getD y [])[0]? = some 0))))))))) = true := by decide +kernel
theorem am_mtf {y : Nat} (hy : y < 245) (hl : y ≠ 235) : (am_q y).1.cls ≠ "java/lang/invoke/MethodHandle" ∧ (am_q y).1.cls ≠ "java/lang/invoke/VarHandle" ∧ plainFor (am_q y).1 = true ∧ (parseMethodDescriptor (am_q y).1.desc).map (fun d => d.parameters.length) = some (am_pn y) ∧ am_mx y = (am_q y).2.2.1 ∧ (am_q y).2.2.1 ≤ 20 ∧ am_on (am_q y).2.2.2.2 = (am_q y).1.cls ∧ (am_pcl.getD y [])[0]? = some 0 := by
  have h := List.all_eq_true.mp am_mtok y (List.mem_range.mpr hy)
  simp only [Bool.or_eq_true, Bool.and_eq_true, decide_eq_true_eq] at h
  rcases h with z | z
  · exact absurd z hl
  · exact z
theorem am_mtl {y : Nat} {w : am_M} (h : am_mt[y]? = some w) : y < 245 ∧ am_q y = w := by
  have h1 : y < am_mt.length := (List.getElem?_eq_some_iff.mp h).1
  refine ⟨h1, ?_⟩
  unfold am_q
  rw [List.getD_eq_getElem?_getD, h]
  rfl
theorem am_s_mono {i : Instr} {ls st ls' st' : List Value} {h h' : am_H} (e : am_s i ls st h = some (ls', st', h')) : h.2.2.2.2.1 ≤ h'.2.2.2.2.1 ∧ h.2.2.2.2.2 ≤ h'.2.2.2.2.2 := by
  unfold am_s at e
  repeat' split at e
  all_goals first
    | (cases e; done)
    | (cases e; exact ⟨Nat.le_refl _, Nat.le_refl _⟩)
    | (cases e; exact ⟨Nat.le_succ _, Nat.le_add_right _ _⟩)
    | (cases e; exact ⟨Nat.le_add_right _ _, Nat.le_add_right _ _⟩)
theorem am_x_mono : ∀ (n d y : Nat) (ops : List am_O) (ls st : List Value) (h : am_H) (r : Option Value) (h' : am_H), am_x n d y ops ls st h = some (r, h') → h.2.2.2.2.1 ≤ h'.2.2.2.2.1 ∧ h.2.2.2.2.2 ≤ h'.2.2.2.2.2 := by
  intro n
  induction n with
  | zero => intro d y ops ls st h r h' e; simp [am_x] at e
  | succ n ih =>
    intro d y ops ls st h r h' e
    unfold am_x at e
    split at e
    · cases e
    · exact ih _ _ _ _ _ _ _ _ e
    · split at e
      · exact ih _ _ _ _ _ _ _ _ e
      · exact ih _ _ _ _ _ _ _ _ e
      · split at e
        · cases e; exact ⟨Nat.le_refl _, Nat.le_refl _⟩
        · split at e
          · split at e
            · cases e
            · split at e
              · rename_i h1
                have a := ih _ _ _ _ _ _ _ _ h1
                have b := ih _ _ _ _ _ _ _ _ e
                exact ⟨Nat.le_trans a.1 b.1, Nat.le_trans a.2 b.2⟩
              · cases e
          · split at e
            · rename_i h1
              have a := am_s_mono h1
              have b := ih _ _ _ _ _ _ _ _ e
              exact ⟨Nat.le_trans a.1 b.1, Nat.le_trans a.2 b.2⟩
            · cases e
def sd_isNw (w : Cond) : Bool := match w with
  | .methodLinkNest _ _ _ _ => true
  | .castable _ _ => true
  | .declares _ => true
  | _ => false
theorem sd_nwok : ∀ w ∈ sd_nw, sd_isNw w = true := by decide +kernel
theorem sd_nw_warm {s U : State} (hW : s.WarmedH U.vm) {w : Cond} (hw : sd_isNw w = true) (h : va_Nw w s) : va_Nw w U := by
  cases w <;> first | exact va_Nw.warmM hW h | exact va_Nw.warmC hW h | exact va_Nw.warmD hW h | exact absurd hw (by decide) | (exact absurd hw (fun z => by cases z))
theorem sd_S_move {s0 : Nat} {sv : Nat → Value} {u U : State} {H H1 : Heap} {h : am_H} (hvm : u.vm.Alike U.vm) (hq : ∀ a : Nat, a < H.size → ¬ sd_A s0 a → H1[a]? = H[a]?) (hS : sd_S s0 sv u H h) : sd_S s0 sv U H1 h := by
  intro r hr
  obtain ⟨h1, h2, h3⟩ := hS r hr
  refine ⟨fun z => ?_, fun z => ?_, fun z => ?_⟩
  · obtain ⟨t, e, hT⟩ := h1 z
    exact ⟨t, e, (hT.moved hvm).kept hq⟩
  · obtain ⟨t, e, hT⟩ := h2 z
    exact ⟨t, e, (hT.moved hvm).kept hq⟩
  · obtain ⟨t, e, hO, hc, hv⟩ := h3 z
    exact ⟨t, e, (hO.moved hvm).kept hq, (hc.moved hvm).kept hq, (hv.moved hvm).kept hq⟩
theorem sd_N_warm {dC : Nat → ClassId} {dI : Nat → Nat → Nat} {dA : Nat → ClassId} {s0 : Nat} {sv : Nat → Value} {s U : State} {H H1 : Heap} (hW : s.WarmedH U.vm) (hq : ∀ a : Nat, a < H.size → ¬ sd_A s0 a → H1[a]? = H[a]?) (hN : sd_N dC dI dA s0 sv s H) : sd_N dC dI dA s0 sv U H1 := by
  obtain ⟨h1, h2, h3, h4, h5, h6, h7, h8, h9, h10, h11, h12⟩ := hN
  refine ⟨va_K.moved hW.alike h1, (h2.moved hW.alike).kept hq, (h3.moved hW.alike).kept hq, (h4.moved hW.alike).kept hq, fun w hw => ?_, fun w hw => sd_nw_warm hW (sd_nwok w hw) (h6 w hw), fun w hw => (h7 w hw).moved hW.alike, h8.moved hW.alike, Cond.overAtom_setVm hW.alike _ rfl h9, Cond.overAtom_setVm hW.alike _ rfl h10, word_at hW (Or.inl rfl) h11, h12⟩
  obtain ⟨a, e, hv⟩ := h5 w hw
  exact ⟨a, e, hv.warm hW⟩
/-- the locals at a method's entry -/
theorem sd_lay_len {s0 : Nat} {sv : Nat → Value} (hv : sd_v sv) : ∀ as : List Value, (lg_sl (as.map (sd_V s0 sv))).length = (am_lay as).length
  | [] => rfl
  | w :: as => by
    have ih := sd_lay_len (s0 := s0) hv as
    have e : lg_sl ((w :: as).map (sd_V s0 sv)) = (if (sd_V s0 sv w).category = 2 then [.val (sd_V s0 sv w), .second] else [.val (sd_V s0 sv w)]) ++ lg_sl (as.map (sd_V s0 sv)) := rfl
    rw [e, List.length_append, ih]
    cases w with
    | long x =>
      rw [if_pos (show (sd_V s0 sv (Value.long x)).category = 2 from rfl)]
      show 2 + _ = (am_lay as).length + 1 + 1
      omega
    | int x => rw [if_neg (by intro z; cases z)]; show 1 + _ = (am_lay as).length + 1; omega
    | ref x => rw [if_neg (by intro z; obtain ⟨y, hy⟩ := sd_nd hv z; cases hy)]; show 1 + _ = (am_lay as).length + 1; omega
    | float x => rw [if_neg (by intro z; obtain ⟨y, hy⟩ := sd_nd hv z; cases hy)]; show 1 + _ = (am_lay as).length + 1; omega
    | double x => rw [if_neg (by intro z; cases z)]; show 1 + _ = (am_lay as).length + 1; omega
    | null => rw [if_neg (by intro z; cases z)]; show 1 + _ = (am_lay as).length + 1; omega
    | retAddr x => rw [if_neg (by intro z; cases z)]; show 1 + _ = (am_lay as).length + 1; omega
theorem sd_lay_at {s0 : Nat} {sv : Nat → Value} (hv : sd_v sv) : ∀ (as : List Value) (i j : Nat) (w : Value), (am_lay as)[j]? = some w → w ≠ .null → (i + j, sd_V s0 sv w) ∈ lv_args i (as.map (sd_V s0 sv))
  | [], i, j, w, h, _ => by simp [am_lay] at h
  | u :: as, i, j, w, h, hw => by
    have one : ∀ (hc : ¬ (sd_V s0 sv u).category = 2) (hl : am_lay (u :: as) = u :: am_lay as), (i + j, sd_V s0 sv w) ∈ lv_args i ((u :: as).map (sd_V s0 sv)) := by
      intro hc hl
      rw [hl] at h
      show _ ∈ (i, sd_V s0 sv u) :: lv_args (if (sd_V s0 sv u).category = 2 then i + 2 else i + 1) (as.map (sd_V s0 sv))
      rw [if_neg hc]
      cases j with
      | zero => cases h; exact List.mem_cons_self
      | succ j =>
        rw [List.getElem?_cons_succ] at h
        have := sd_lay_at (s0 := s0) hv as (i + 1) j w h hw
        rw [show i + 1 + j = i + (j + 1) by omega] at this
        exact List.mem_cons_of_mem _ this
    cases u with
    | long x =>
      show _ ∈ (i, Value.long x) :: lv_args (if (Value.long x).category = 2 then i + 2 else i + 1) (as.map (sd_V s0 sv))
      rw [if_pos (show (Value.long x).category = 2 from rfl)]
      change (Value.long x :: Value.null :: am_lay as)[j]? = some w at h
      match j, h with
      | 0, h => cases h; exact List.mem_cons_self
      | 1, h => cases h; exact absurd rfl hw
      | j + 2, h =>
        have := sd_lay_at (s0 := s0) hv as (i + 2) j w h hw
        rw [show i + 2 + j = i + (j + 2) by omega] at this
        exact List.mem_cons_of_mem _ this
    | int x => exact one (by intro z; cases z) rfl
    | ref x => exact one (by intro z; obtain ⟨y, hy⟩ := sd_nd hv z; cases hy) rfl
    | float x => exact one (by intro z; obtain ⟨y, hy⟩ := sd_nd hv z; cases hy) rfl
    | double x => exact one (by intro z; cases z) rfl
    | null => exact one (by intro z; cases z) rfl
    | retAddr x => exact one (by intro z; cases z) rfl
theorem sd_entry {s0 : Nat} {sv : Nat → Value} (hv : sd_v sv) {k : Nat} {as : List Value} (hl : (am_lay as).length ≤ am_mx k) : sd_L s0 sv ((lg_sl (as.map (sd_V s0 sv)) ++ List.replicate (am_mx k - (lg_sl (as.map (sd_V s0 sv))).length) Slot.unset).toArray) (am_ent k as) := by
  have h1 := lv_entry (as.map (sd_V s0 sv)) (n := am_mx k) (by rw [sd_lay_len hv]; exact hl)
  refine ⟨?_, h1.2.1, fun i w hi hw => ?_⟩
  · rw [h1.1]
    unfold am_ent
    rw [List.length_append, List.length_replicate]
    omega
  · unfold am_ent at hi
    by_cases hj : i < (am_lay as).length
    · rw [List.getElem?_append_left hj] at hi
      have := sd_lay_at (s0 := s0) hv as 0 i w hi hw
      rw [Nat.zero_add] at this
      exact h1.2.2 (i, sd_V s0 sv w) this
    · rw [List.getElem?_append_right (by omega)] at hi
      exact absurd (List.eq_of_mem_replicate (List.mem_of_getElem? hi)) hw
/-- a method's start and its end, by the machine's -/
def sd_Pc (dC : Nat → ClassId) (dI : Nat → Nat → Nat) (dA : Nat → ClassId) (s0 : Nat) (sv : Nat → Value) (as : List Value) (h : am_H) : Array Value → State → Prop := fun v U => v = (as.map (sd_V s0 sv)).toArray ∧ sd_N dC dI dA s0 sv U U.heap ∧ U.heap.size = s0 + h.2.2.2.2.1 ∧ va_P (dC, dI) sd_cl (sd_w dA s0 sv h) U.heap ∧ sd_ok h ∧ sd_S s0 sv U U.heap h
def sd_Qc (dC : Nat → ClassId) (dI : Nat → Nat → Nat) (dA : Nat → ClassId) (s0 : Nat) (sv : Nat → Value) (r : Option Value) (h h' : am_H) : Array Value → State → Outcome → State → Prop := fun _ st o t => o = .returned (r.map (sd_V s0 sv)) ∧ va_P (dC, dI) sd_cl (sd_w dA s0 sv h') t.heap ∧ sd_ok h' ∧ sd_S s0 sv t t.heap h' ∧ va_F (sd_A s0) st t
theorem sd_blind {dC : Nat → ClassId} {dI : Nat → Nat → Nat} {dA : Nat → ClassId} {s0 : Nat} {sv : Nat → Value} {as : List Value} {h : am_H} : FrameBlind (sd_Pc dC dI dA s0 sv as h) := by
  intro a U g mk hp
  obtain ⟨h1, h2, h3, h4, h5, h6⟩ := hp
  exact ⟨h1, sd_N_warm (s := U) (U := U.calling g mk a) (State.WarmedH.refl U) (fun _ _ _ => rfl) h2, h3, h4, h5, sd_S_move (u := U) (U := U.calling g mk a) (Vm.Alike.refl U.vm) (fun _ _ _ => rfl) h6⟩
/-- how a method may return -/
def sd_ri (rt : Option FieldType) (i : Instr) (r : Option Value) : Prop :=
  (i = .ireturn ∧ ∃ (x : Int32) (ty : FieldType), r = some (.int x) ∧ rt = some ty ∧ narrow ty (.int x) = .int x) ∨ (i = .lreturn ∧ ∃ x : Int64, r = some (.long x) ∧ rt = some .long) ∨ (i = .areturn ∧ ∃ (x : Nat) (ty : FieldType), r = some (.ref x) ∧ rt = some ty ∧ ((∃ n, ty = .object n) ∨ ∃ t, ty = .array t)) ∨ (i = .return_ ∧ r = none ∧ rt = none)
