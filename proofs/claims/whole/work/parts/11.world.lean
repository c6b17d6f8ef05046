/-! THE MACHINE OF HANDLES AND THE JVM: a handle is null (0), a cell of the launch (below 32), or the cell that the program made as its (r - 32)th: its address is s0 + (r - 32). dC, dI: the classes and their slots; dA: the classes of arrays by kinds; sv: what the launch's handles are -/
def sd_c (s0 : Nat) (sv : Nat → Value) (r : Nat) : Value := if r < 32 then sv r else .ref (s0 + (r - 32))
def sd_V (s0 : Nat) (sv : Nat → Value) (v : Value) : Value := match v with
  | .ref r => sd_c s0 sv r
  | .float _ => sv 40
  | .double _ => .null
  | .retAddr _ => .null
  | v => v
def sd_o (s0 : Nat) (sv : Nat → Value) (r : Nat) : Option Nat := match sd_c s0 sv r with
  | .ref a => some a
  | _ => none
def sd_f (s0 : Nat) (sv : Nat → Value) (h : am_H) (r j : Nat) : Value := match sd_ty (am_k h r) j with
  | 1 => .long (h.2.1 r j)
  | 2 => sd_c s0 sv (h.2.2.1 r j)
  | _ => .int (h.1 r j)
def sd_E (dA : Nat → ClassId) (s0 : Nat) (sv : Nat → Value) (h : am_H) (r : Nat) : va_E :=
  if am_k h r ≤ 12 then .inr (am_k h r, (List.range 40).map (fun j => sd_f s0 sv h r j))
  else if am_k h r = 21 then .inl (dA 21, am_n h r, .inr (.inl (h.2.1 r)))
  else if am_k h r = 20 ∨ am_k h r = 22 then .inl (dA (am_k h r), am_n h r, .inl (h.1 r))
  else .inl (dA (am_k h r), am_n h r, .inr (.inr (.inr (.inr (fun j => sd_o s0 sv (h.2.2.1 r j))))))
def sd_w (dA : Nat → ClassId) (s0 : Nat) (sv : Nat → Value) (h : am_H) : va_W := (List.range h.2.2.2.2.1).map (fun a => (s0 + a, sd_E dA s0 sv h (a + 32)))
def sd_A (s0 : Nat) : Nat → Prop := fun q => s0 ≤ q
def sd_ok (h : am_H) : Prop := ∀ r, am_k h r ≠ 0 → r < h.2.2.2.2.1 + 32 ∧ (r < 32 → 30 ≤ am_k h r) ∧ (32 ≤ r → am_k h r ≤ 25)
/-- what the launch's handles hold -/
def sd_S (s0 : Nat) (sv : Nat → Value) (U : State) (H : Heap) (h : am_H) : Prop := ∀ r, r < 32 →
  (am_k h r = 30 → ∃ t, sv r = .ref t ∧ va_T .int t (am_n h r) (fun j => .int (h.1 r j)) (sd_A s0) U H) ∧
  (am_k h r = 31 → ∃ t, sv r = .ref t ∧ va_T .byte t (am_n h r) (fun j => .int (h.1 r j)) (sd_A s0) U H) ∧
  (am_k h r = 40 → ∃ t, sv r = .ref t ∧ va_O "java/lang/String" t (sd_A s0) U H ∧ va_OF "java/lang/String" "coder" "B" (.int 0) t (sd_A s0) U H ∧ va_OF "java/lang/String" "value" "[B" (sd_c s0 sv (h.2.2.1 r 0)) t (sd_A s0) U H)
def sd_tys (dA : Nat → ClassId) : List (ClassId × FieldType) := [(dA 20, .int), (dA 21, .long), (dA 22, .byte), (dA 23, .object "ThreeSizes$Thing"), (dA 24, .array .int), (dA 25, .array .long)]
/-- the pairs of classes that an instanceof tells apart -/
def sd_nc : List (Nat × Nat) := (List.range 8).flatMap fun t => ((List.range 12).filter fun c => decide (5 ≤ c) && (decide (c < (am_ir t).1) || decide ((am_ir t).2 < c))).map fun c => (c, t)
/-- what holds of the tables, apart from the words -/
def sd_N (dC : Nat → ClassId) (dI : Nat → Nat → Nat) (dA : Nat → ClassId) (s0 : Nat) (sv : Nat → Value) (U : State) (H : Heap) : Prop :=
  va_K (dC, dI) sd_cl (sd_tys dA) U ∧
  va_Z "ThreeSizes$Wall" "STEP" "[I" (sv 1) (sd_A s0) U H ∧
  va_Z "java/lang/String" "COMPACT_STRINGS" "Z" (.int 1) (sd_A s0) U H ∧
  va_Z "jdk/internal/util/Preconditions" "SIOOBE_FORMATTER" "Ljava/util/function/BiFunction;" (sv 40) (sd_A s0) U H ∧
  (∀ q ∈ sd_str, ∃ a, sv q.2.2.2 = .ref a ∧ vk_R q.1 q.2.1 q.2.2.1 a U) ∧
  (∀ w ∈ sd_nw, va_Nw w U) ∧
  (∀ q ∈ sd_nc, va_Nc (sd_cl.getD q.1 ("", cT_1, 0)).1 (sd_in q.2) U) ∧
  va_AO "ThreeSizes$Thing" U ∧
  (Cond.arrayOver (.array .int)).before #[] U = true ∧ (Cond.arrayOver (.array .long)).before #[] U = true ∧
  (Cond.native arraycopyName).before #[] U = true ∧
  sv 0 = .null ∧ (sv 40).category = 1 ∧ (∀ r, r ≠ 0 → r < 32 → ∃ a, sv r = .ref a)
/-- the locals -/
def sd_L (s0 : Nat) (sv : Nat → Value) (lsC : Array Slot) (ls : List Value) : Prop := lsC.size = ls.length ∧ lv_wf lsC ∧ ∀ (i : Nat) (v : Value), ls[i]? = some v → v ≠ .null → lsC[i]? = some (.val (sd_V s0 sv v))
section SW
variable {dC : Nat → ClassId} {dI : Nat → Nat → Nat} {dA : Nat → ClassId} {s0 : Nat} {sv : Nat → Value} {h h' : am_H}
theorem sd_c_hi {r : Nat} (hr : 32 ≤ r) : sd_c s0 sv r = .ref (s0 + (r - 32)) := if_neg (by omega)
theorem sd_c_lo {r : Nat} (hr : r < 32) : sd_c s0 sv r = sv r := if_pos hr
/-- handle 0 is null, no other one is -/
def sd_v (sv : Nat → Value) : Prop := sv 0 = .null ∧ (sv 40).category = 1 ∧ (∀ r, r ≠ 0 → r < 32 → ∃ a, sv r = .ref a)
theorem sd_c_0 (hv : sd_v sv) : sd_c s0 sv 0 = .null := (sd_c_lo (by decide)).trans hv.1
theorem sd_c_nz (hv : sd_v sv) {r : Nat} (hr : r ≠ 0) : ∃ a, sd_c s0 sv r = .ref a := by
  by_cases h1 : r < 32
  · rw [sd_c_lo h1]; exact hv.2.2 r hr h1
  · rw [sd_c_hi (by omega)]; exact ⟨_, rfl⟩
theorem sd_c_or (hv : sd_v sv) (r : Nat) : sd_c s0 sv r = .null ∨ ∃ a, sd_c s0 sv r = .ref a := by
  by_cases hr : r = 0
  · rw [hr]; exact Or.inl (sd_c_0 hv)
  · exact Or.inr (sd_c_nz hv hr)
theorem sd_rf (hv : sd_v sv) (r : Nat) : va_rf (sd_o s0 sv r) = sd_c s0 sv r := by
  unfold sd_o
  rcases sd_c_or (s0 := s0) hv r with e | ⟨a, e⟩ <;> rw [e] <;> rfl
theorem sd_w_len : (sd_w dA s0 sv h).length = h.2.2.2.2.1 := by simp [sd_w]
theorem sd_w_at {a : Nat} (ha : a < h.2.2.2.2.1) : (sd_w dA s0 sv h)[a]? = some (s0 + a, sd_E dA s0 sv h (a + 32)) := by
  unfold sd_w
  rw [List.getElem?_map, List.getElem?_range ha]
  rfl
theorem sd_w_of {k : Nat} {q : Nat × va_E} (hk : (sd_w dA s0 sv h)[k]? = some q) : k < h.2.2.2.2.1 ∧ q = (s0 + k, sd_E dA s0 sv h (k + 32)) := by
  have hl : k < h.2.2.2.2.1 := by
    have := (List.getElem?_eq_some_iff.mp hk).1
    rwa [sd_w_len] at this
  rw [sd_w_at hl] at hk
  exact ⟨hl, (Option.some.inj hk).symm⟩
/-- the cell of a handle of the program's -/
theorem sd_w_r {r : Nat} (h1 : 32 ≤ r) (h2 : r < h.2.2.2.2.1 + 32) : (sd_w dA s0 sv h)[r - 32]? = some (s0 + (r - 32), sd_E dA s0 sv h r) := by
  rw [sd_w_at (by omega), show r - 32 + 32 = r by omega]
theorem sd_D : va_D (sd_A s0) (sd_w dA s0 sv h) := by
  refine ⟨fun i j p q hi hj hpq => ?_, fun k q hk => ?_⟩
  · obtain ⟨-, rfl⟩ := sd_w_of hi
    obtain ⟨-, rfl⟩ := sd_w_of hj
    have : s0 + i = s0 + j := hpq
    omega
  · obtain ⟨-, rfl⟩ := sd_w_of hk
    exact Nat.le_add_right _ _
/-- two heaps are alike at a handle -/
def sd_q (h h' : am_H) (r : Nat) : Prop := h'.1 r = h.1 r ∧ h'.2.1 r = h.2.1 r ∧ h'.2.2.1 r = h.2.2.1 r ∧ h'.2.2.2.1 r = h.2.2.2.1 r
theorem sd_E_q {r : Nat} (e : sd_q h h' r) : sd_E dA s0 sv h' r = sd_E dA s0 sv h r := by
  obtain ⟨e1, e2, e3, e4⟩ := e
  unfold sd_E sd_f am_k am_n
  rw [e1, e2, e3, e4]
theorem sd_w_set {r : Nat} (h1 : 32 ≤ r) (hn : h'.2.2.2.2.1 = h.2.2.2.2.1) (he : ∀ b, b ≠ r → sd_q h h' b) : sd_w dA s0 sv h' = (sd_w dA s0 sv h).set (r - 32) (s0 + (r - 32), sd_E dA s0 sv h' r) := by
  refine List.ext_getElem? (fun k => ?_)
  by_cases hk : k < h.2.2.2.2.1
  · rw [sd_w_at (by rw [hn]; exact hk), List.getElem?_set]
    by_cases e : r - 32 = k
    · subst e
      rw [if_pos rfl, if_pos (by rw [sd_w_len]; exact hk), show r - 32 + 32 = r by omega]
    · rw [if_neg e, sd_w_at hk, sd_E_q (he _ (by omega))]
  · rw [List.getElem?_eq_none (by rw [sd_w_len, hn]; omega), List.getElem?_eq_none (by rw [List.length_set, sd_w_len]; omega)]
theorem sd_w_push (hn : h'.2.2.2.2.1 = h.2.2.2.2.1 + 1) (he : ∀ b, b ≠ h.2.2.2.2.1 + 32 → sd_q h h' b) : sd_w dA s0 sv h' = sd_w dA s0 sv h ++ [(s0 + h.2.2.2.2.1, sd_E dA s0 sv h' (h.2.2.2.2.1 + 32))] := by
  unfold sd_w
  rw [hn, List.range_succ, List.map_append]
  congr 1
  refine List.map_congr_left (fun a ha => ?_)
  rw [sd_E_q (he _ (by have := List.mem_range.mp ha; omega))]
theorem sd_ok_keep (hk : sd_ok h) (hn : h'.2.2.2.2.1 = h.2.2.2.2.1) (he : h'.2.2.2.1 = h.2.2.2.1) : sd_ok h' := by
  intro r hr
  have e : am_k h' r = am_k h r := by unfold am_k; rw [he]
  rw [e] at hr ⊢
  rw [hn]
  exact hk r hr
theorem sd_S_keep {U : State} {H : Heap} (hS : sd_S s0 sv U H h) (he : ∀ b, b < 32 → sd_q h h' b) : sd_S s0 sv U H h' := by
  intro r hr
  obtain ⟨e1, e2, e3, e4⟩ := he r hr
  have h1 := hS r hr
  unfold am_k am_n at h1 ⊢
  rw [e1, e3, e4]
  exact h1
end SW
