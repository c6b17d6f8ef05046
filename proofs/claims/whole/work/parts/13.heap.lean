section SH
variable {dC : Nat → ClassId} {dI : Nat → Nat → Nat} {dA : Nat → ClassId} {s0 : Nat} {sv : Nat → Value} {p : Program} {l : Launch} {e : Env} {R : Room} {s : State} {m : MethodId} {args : Array Value} {below : List Frame} {meth : Method} {c : Code} {q : am_M} {n0 q0 : Nat} {Z : State → Prop} {h : am_H} {pc : Nat} {ls st : List Value}
theorem sd_nd (hv : sd_v sv) {w : Value} (hc : (sd_V s0 sv w).category = 2) : ∃ x, w = .long x := by
  cases w with
  | long x => exact ⟨x, rfl⟩
  | ref r => rw [show sd_V s0 sv (.ref r) = sd_c s0 sv r from rfl, sd_cat hv r] at hc; exact absurd hc (by decide)
  | float b => rw [show sd_V s0 sv (.float b) = sv 40 from rfl, hv.2.1] at hc; exact absurd hc (by decide)
  | int x => exact absurd (show (1 : Nat) = 2 from hc) (by decide)
  | double b => exact absurd (show (1 : Nat) = 2 from hc) (by decide)
  | null => exact absurd (show (1 : Nat) = 2 from hc) (by decide)
  | retAddr b => exact absurd (show (1 : Nat) = 2 from hc) (by decide)
theorem sd_cat_le (hv : sd_v sv) (w : Value) : (sd_V s0 sv w).category ≤ w.category := by
  cases w with
  | ref r => rw [show sd_V s0 sv (.ref r) = sd_c s0 sv r from rfl, sd_cat hv r]; exact Nat.le_refl 1
  | float b => rw [show sd_V s0 sv (.float b) = sv 40 from rfl, hv.2.1]; exact Nat.le_refl 1
  | long x => exact Nat.le_refl 2
  | int x => exact Nat.le_refl 1
  | double b => exact Nat.le_succ 1
  | null => exact Nat.le_refl 1
  | retAddr b => exact Nat.le_refl 1
theorem sd_wt (hv : sd_v sv) : ∀ st : List Value, ((st.map (sd_V s0 sv)).map fun v => v.category).sum ≤ am_wt st
  | [] => Nat.le_refl 0
  | w :: st => by
    have h1 := sd_wt hv st
    have h2 := sd_cat_le (s0 := s0) hv w
    show (sd_V s0 sv w).category + ((st.map (sd_V s0 sv)).map fun v => v.category).sum ≤ w.category + am_wt st
    omega
def sd_lv (s0 : Nat) (sv : Nat → Value) (ls : List Value) : List (Nat × Value) := (List.range ls.length).filterMap (fun i => match (ls[i]? : Option Value) with
  | some Value.null => none
  | some v => some (i, sd_V s0 sv v)
  | none => none)
theorem sd_lv_mem {i : Nat} {v : Value} (hi : ls[i]? = some v) (hn : v ≠ .null) : (i, sd_V s0 sv v) ∈ sd_lv s0 sv ls := by
  refine List.mem_filterMap.mpr ⟨i, List.mem_range.mpr (List.getElem?_eq_some_iff.mp hi).1, ?_⟩
  rw [hi]
  cases v <;> first | rfl | exact absurd rfl hn
theorem sd_has {lsC : Array Slot} (hL : sd_L s0 sv lsC ls) : lv_has lsC ls.length (sd_lv s0 sv ls) := by
  refine ⟨hL.1, hL.2.1, fun w hw => ?_⟩
  obtain ⟨i, -, hi⟩ := List.mem_filterMap.mp hw
  split at hi
  · cases hi
  · rename_i v hv hn
    cases hi
    exact hL.2.2 i v hn hv
  · cases hi
theorem am_kill_len (ls : List Value) (i : Nat) : (am_kill ls i).length = ls.length := by
  cases i with
  | zero => rfl
  | succ k =>
    simp only [am_kill]
    split
    · simp
    · rfl
theorem am_kill_get {i j : Nat} {w : Value} (hj : (am_kill ls i)[j]? = some w) (hw : w ≠ .null) : ls[j]? = some w ∧ ¬ (j + 1 = i ∧ ∃ x, w = .long x) := by
  cases i with
  | zero => exact ⟨hj, fun z => absurd z.1 (by omega)⟩
  | succ k =>
    simp only [am_kill] at hj
    split at hj
    · rename_i x hx
      rw [List.getElem?_set] at hj
      by_cases e : k = j
      · rw [if_pos e] at hj
        split at hj
        · cases hj; exact absurd rfl hw
        · cases hj
      · rw [if_neg e] at hj
        exact ⟨hj, fun z => e (by omega)⟩
    · rename_i hx
      refine ⟨hj, ?_⟩
      rintro ⟨z, x, rfl⟩
      have : j = k := by omega
      subst this
      exact hx x hj
theorem sd_L_s1 (hv : sd_v sv) {i : Nat} {v : Value} {lsC : Array Slot} (hi : i < ls.length) (hh : lv_has lsC ls.length ((i, sd_V s0 sv v) :: (sd_lv s0 sv ls).filter (fun q => !(q.1 == i) && !(q.1 + 1 == i && q.2.category == 2)))) : sd_L s0 sv lsC (am_s1 ls i v) := by
  refine ⟨by rw [hh.1]; simp [am_s1, am_kill_len], hh.2.1, fun j w hj hw => ?_⟩
  unfold am_s1 at hj
  rw [List.getElem?_set] at hj
  by_cases e : i = j
  · rw [if_pos e] at hj
    split at hj
    · cases hj; subst e; exact hh.2.2 _ List.mem_cons_self
    · cases hj
  · rw [if_neg e] at hj
    obtain ⟨h1, h2⟩ := am_kill_get hj hw
    refine hh.2.2 (j, sd_V s0 sv w) (List.mem_cons_of_mem _ (List.mem_filter.mpr ⟨sd_lv_mem h1 hw, ?_⟩))
    simp only [Bool.and_eq_true, Bool.not_eq_true', beq_eq_false_iff_ne, ne_eq, Bool.and_eq_false_iff]
    refine ⟨fun z => e z.symm, ?_⟩
    by_cases z : j + 1 = i
    · exact Or.inr (fun y => h2 ⟨z, sd_nd hv y⟩)
    · exact Or.inl z
theorem sd_L_s2 (hv : sd_v sv) {i : Nat} {v : Value} {lsC : Array Slot} (hi : i + 1 < ls.length) (hh : lv_has lsC ls.length ((i, sd_V s0 sv v) :: (sd_lv s0 sv ls).filter (fun q => !(q.1 == i) && (!(q.1 == i + 1) && !(q.1 + 1 == i && q.2.category == 2))))) : sd_L s0 sv lsC (am_s2 ls i v) := by
  refine ⟨by rw [hh.1]; simp [am_s2, am_kill_len], hh.2.1, fun j w hj hw => ?_⟩
  unfold am_s2 at hj
  rw [List.getElem?_set] at hj
  by_cases e1 : i + 1 = j
  · rw [if_pos e1] at hj
    split at hj
    · cases hj; exact absurd rfl hw
    · cases hj
  · rw [if_neg e1, List.getElem?_set] at hj
    by_cases e : i = j
    · rw [if_pos e] at hj
      split at hj
      · cases hj; subst e; exact hh.2.2 _ List.mem_cons_self
      · cases hj
    · rw [if_neg e] at hj
      obtain ⟨h1, h2⟩ := am_kill_get hj hw
      refine hh.2.2 (j, sd_V s0 sv w) (List.mem_cons_of_mem _ (List.mem_filter.mpr ⟨sd_lv_mem h1 hw, ?_⟩))
      simp only [Bool.and_eq_true, Bool.not_eq_true', beq_eq_false_iff_ne, ne_eq, Bool.and_eq_false_iff]
      refine ⟨fun z => e z.symm, fun z => e1 z.symm, ?_⟩
      by_cases z : j + 1 = i
      · exact Or.inr (fun y => h2 ⟨z, sd_nd hv y⟩)
      · exact Or.inl z
theorem sd_istore_n {x : Int32} {i : Nat} {kn : Fin 4} (C : sd_Cx dC dI dA s0 sv p s m args meth c q n0) (hd : decode q.2.1 pc = .ok (.istore_n kn, 1)) (he : (kn : Nat) = i) (hi : i < ls.length) (k : sd_W dC dI dA s0 sv p l e R s m args below meth c q n0 q0 Z h (pc + 1) (am_s1 ls i (.int x)) st) : sd_W dC dI dA s0 sv p l e R s m args below meth c q n0 q0 Z h pc ls (.int x :: st) := by
  intro H locs lsC hS hL hz
  exact lv_istore_n C.1 C.2.1 hd he (sd_has hL) hi rfl (fun lsC2 h2 => (k H locs lsC2 hS (sd_L_s1 (sd_Cv C) hi h2) (by rw [h2.1, ← hL.1]; exact hz)))
theorem sd_lstore_n {x : Int64} {i : Nat} {kn : Fin 4} (C : sd_Cx dC dI dA s0 sv p s m args meth c q n0) (hd : decode q.2.1 pc = .ok (.lstore_n kn, 1)) (he : (kn : Nat) = i) (hi : i + 1 < ls.length) (k : sd_W dC dI dA s0 sv p l e R s m args below meth c q n0 q0 Z h (pc + 1) (am_s2 ls i (.long x)) st) : sd_W dC dI dA s0 sv p l e R s m args below meth c q n0 q0 Z h pc ls (.long x :: st) := by
  intro H locs lsC hS hL hz
  exact lv_lstore_n C.1 C.2.1 hd he (sd_has hL) hi rfl (fun lsC2 h2 => (k H locs lsC2 hS (sd_L_s2 (sd_Cv C) hi h2) (by rw [h2.1, ← hL.1]; exact hz)))
theorem sd_astore_n {x : Nat} {i : Nat} {kn : Fin 4} (C : sd_Cx dC dI dA s0 sv p s m args meth c q n0) (hd : decode q.2.1 pc = .ok (.astore_n kn, 1)) (he : (kn : Nat) = i) (hi : i < ls.length) (k : sd_W dC dI dA s0 sv p l e R s m args below meth c q n0 q0 Z h (pc + 1) (am_s1 ls i (.ref x)) st) : sd_W dC dI dA s0 sv p l e R s m args below meth c q n0 q0 Z h pc ls (.ref x :: st) := by
  intro H locs lsC hS hL hz
  show W _ _ _ _ _ _ _ _ _ _ _ _ _ _ _ (F0 m pc lsC (sd_c s0 sv x :: st.map (sd_V s0 sv)))
  have key : ∀ lsC2 : Array Slot, lv_has lsC2 ls.length ((i, sd_c s0 sv x) :: (sd_lv s0 sv ls).filter (fun q => !(q.1 == i) && !(q.1 + 1 == i && q.2.category == 2))) → W p l e R s m args below meth c H locs (h.2.2.2.2.1 - n0) (h.2.2.2.2.2 - q0) Z (F0 m (pc + 1) lsC2 (st.map (sd_V s0 sv))) := fun lsC2 h2 => (k H locs lsC2 hS (sd_L_s1 (sd_Cv C) hi h2) (by rw [h2.1, ← hL.1]; exact hz))
  rcases sd_c_or (s0 := s0) (sd_Cv C) x with z | ⟨a, z⟩
  · rw [z] at key ⊢
    exact lv_astore_nN C.1 C.2.1 hd he (sd_has hL) hi rfl key
  · rw [z] at key ⊢
    exact lv_astore_n C.1 C.2.1 hd he (sd_has hL) hi rfl key
theorem sd_istore {x : Int32} {i : Nat} (C : sd_Cx dC dI dA s0 sv p s m args meth c q n0) (hd : decode q.2.1 pc = .ok (.istore i, 2)) (hi : i < ls.length) (k : sd_W dC dI dA s0 sv p l e R s m args below meth c q n0 q0 Z h (pc + 2) (am_s1 ls i (.int x)) st) : sd_W dC dI dA s0 sv p l e R s m args below meth c q n0 q0 Z h pc ls (.int x :: st) := by
  intro H locs lsC hS hL hz
  exact lv_istore C.1 C.2.1 hd (sd_has hL) hi rfl (fun lsC2 h2 => (k H locs lsC2 hS (sd_L_s1 (sd_Cv C) hi h2) (by rw [h2.1, ← hL.1]; exact hz)))
theorem sd_lstore {x : Int64} {i : Nat} (C : sd_Cx dC dI dA s0 sv p s m args meth c q n0) (hd : decode q.2.1 pc = .ok (.lstore i, 2)) (hi : i + 1 < ls.length) (k : sd_W dC dI dA s0 sv p l e R s m args below meth c q n0 q0 Z h (pc + 2) (am_s2 ls i (.long x)) st) : sd_W dC dI dA s0 sv p l e R s m args below meth c q n0 q0 Z h pc ls (.long x :: st) := by
  intro H locs lsC hS hL hz
  exact lv_lstore C.1 C.2.1 hd (sd_has hL) hi rfl (fun lsC2 h2 => (k H locs lsC2 hS (sd_L_s2 (sd_Cv C) hi h2) (by rw [h2.1, ← hL.1]; exact hz)))
theorem sd_astore {x : Nat} {i : Nat} (C : sd_Cx dC dI dA s0 sv p s m args meth c q n0) (hd : decode q.2.1 pc = .ok (.astore i, 2)) (hi : i < ls.length) (k : sd_W dC dI dA s0 sv p l e R s m args below meth c q n0 q0 Z h (pc + 2) (am_s1 ls i (.ref x)) st) : sd_W dC dI dA s0 sv p l e R s m args below meth c q n0 q0 Z h pc ls (.ref x :: st) := by
  intro H locs lsC hS hL hz
  show W _ _ _ _ _ _ _ _ _ _ _ _ _ _ _ (F0 m pc lsC (sd_c s0 sv x :: st.map (sd_V s0 sv)))
  have key : ∀ lsC2 : Array Slot, lv_has lsC2 ls.length ((i, sd_c s0 sv x) :: (sd_lv s0 sv ls).filter (fun q => !(q.1 == i) && !(q.1 + 1 == i && q.2.category == 2))) → W p l e R s m args below meth c H locs (h.2.2.2.2.1 - n0) (h.2.2.2.2.2 - q0) Z (F0 m (pc + 2) lsC2 (st.map (sd_V s0 sv))) := fun lsC2 h2 => (k H locs lsC2 hS (sd_L_s1 (sd_Cv C) hi h2) (by rw [h2.1, ← hL.1]; exact hz))
  rcases sd_c_or (s0 := s0) (sd_Cv C) x with z | ⟨a, z⟩
  · rw [z] at key ⊢
    exact lv_astoreN C.1 C.2.1 hd (sd_has hL) hi rfl key
  · rw [z] at key ⊢
    exact lv_astore C.1 C.2.1 hd (sd_has hL) hi rfl key
theorem sd_iinc {x : Int32} {i : Nat} {n : Int} (C : sd_Cx dC dI dA s0 sv p s m args meth c q n0) (hd : decode q.2.1 pc = .ok (.iinc i n, 3)) (hl : ls[i]? = some (.int x)) (k : sd_W dC dI dA s0 sv p l e R s m args below meth c q n0 q0 Z h (pc + 3) (am_s1 ls i (.int (x + Int32.ofInt n))) st) : sd_W dC dI dA s0 sv p l e R s m args below meth c q n0 q0 Z h pc ls st := by
  intro H locs lsC hS hL hz
  have hi : i < ls.length := (List.getElem?_eq_some_iff.mp hl).1
  obtain ⟨j, hj⟩ := List.getElem?_of_mem (sd_lv_mem (s0 := s0) (sv := sv) hl (by intro z; cases z))
  exact lv_iinc C.1 C.2.1 hd (sd_has hL) hj rfl hi rfl (fun lsC2 h2 => (k H locs lsC2 hS (sd_L_s1 (sd_Cv C) hi h2) (by rw [h2.1, ← hL.1]; exact hz)))
theorem sd_in_of {i : Int32} {n : Nat} (hi : am_in i n = true) : vp_in i n := vp_in_iff.mpr (of_decide_eq_true hi)
theorem sd_E_o {r : Nat} (hk : am_k h r ≤ 12) : sd_E dA s0 sv h r = .inr (am_k h r, (List.range 40).map (fun j => sd_f s0 sv h r j)) := if_pos hk
theorem sd_E_i {r : Nat} (hk : am_k h r = 20) : sd_E dA s0 sv h r = .inl (dA 20, am_n h r, .inl (h.1 r)) := by
  unfold sd_E
  rw [hk]
  rfl
theorem sd_E_j {r : Nat} (hk : am_k h r = 21) : sd_E dA s0 sv h r = .inl (dA 21, am_n h r, .inr (.inl (h.2.1 r))) := by
  unfold sd_E
  rw [hk]
  rfl
theorem sd_E_b {r : Nat} (hk : am_k h r = 22) : sd_E dA s0 sv h r = .inl (dA 22, am_n h r, .inl (h.1 r)) := by
  unfold sd_E
  rw [hk]
  rfl
theorem sd_E_q1 {r : Nat} (hk : am_k h r = 23 ∨ am_k h r = 24 ∨ am_k h r = 25) : sd_E dA s0 sv h r = .inl (dA (am_k h r), am_n h r, .inr (.inr (.inr (.inr (fun j => sd_o s0 sv (h.2.2.1 r j)))))) := by
  unfold sd_E
  rcases hk with hk | hk | hk <;> rw [hk] <;> rfl
/-- a handle of a kind that the program makes -/
theorem sd_hi (hok : sd_ok h) {r : Nat} (h0 : am_k h r ≠ 0) (h1 : am_k h r < 30) : 32 ≤ r ∧ r < h.2.2.2.2.1 + 32 := by
  obtain ⟨a, b, -⟩ := hok r h0
  refine ⟨?_, a⟩
  rcases Nat.lt_or_ge r 32 with z | z
  · have := b z; omega
  · exact z
theorem sd_lo (hok : sd_ok h) {r : Nat} (h1 : 30 ≤ am_k h r) : r < 32 := by
  obtain ⟨a, b, d⟩ := hok r (by omega)
  rcases Nat.lt_or_ge r 32 with z | z
  · exact z
  · have := d z; omega
theorem sd_iaload {i : Int32} {a : Nat} (C : sd_Cx dC dI dA s0 sv p s m args meth c q n0) (hd : decode q.2.1 pc = .ok (.iaload, 1)) (hk : am_k h a = 20 ∨ am_k h a = 30) (hi : am_in i (am_n h a) = true) (k : sd_W dC dI dA s0 sv p l e R s m args below meth c q n0 q0 Z h (pc + 1) ls (.int (h.1 a i.toNatClampNeg) :: st)) : sd_W dC dI dA s0 sv p l e R s m args below meth c q n0 q0 Z h pc ls (.int i :: .ref a :: st) := by
  intro H locs lsC hS hL hz
  have k1 := k H locs lsC hS hL hz
  obtain ⟨hP, hS1, hok, hSS, -, -⟩ := hS
  show W _ _ _ _ _ _ _ _ _ _ _ _ _ _ _ (F0 m pc lsC (.int i :: sd_c s0 sv a :: st.map (sd_V s0 sv)))
  rcases hk with hk | hk
  · obtain ⟨h1, h2⟩ := sd_hi hok (r := a) (by omega) (by omega)
    rw [sd_c_hi h1]
    exact va_iald C.1 C.2.1 C.2.2.2.2.2.2.1.1 hP (a - 32) 0 ((sd_w_r h1 h2).trans (by rw [sd_E_i hk])) rfl (sd_in_of hi) hd k1
  · have h1 := sd_lo hok (r := a) (by omega)
    obtain ⟨t, e1, hT⟩ := (hSS a h1).1 hk
    rw [sd_c_lo h1, e1]
    exact va_ti C.1 C.2.1 hT hS1 (sd_in_of hi) rfl hd k1
theorem sd_baload {i : Int32} {a : Nat} (C : sd_Cx dC dI dA s0 sv p s m args meth c q n0) (hd : decode q.2.1 pc = .ok (.baload, 1)) (hk : am_k h a = 22 ∨ am_k h a = 31) (hi : am_in i (am_n h a) = true) (k : sd_W dC dI dA s0 sv p l e R s m args below meth c q n0 q0 Z h (pc + 1) ls (.int (h.1 a i.toNatClampNeg) :: st)) : sd_W dC dI dA s0 sv p l e R s m args below meth c q n0 q0 Z h pc ls (.int i :: .ref a :: st) := by
  intro H locs lsC hS hL hz
  have k1 := k H locs lsC hS hL hz
  obtain ⟨hP, hS1, hok, hSS, -, -⟩ := hS
  show W _ _ _ _ _ _ _ _ _ _ _ _ _ _ _ (F0 m pc lsC (.int i :: sd_c s0 sv a :: st.map (sd_V s0 sv)))
  rcases hk with hk | hk
  · obtain ⟨h1, h2⟩ := sd_hi hok (r := a) (by omega) (by omega)
    rw [sd_c_hi h1]
    exact va_bald C.1 C.2.1 C.2.2.2.2.2.2.1.1 hP (a - 32) 2 ((sd_w_r h1 h2).trans (by rw [sd_E_b hk])) rfl (sd_in_of hi) hd k1
  · have h1 := sd_lo hok (r := a) (by omega)
    obtain ⟨t, e1, hT⟩ := (hSS a h1).2.1 hk
    rw [sd_c_lo h1, e1]
    exact va_tb C.1 C.2.1 hT hS1 (sd_in_of hi) rfl hd k1
theorem sd_laload {i : Int32} {a : Nat} (C : sd_Cx dC dI dA s0 sv p s m args meth c q n0) (hd : decode q.2.1 pc = .ok (.laload, 1)) (hk : am_k h a = 21) (hi : am_in i (am_n h a) = true) (k : sd_W dC dI dA s0 sv p l e R s m args below meth c q n0 q0 Z h (pc + 1) ls (.long (h.2.1 a i.toNatClampNeg) :: st)) : sd_W dC dI dA s0 sv p l e R s m args below meth c q n0 q0 Z h pc ls (.int i :: .ref a :: st) := by
  intro H locs lsC hS hL hz
  have k1 := k H locs lsC hS hL hz
  obtain ⟨hP, hS1, hok, hSS, -, -⟩ := hS
  show W _ _ _ _ _ _ _ _ _ _ _ _ _ _ _ (F0 m pc lsC (.int i :: sd_c s0 sv a :: st.map (sd_V s0 sv)))
  obtain ⟨h1, h2⟩ := sd_hi hok (r := a) (by omega) (by omega)
  rw [sd_c_hi h1]
  exact va_lald C.1 C.2.1 C.2.2.2.2.2.2.1.1 hP (a - 32) 1 ((sd_w_r h1 h2).trans (by rw [sd_E_j hk])) rfl (sd_in_of hi) hd k1
theorem sd_aaload {i : Int32} {a : Nat} (C : sd_Cx dC dI dA s0 sv p s m args meth c q n0) (hd : decode q.2.1 pc = .ok (.aaload, 1)) (hk : am_k h a = 23 ∨ am_k h a = 24 ∨ am_k h a = 25) (hi : am_in i (am_n h a) = true) (k : sd_W dC dI dA s0 sv p l e R s m args below meth c q n0 q0 Z h (pc + 1) ls (.ref (h.2.2.1 a i.toNatClampNeg) :: st)) : sd_W dC dI dA s0 sv p l e R s m args below meth c q n0 q0 Z h pc ls (.int i :: .ref a :: st) := by
  intro H locs lsC hS hL hz
  have k1 := k H locs lsC hS hL hz
  obtain ⟨hP, hS1, hok, hSS, -, -⟩ := hS
  show W _ _ _ _ _ _ _ _ _ _ _ _ _ _ _ (F0 m pc lsC (.int i :: sd_c s0 sv a :: st.map (sd_V s0 sv)))
  obtain ⟨h1, h2⟩ := sd_hi hok (r := a) (by omega) (by omega)
  rw [sd_c_hi h1]
  have hw := (sd_w_r (dA := dA) (s0 := s0) (sv := sv) h1 h2)
  rw [sd_E_q1 hk] at hw
  have hcell := hP _ _ hw
  have hin := sd_in_of hi
  have hlt : i.toNatClampNeg < am_n h a := Nat.not_le.mp (fun z => hin (Or.inr z))
  have key : ∀ (j : Nat) (ty : FieldType), (sd_tys dA)[j]? = some (dA (am_k h a), ty) → ty.isReference = true → W p l e R s m args below meth c H locs (h.2.2.2.2.1 - n0) (h.2.2.2.2.2 - q0) Z (F0 m pc lsC (.int i :: .ref (s0 + (a - 32)) :: st.map (sd_V s0 sv))) := by
    intro j ty hj hr
    refine W.aald C.1 C.2.1 (v := sd_c s0 sv (h.2.2.1 a i.toNatClampNeg)) hcell ((C.2.2.2.2.2.2.1.1.2 j _ hj).1 (am_n h a) _) hr (fun z => by cases z) (by show ¬ (i < 0 ∨ (arrV _ _ _).slots.size ≤ _); rw [arrV_size]; exact hin) ?_ rfl rfl hd k1
    show (arrV _ _ _).slots[_]? = _
    simp only [arrV]
    rw [Array.getElem?_ofFn]
    rw [dif_pos hlt]
    rw [sd_rf (sd_Cv C)]
  rcases hk with z | z | z
  · exact key 3 (.object "ThreeSizes$Thing") (by rw [z]; rfl) rfl
  · exact key 4 (.array .int) (by rw [z]; rfl) rfl
  · exact key 5 (.array .long) (by rw [z]; rfl) rfl
theorem sd_arraylength {a : Nat} (C : sd_Cx dC dI dA s0 sv p s m args meth c q n0) (hd : decode q.2.1 pc = .ok (.arraylength, 1)) (hk : 20 ≤ am_k h a ∧ am_k h a ≤ 31 ∧ (am_k h a ≤ 25 ∨ 30 ≤ am_k h a)) (k : sd_W dC dI dA s0 sv p l e R s m args below meth c q n0 q0 Z h (pc + 1) ls (.int (Int32.ofNat (am_n h a)) :: st)) : sd_W dC dI dA s0 sv p l e R s m args below meth c q n0 q0 Z h pc ls (.ref a :: st) := by
  intro H locs lsC hS hL hz
  have k1 := k H locs lsC hS hL hz
  obtain ⟨hP, hS1, hok, hSS, -, -⟩ := hS
  show W _ _ _ _ _ _ _ _ _ _ _ _ _ _ _ (F0 m pc lsC (sd_c s0 sv a :: st.map (sd_V s0 sv)))
  rcases hk.2.2 with hk2 | hk2
  · obtain ⟨h1, h2⟩ := sd_hi hok (r := a) (by omega) (by omega)
    rw [sd_c_hi h1]
    have hw := (sd_w_r (dA := dA) (s0 := s0) (sv := sv) h1 h2)
    rcases (show am_k h a = 20 ∨ am_k h a = 21 ∨ am_k h a = 22 ∨ am_k h a = 23 ∨ am_k h a = 24 ∨ am_k h a = 25 by omega) with z | z | z | z | z | z
    · rw [sd_E_i z] at hw
      exact va_alen C.1 C.2.1 C.2.2.2.2.2.2.1.1 hP (a - 32) 0 hw rfl rfl hd k1
    · rw [sd_E_j z] at hw
      exact va_alen C.1 C.2.1 C.2.2.2.2.2.2.1.1 hP (a - 32) 1 hw rfl rfl hd k1
    · rw [sd_E_b z] at hw
      exact va_alen C.1 C.2.1 C.2.2.2.2.2.2.1.1 hP (a - 32) 2 hw rfl rfl hd k1
    · rw [sd_E_q1 (Or.inl z), z] at hw
      exact va_alen C.1 C.2.1 C.2.2.2.2.2.2.1.1 hP (a - 32) 3 hw rfl rfl hd k1
    · rw [sd_E_q1 (Or.inr (Or.inl z)), z] at hw
      exact va_alen C.1 C.2.1 C.2.2.2.2.2.2.1.1 hP (a - 32) 4 hw rfl rfl hd k1
    · rw [sd_E_q1 (Or.inr (Or.inr z)), z] at hw
      exact va_alen C.1 C.2.1 C.2.2.2.2.2.2.1.1 hP (a - 32) 5 hw rfl rfl hd k1
  · have h1 := sd_lo hok (r := a) (by omega)
    rcases (show am_k h a = 30 ∨ am_k h a = 31 by omega) with z | z
    · obtain ⟨t, e1, hT⟩ := (hSS a h1).1 z
      rw [sd_c_lo h1, e1]
      exact va_tlen C.1 C.2.1 hT hS1 rfl hd k1
    · obtain ⟨t, e1, hT⟩ := (hSS a h1).2.1 z
      rw [sd_c_lo h1, e1]
      exact va_tlen C.1 C.2.1 hT hS1 rfl hd k1
end SH
