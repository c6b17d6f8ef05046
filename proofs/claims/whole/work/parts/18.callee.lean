/-- how the machine's run goes on -/
theorem am_x_step {n d y : Nat} {i : Instr} {ops : List am_O} {ls st : List Value} {h : am_H} {R0 : Option Value × am_H} (e : am_x (n + 1) d y (.inr i :: ops) ls st h = some R0) (e1 : am_j i st = none) (e2 : am_r i st = none) (e3 : am_cl i st h = none) : ∃ ls' st' h', am_s i ls st h = some (ls', st', h') ∧ am_x n d y ops ls' st' h' = some R0 := by
  simp only [am_x, e1, e2, e3] at e
  split at e
  · rename_i es
    exact ⟨_, _, _, es, e⟩
  · cases e
theorem am_x_call {n d y k : Nat} {i : Instr} {ops : List am_O} {ls st as st' : List Value} {h : am_H} {R0 : Option Value × am_H} (e : am_x (n + 1) d y (.inr i :: ops) ls st h = some R0) (e1 : am_j i st = none) (e2 : am_r i st = none) (e3 : am_cl i st h = some (k, as, st')) : ∃ d' r h', d = d' + 1 ∧ am_x n d' k (am_bk k 0) (am_ent k as) [] h = some (r, h') ∧ am_x n d y ops ls (r.toList ++ st') h' = some R0 := by
  simp only [am_x, e1, e2, e3] at e
  split at e
  · cases e
  · split at e
    · rename_i es
      exact ⟨_, _, _, rfl, es, e⟩
    · cases e
theorem am_x_ret {n d y : Nat} {i : Instr} {ops : List am_O} {ls st : List Value} {h h' : am_H} {r r' : Option Value} (e : am_x (n + 1) d y (.inr i :: ops) ls st h = some (r', h')) (e1 : am_j i st = none) (e2 : am_r i st = some r) : r' = r ∧ h' = h := by
  simp only [am_x, e1, e2] at e
  cases e
  exact ⟨rfl, rfl⟩
theorem am_x_jump {n d y : Nat} {i : Instr} {ops : List am_O} {ls st st' : List Value} {h : am_H} {R0 : Option Value × am_H} {b : Nat} (e : am_x (n + 1) d y (.inr i :: ops) ls st h = some R0) (e1 : am_j i st = some (some b, st')) : am_x n d y (am_bk y b) ls st' h = some R0 := by
  simp only [am_x, e1] at e
  exact e
theorem am_x_on {n d y : Nat} {i : Instr} {ops : List am_O} {ls st st' : List Value} {h : am_H} {R0 : Option Value × am_H} (e : am_x (n + 1) d y (.inr i :: ops) ls st h = some R0) (e1 : am_j i st = some (none, st')) : am_x n d y ops ls st' h = some R0 := by
  simp only [am_x, e1] at e
  exact e
theorem am_x_stuck {n d y : Nat} {i : Instr} {ops : List am_O} {ls st : List Value} {h : am_H} {R0 : Option Value × am_H} (e : am_x (n + 1) d y (.inr i :: ops) ls st h = some R0) (e1 : am_j i st = none) (e2 : am_r i st = none) (e3 : am_cl i st h = none) (e4 : am_s i ls st h = none) : False := by
  simp only [am_x, e1, e2, e3, e4] at e
  cases e
theorem am_pop_spec : ∀ (n : Nat) (acc st as st' : List Value), am_pop n acc st = some (as, st') → ∃ bs, as = bs.reverse ++ acc ∧ st = bs ++ st' ∧ bs.length = n
  | 0, acc, st, as, st', h => by cases h; exact ⟨[], rfl, rfl, rfl⟩
  | n + 1, acc, [], as, st', h => by cases h
  | n + 1, acc, v :: st, as, st', h => by
    obtain ⟨bs, h1, h2, h3⟩ := am_pop_spec n (v :: acc) st as st' h
    exact ⟨v :: bs, by rw [h1]; simp, by rw [h2]; rfl, by rw [List.length_cons, h3]⟩
theorem am_pop_st {n : Nat} {st as st' : List Value} (h : am_pop n [] st = some (as, st')) : st = as.reverse ++ st' ∧ as.length = n := by
  obtain ⟨bs, h1, h2, h3⟩ := am_pop_spec n [] st as st' h
  subst h1
  rw [List.append_nil]
  exact ⟨by rw [List.reverse_reverse]; exact h2, by rw [List.length_reverse]; exact h3⟩
theorem am_to_spec {y pc : Nat} {off b : Int} (h : am_to y pc off b = true) : ∃ t : Nat, (am_pcl.getD y [])[b.toNat]? = some t ∧ (pc : Int) + off = (t : Int) := by
  unfold am_to at h
  split at h
  · rename_i t ht
    exact ⟨t, ht, of_decide_eq_true h⟩
  · cases h
def sd_K (dC : Nat → ClassId) (dI : Nat → Nat → Nat) (dA : Nat → ClassId) (s0 : Nat) (sv : Nat → Value) (p : Program) (l : Launch) (e : Env) (R : Room) (s : State) (m : MethodId) (args : Array Value) (below : List Frame) (meth : Method) (c : Code) (q : am_M) (n0 q0 : Nat) (Z : State → Prop) (r : Option Value) (hF : am_H) : Prop :=
  ∀ (pc : Nat) (i : Instr) (H : Heap) (locs : List Loc) (lsC : Array Slot), decode q.2.1 pc = .ok (i, 1) → sd_ri q.2.2.2.1 i r → sd_St dC dI dA s0 sv s n0 q0 hF H locs → W p l e R s m args below meth c H locs (hF.2.2.2.2.1 - n0) (hF.2.2.2.2.2 - q0) Z (F0 m pc lsC (r.map (sd_V s0 sv)).toList)
def sd_Main (l : Launch) (dC : Nat → ClassId) (dI : Nat → Nat → Nat) (dA : Nat → ClassId) (s0 : Nat) (sv : Nat → Value) (n : Nat) : Prop :=
  ∀ (d y : Nat) (r : Option Value) (hF : am_H) (p : Program) (e : Env) (R : Room) (s : State) (m : MethodId) (args : Array Value) (below : List Frame) (meth : Method) (c : Code) (n0 q0 : Nat) (Z : State → Prop), y < 245 → sd_Cx dC dI dA s0 sv p s m args meth c (am_q y) n0 → d + 1 ≤ R.frames → 100 * (d + 1) ≤ R.locals → hF.2.2.2.2.1 - n0 ≤ R.cells → hF.2.2.2.2.2 - q0 ≤ R.slots → sd_K dC dI dA s0 sv p l e R s m args below meth c (am_q y) n0 q0 Z r hF →
  ∀ (ops : List am_O) (ls st : List Value) (h : am_H) (pc : Nat), am_x n d y ops ls st h = some (r, hF) → okO y pc ops = true → sd_W dC dI dA s0 sv p l e R s m args below meth c (am_q y) n0 q0 Z h pc ls st
/-- the room that a method of the machine's takes -/
def sd_rm (d : Nat) (h h' : am_H) : Room := { frames := d + 1, cells := h'.2.2.2.2.1 - h.2.2.2.2.1, slots := h'.2.2.2.2.2 - h.2.2.2.2.2, locals := 100 * (d + 1) }
theorem sd_met {l : Launch} {dC : Nat → ClassId} {dI : Nat → Nat → Nat} {dA : Nat → ClassId} {s0 : Nat} {sv : Nat → Value} {n : Nat} (IH : sd_Main l dC dI dA s0 sv n) {k d : Nat} {as : List Value} {h h' : am_H} {r : Option Value} (hk : k < 245) (hl : k ≠ 235) (e : am_x n d k (am_bk k 0) (am_ent k as) [] h = some (r, h')) (hla : (am_lay as).length ≤ am_mx k) (hvv : sd_v sv) :
    Met l (am_q k).1 (Cond.code (am_q k).1 (am_q k).2.1 (am_q k).2.2.1 (am_q k).2.2.2.1 :: lwG) (sd_rm d h h') (sd_Pc dC dI dA s0 sv as h) (sd_Qc dC dI dA s0 sv r h h') (h'.2.2.2.2.1 - h.2.2.2.2.1) (h'.2.2.2.2.2 - h.2.2.2.2.2) (sd_A s0) := by
  obtain ⟨f1, f2, f3, f4, f5, f6, f7, f8⟩ := am_mtf hk hl
  refine va_MetF (cc := (am_q k).2.1) (maxL := (am_q k).2.2.1) (ret := (am_q k).2.2.2.1) f3 rfl ?_
  intro p e1 s m args below meth c s₁ B hml hv
  obtain ⟨rfl, hN, hsz, hP, hok, hSS⟩ := hv
  have hts := atoms_spec (ws := Cond.code (am_q k).1 (am_q k).2.1 (am_q k).2.2.1 (am_q k).2.2.2.1 :: lwG) B.pre
  have hown : s.vm.findClass (am_q k).1.cls = some m.cls := findClass_of_methodNamed B.named
  have hlocks := B.notSynchronized
  have C : sd_Cx dC dI dA s0 sv p s m ((as.map (sd_V s0 sv)).toArray) meth c (am_q k) h.2.2.2.2.1 := ⟨B.exec, B.bytes, hml, by rw [f7]; exact hown, fun w hw => hts w (List.mem_cons_of_mem _ hw), fun _ => (name_of_methodNamed B.named B.method).1, hN, hsz⟩
  have main := IH d k r h' p e1 (sd_rm d h h') s m _ below meth c h.2.2.2.2.1 h.2.2.2.2.2 (MQ below (sd_Qc dC dI dA s0 sv r h h') ((as.map (sd_V s0 sv)).toArray) s (h'.2.2.2.2.1 - h.2.2.2.2.1) (h'.2.2.2.2.2 - h.2.2.2.2.2) (sd_A s0)) hk C (Nat.le_refl _) (Nat.le_refl _) (Nat.le_refl _) (Nat.le_refl _) (by
    intro pc i H locs lsC hd hri hSt
    obtain ⟨hP1, hS1, hok1, hSS1, -, -⟩ := hSt
    have hq : ∀ t : State, t.heap = H → s.WarmedH t.vm → sd_Qc dC dI dA s0 sv r h h' ((as.map (sd_V s0 sv)).toArray) s (.returned (r.map (sd_V s0 sv))) t := fun t ht hW => ⟨rfl, by rw [ht]; exact hP1, hok1, sd_S_move hW.alike (fun a h1 h2 => by rw [ht]; exact hS1.2.1 a h1 h2) hSS1, hS1.F ht⟩
    rcases hri with ⟨rfl, x, ty, rfl, hr, hn⟩ | ⟨rfl, x, rfl, hr⟩ | ⟨rfl, x, ty, rfl, hr, ht⟩ | ⟨rfl, rfl, hr⟩
    · exact W.zret B.exec B.bytes (B.returns.trans hr) hn hq hS1.2.2 hd
    · exact W.lret B.exec B.bytes (B.returns.trans hr) hq hS1.2.2 hd
    · exact W.aret B.exec B.bytes (B.returns.trans hr) ht (sd_c_or hvv x) hq hS1.2.2 hd
    · exact W.vret B.exec B.bytes (B.returns.trans hr) hq hS1.2.2 hd) (am_bk k 0) (am_ent k as) [] h 0 e (am_okb hk f8)
  have hent := sd_entry (s0 := s0) hvv hla
  have hw := main s.heap [] _ ⟨hP, va_S.rf, hok, hSS, Nat.le_refl _, Nat.le_refl _⟩ hent (by
    rw [hent.1]
    unfold am_ent
    rw [List.length_append, List.length_replicate, ← f5]
    omega)
  rw [Nat.sub_self, Nat.sub_self] at hw
  rw [lg_entry_eq, ← f5]
  exact hw
section SC
variable {dC : Nat → ClassId} {dI : Nat → Nat → Nat} {dA : Nat → ClassId} {s0 : Nat} {sv : Nat → Value} {p : Program} {l : Launch} {e : Env} {R : Room} {s : State} {m : MethodId} {args : Array Value} {below : List Frame} {meth : Method} {c : Code} {q : am_M} {n0 q0 : Nat} {Z : State → Prop} {h : am_H} {pc : Nat} {ls st : List Value}
/-- behind a call -/
theorem sd_after {h' : am_H} {H : Heap} {locs : List Loc} {lsC : Array Slot} {r : Option Value} {st0 st' : List Value} {a : Array Value} (C : sd_Cx dC dI dA s0 sv p s m args meth c q n0) (hS : sd_St dC dI dA s0 sv s n0 q0 h H locs) (hL : sd_L s0 sv lsC ls) (hz : lsC.size = q.2.2.1) (hm1 : h.2.2.2.2.1 ≤ h'.2.2.2.2.1) (hm2 : h.2.2.2.2.2 ≤ h'.2.2.2.2.2)
    (hr : va_Run p l e R s m args below meth c H locs (h.2.2.2.2.1 - n0) (h.2.2.2.2.2 - q0) (h'.2.2.2.2.1 - h.2.2.2.2.1) (h'.2.2.2.2.2 - h.2.2.2.2.2) (F0 m pc lsC st0) (st'.map (sd_V s0 sv)) (sd_Qc dC dI dA s0 sv r h h' a) (sd_A s0))
    (k : sd_W dC dI dA s0 sv p l e R s m args below meth c q n0 q0 Z h' (pc + 3) ls (r.toList ++ st')) : W p l e R s m args below meth c H locs (h.2.2.2.2.1 - n0) (h.2.2.2.2.2 - q0) Z (F0 m pc lsC st0) := by
  intro T hT X
  obtain ⟨v, st₀, t, T', L, g0, X', hLf, e1, e2, ⟨ho, hP1, hok1, hSS1, hF1, hF2⟩, go⟩ := hr T hT X
  cases ho
  obtain ⟨-, hS1, -, -, hn0, hq0⟩ := hS
  rw [g0] at hF1 hF2
  have hS2 : va_S (sd_A s0) s.heap T'.heap (locs ++ L) := ⟨Nat.le_trans hS1.1 (by rw [e1]; exact hF1), fun a h1 h2 => by rw [e1, hF2 a (Nat.lt_of_lt_of_le h1 hS1.1) h2]; exact hS1.2.1 a h1 h2, fun b hb => by
    rcases List.mem_append.mp hb with z | z
    · exact hS1.2.2 b z
    · exact hLf b z⟩
  have hal : t.vm.Alike s.vm := by rw [← e2]; exact X'.warmed.alike.symm
  have hSS2 : sd_S s0 sv s s.heap h' := sd_S_move hal (fun a h1 h2 => by
    have hlt : a < s.heap.size := by
      have := C.2.2.2.2.2.2.2
      have h3 : ¬ s0 ≤ a := h2
      omega
    rw [← e1]
    exact (hS2.2.1 a hlt h2).symm) hSS1
  have kk := k T'.heap (locs ++ L) lsC ⟨by rw [e1]; exact hP1, hS2, hok1, hSS2, Nat.le_trans hn0 hm1, Nat.le_trans hq0 hm2⟩ hL hz
  rw [show h'.2.2.2.2.1 - n0 = h.2.2.2.2.1 - n0 + (h'.2.2.2.2.1 - h.2.2.2.2.1) by omega, show h'.2.2.2.2.2 - q0 = h.2.2.2.2.2 - q0 + (h'.2.2.2.2.2 - h.2.2.2.2.2) by omega, List.map_append, show r.toList.map (sd_V s0 sv) = (r.map (sd_V s0 sv)).toList by cases r <;> rfl] at kk
  obtain ⟨t2, a1, b1⟩ := kk T' rfl X'
  exact ⟨t2, go t2 a1, b1⟩
theorem sd_pre {H : Heap} {locs : List Loc} {as : List Value} (C : sd_Cx dC dI dA s0 sv p s m args meth c q n0) (hS : sd_St dC dI dA s0 sv s n0 q0 h H locs) (hsz : H.size = s0 + h.2.2.2.2.1) : ∀ U : State, U.heap = H → s.WarmedH U.vm → sd_Pc dC dI dA s0 sv as h (as.map (sd_V s0 sv)).toArray U := by
  intro U hU hW
  have hq : ∀ a : Nat, a < s.heap.size → ¬ sd_A s0 a → U.heap[a]? = s.heap[a]? := fun a h1 h2 => by rw [hU]; exact hS.2.1.2.1 a h1 h2
  exact ⟨rfl, sd_N_warm hW hq C.2.2.2.2.2.2.1, by rw [hU]; exact hsz, by rw [hU]; exact hS.1, hS.2.2.1, sd_S_move hW.alike hq hS.2.2.2.1⟩
theorem sd_good {L : List Cond} (hL : ∀ w ∈ L, w ∈ lwG) : GoodIn lwG L := fun w hw => ⟨hL w hw, good_of_word (List.mem_filter.mp (hL w hw)).2⟩
theorem sd_ws {k : Nat} (hk : k < 245) (hl : k ≠ 235) : ∀ w ∈ Cond.code (am_q k).1 (am_q k).2.1 (am_q k).2.2.1 (am_q k).2.2.2.1 :: lwG, w ∈ lwG := List.forall_mem_cons.mpr ⟨(lf_m k hk hl).1, fun _ h => h⟩
end SC
