/-! THE BEGINNING: what new objects are (printed by wip/whole/gen72.py) -/
def sw0 : wS := (fun _ => 2, fun _ => 0, fun _ => 3, fun _ => 0, fun _ => 0, fun _ => 0, fun _ => 0, fun _ => 0, 0, 0, 5, 1)
def tw0 : tS := (sw0, false, sw0, 0, fun _ => 0, (fun _ => 0, fun _ => 0, fun _ => 0, fun _ _ => 0, fun _ => 0, fun _ => 0), fun _ => 0)
theorem sw0_ok : wOK sw0 := ⟨fun j _ => ⟨Nat.zero_le _, (by show (2 : Nat) ≤ 4; decide), (by show (3 : Nat) ≤ 10; decide)⟩, by decide, fun i hi => absurd hi (Nat.not_lt_zero i), by decide, by decide, by decide⟩
theorem tw0_ok : tOK tw0 := ⟨sw0_ok, sw0_ok, Nat.zero_le _, fun i hi => absurd hi (Nat.not_lt_zero i), fun s _ => ⟨Nat.zero_le _, (fun z => absurd z (by show ¬ (0 : Nat) = 1; decide)), (fun z => absurd z (by show ¬ (0 : Nat) = 2; decide))⟩⟩
theorem lt_6 {P : Nat → Prop} (h0 : P 0) (h1 : P 1) (h2 : P 2) (h3 : P 3) (h4 : P 4) (h5 : P 5) : ∀ i, i < 6 → P i
  | 0, _ => h0
  | 1, _ => h1
  | 2, _ => h2
  | 3, _ => h3
  | 4, _ => h4
  | 5, _ => h5
  | i + 6, h => absurd h (by omega)
theorem lt_8 {P : Nat → Prop} (h0 : P 0) (h1 : P 1) (h2 : P 2) (h3 : P 3) (h4 : P 4) (h5 : P 5) (h6 : P 6) (h7 : P 7) : ∀ i, i < 8 → P i
  | 0, _ => h0
  | 1, _ => h1
  | 2, _ => h2
  | 3, _ => h3
  | 4, _ => h4
  | 5, _ => h5
  | 6, _ => h6
  | 7, _ => h7
  | i + 8, h => absurd h (by omega)
theorem lt_25 {P : Nat → Prop} (h0 : P 0) (h1 : P 1) (h2 : P 2) (h3 : P 3) (h4 : P 4) (h5 : P 5) (h6 : P 6) (h7 : P 7) (h8 : P 8) (h9 : P 9) (h10 : P 10) (h11 : P 11) (h12 : P 12) (h13 : P 13) (h14 : P 14) (h15 : P 15) (h16 : P 16) (h17 : P 17) (h18 : P 18) (h19 : P 19) (h20 : P 20) (h21 : P 21) (h22 : P 22) (h23 : P 23) (h24 : P 24) : ∀ i, i < 25 → P i
  | 0, _ => h0
  | 1, _ => h1
  | 2, _ => h2
  | 3, _ => h3
  | 4, _ => h4
  | 5, _ => h5
  | 6, _ => h6
  | 7, _ => h7
  | 8, _ => h8
  | 9, _ => h9
  | 10, _ => h10
  | 11, _ => h11
  | 12, _ => h12
  | 13, _ => h13
  | 14, _ => h14
  | 15, _ => h15
  | 16, _ => h16
  | 17, _ => h17
  | 18, _ => h18
  | 19, _ => h19
  | 20, _ => h20
  | 21, _ => h21
  | 22, _ => h22
  | 23, _ => h23
  | 24, _ => h24
  | i + 25, h => absurd h (by omega)
section BEGIN
variable {c S : Nat} {ci0 ci : Nat → Nat → Int32} {cj0 cj : Nat → Nat → Int64} {g0 g : am_G}
theorem mo_of (I : rgn c (oM c) (lM c) 67 S ci0 cj0 g0 ci cj g) : mo g c := ⟨rgn_k I, congrFun (rgn_go I) 0, congrFun (rgn_go I) 1, congrFun (rgn_go I) 2, congrFun (rgn_go I) 3, congrFun (rgn_go I) 4, congrFun (rgn_go I) 5, congrFun (rgn_go I) 6, congrFun (rgn_go I) 7, congrFun (rgn_go I) 9, congrFun (rgn_go I) 10, congrFun (rgn_go I) 11, congrFun (rgn_go I) 12, congrFun (rgn_go I) 14, congrFun (rgn_go I) 15, congrFun (rgn_go I) 16, congrFun (rgn_go I) 25, congrFun (rgn_go I) 27, congrFun (rgn_go I) 28, congrFun (rgn_go I) 29, congrFun (rgn_go I) 30, congrFun (rgn_go I) 31, congrFun (rgn_go I) 32, rgn_gk I 0 rfl, rgn_gn I 0 rfl, rgn_gk I 1 rfl, rgn_gn I 1 rfl, rgn_gk I 2 rfl, rgn_gn I 2 rfl, rgn_gk I 3 rfl, rgn_gn I 3 rfl, fun i hi => (congrFun (rgn_gr I 3 rfl) i).trans (if_pos hi), lt_8 (rgn_gk I 4 rfl) (rgn_gk I 5 rfl) (rgn_gk I 6 rfl) (rgn_gk I 7 rfl) (rgn_gk I 8 rfl) (rgn_gk I 9 rfl) (rgn_gk I 10 rfl) (rgn_gk I 11 rfl), lt_8 (rgn_gn I 4 rfl) (rgn_gn I 5 rfl) (rgn_gn I 6 rfl) (rgn_gn I 7 rfl) (rgn_gn I 8 rfl) (rgn_gn I 9 rfl) (rgn_gn I 10 rfl) (rgn_gn I 11 rfl), rgn_gk I 12 rfl, rgn_gn I 12 rfl, rgn_gk I 13 rfl, rgn_gn I 13 rfl, rgn_gk I 14 rfl, rgn_gn I 14 rfl, rgn_gk I 15 rfl, rgn_gn I 15 rfl, rgn_gk I 16 rfl, rgn_gn I 16 rfl, rgn_gk I 17 rfl, rgn_gn I 17 rfl, rgn_gk I 18 rfl, rgn_gn I 18 rfl, rgn_gk I 19 rfl, rgn_gn I 19 rfl, rgn_gk I 20 rfl, rgn_gn I 20 rfl, fun i hi => (congrFun (rgn_gr I 20 rfl) i).trans (if_pos hi), lt_6 (rgn_gk I 21 rfl) (rgn_gk I 22 rfl) (rgn_gk I 23 rfl) (rgn_gk I 24 rfl) (rgn_gk I 25 rfl) (rgn_gk I 26 rfl), lt_6 (rgn_gn I 21 rfl) (rgn_gn I 22 rfl) (rgn_gn I 23 rfl) (rgn_gn I 24 rfl) (rgn_gn I 25 rfl) (rgn_gn I 26 rfl), rgn_gk I 27 rfl, rgn_gn I 27 rfl, rgn_gk I 28 rfl, rgn_gn I 28 rfl, rgn_gk I 29 rfl, rgn_gn I 29 rfl, rgn_gk I 30 rfl, rgn_gn I 30 rfl, fun i hi => (congrFun (rgn_gr I 30 rfl) i).trans (if_pos hi), lt_6 (rgn_gk I 31 rfl) (rgn_gk I 32 rfl) (rgn_gk I 33 rfl) (rgn_gk I 34 rfl) (rgn_gk I 35 rfl) (rgn_gk I 36 rfl), lt_6 (rgn_gn I 31 rfl) (rgn_gn I 32 rfl) (rgn_gn I 33 rfl) (rgn_gn I 34 rfl) (rgn_gn I 35 rfl) (rgn_gn I 36 rfl), rgn_gk I 37 rfl, rgn_gn I 37 rfl, fun i hi => (congrFun (rgn_gr I 37 rfl) i).trans (if_pos hi), lt_25 (rgn_gk I 38 rfl) (rgn_gk I 39 rfl) (rgn_gk I 40 rfl) (rgn_gk I 41 rfl) (rgn_gk I 42 rfl) (rgn_gk I 43 rfl) (rgn_gk I 44 rfl) (rgn_gk I 45 rfl) (rgn_gk I 46 rfl) (rgn_gk I 47 rfl) (rgn_gk I 48 rfl) (rgn_gk I 49 rfl) (rgn_gk I 50 rfl) (rgn_gk I 51 rfl) (rgn_gk I 52 rfl) (rgn_gk I 53 rfl) (rgn_gk I 54 rfl) (rgn_gk I 55 rfl) (rgn_gk I 56 rfl) (rgn_gk I 57 rfl) (rgn_gk I 58 rfl) (rgn_gk I 59 rfl) (rgn_gk I 60 rfl) (rgn_gk I 61 rfl) (rgn_gk I 62 rfl), lt_25 (rgn_gn I 38 rfl) (rgn_gn I 39 rfl) (rgn_gn I 40 rfl) (rgn_gn I 41 rfl) (rgn_gn I 42 rfl) (rgn_gn I 43 rfl) (rgn_gn I 44 rfl) (rgn_gn I 45 rfl) (rgn_gn I 46 rfl) (rgn_gn I 47 rfl) (rgn_gn I 48 rfl) (rgn_gn I 49 rfl) (rgn_gn I 50 rfl) (rgn_gn I 51 rfl) (rgn_gn I 52 rfl) (rgn_gn I 53 rfl) (rgn_gn I 54 rfl) (rgn_gn I 55 rfl) (rgn_gn I 56 rfl) (rgn_gn I 57 rfl) (rgn_gn I 58 rfl) (rgn_gn I 59 rfl) (rgn_gn I 60 rfl) (rgn_gn I 61 rfl) (rgn_gn I 62 rfl), rgn_gk I 63 rfl, rgn_gn I 63 rfl, rgn_gk I 64 rfl, rgn_gn I 64 rfl, rgn_gk I 65 rfl, rgn_gn I 65 rfl, rgn_gk I 66 rfl, rgn_gn I 66 rfl⟩
theorem mW_of (I : rgn c (oM c) (lM c) 67 S ci0 cj0 g0 ci cj g) : mW ci c sw0 := ⟨three (congrFun (rgn_ci I 17 rfl) 0) (congrFun (rgn_ci I 17 rfl) 1) (congrFun (rgn_ci I 17 rfl) 2), three (congrFun (rgn_ci I 18 rfl) 0) (congrFun (rgn_ci I 18 rfl) 1) (congrFun (rgn_ci I 18 rfl) 2), three (congrFun (rgn_ci I 19 rfl) 0) (congrFun (rgn_ci I 19 rfl) 1) (congrFun (rgn_ci I 19 rfl) 2), fun i hi => absurd hi (Nat.not_lt_zero i), congrFun (rgn_ci I 27 rfl) 0, congrFun (rgn_ci I 27 rfl) 1, lt_6 (congrFun (rgn_ci I 28 rfl) 0) (congrFun (rgn_ci I 28 rfl) 1) (congrFun (rgn_ci I 28 rfl) 2) (congrFun (rgn_ci I 28 rfl) 3) (congrFun (rgn_ci I 28 rfl) 4) (congrFun (rgn_ci I 28 rfl) 5), congrFun (rgn_io I) 13, congrFun (rgn_io I) 17⟩
theorem to_of (I : rgn 32 (oT 32) (lT 32) 40 S ci0 cj0 g0 ci cj g) : to g := ⟨rgn_k I, congrFun (rgn_go I) 0, congrFun (rgn_go I) 1, congrFun (rgn_go I) 2, congrFun (rgn_go I) 3, congrFun (rgn_go I) 4, congrFun (rgn_go I) 5, congrFun (rgn_go I) 6, rgn_gk I 38 rfl, rgn_gn I 38 rfl, rgn_gk I 39 rfl, rgn_gn I 39 rfl⟩
theorem wo_of_33 (I : rgn 32 (oT 32) (lT 32) 40 S ci0 cj0 g0 ci cj g) : wo g 33 := ⟨rgn_gk I 0 rfl, congrFun (rgn_gr I 0 rfl) 0, congrFun (rgn_gr I 0 rfl) 1, congrFun (rgn_gr I 0 rfl) 2, congrFun (rgn_gr I 0 rfl) 3, congrFun (rgn_gr I 0 rfl) 4, congrFun (rgn_gr I 0 rfl) 5, congrFun (rgn_gr I 0 rfl) 6, congrFun (rgn_gr I 0 rfl) 7, rgn_gk I 1 rfl, rgn_gn I 1 rfl, rgn_gk I 2 rfl, rgn_gn I 2 rfl, rgn_gk I 3 rfl, rgn_gn I 3 rfl, rgn_gk I 4 rfl, rgn_gn I 4 rfl, rgn_gk I 5 rfl, rgn_gn I 5 rfl, rgn_gk I 6 rfl, rgn_gn I 6 rfl, rgn_gk I 7 rfl, rgn_gn I 7 rfl, rgn_gk I 8 rfl, rgn_gn I 8 rfl⟩
theorem wo_of_42 (I : rgn 32 (oT 32) (lT 32) 40 S ci0 cj0 g0 ci cj g) : wo g 42 := ⟨rgn_gk I 9 rfl, congrFun (rgn_gr I 9 rfl) 0, congrFun (rgn_gr I 9 rfl) 1, congrFun (rgn_gr I 9 rfl) 2, congrFun (rgn_gr I 9 rfl) 3, congrFun (rgn_gr I 9 rfl) 4, congrFun (rgn_gr I 9 rfl) 5, congrFun (rgn_gr I 9 rfl) 6, congrFun (rgn_gr I 9 rfl) 7, rgn_gk I 10 rfl, rgn_gn I 10 rfl, rgn_gk I 11 rfl, rgn_gn I 11 rfl, rgn_gk I 12 rfl, rgn_gn I 12 rfl, rgn_gk I 13 rfl, rgn_gn I 13 rfl, rgn_gk I 14 rfl, rgn_gn I 14 rfl, rgn_gk I 15 rfl, rgn_gn I 15 rfl, rgn_gk I 16 rfl, rgn_gn I 16 rfl, rgn_gk I 17 rfl, rgn_gn I 17 rfl⟩
theorem wo_of_51 (I : rgn 32 (oT 32) (lT 32) 40 S ci0 cj0 g0 ci cj g) : wo g 51 := ⟨rgn_gk I 18 rfl, congrFun (rgn_gr I 18 rfl) 0, congrFun (rgn_gr I 18 rfl) 1, congrFun (rgn_gr I 18 rfl) 2, congrFun (rgn_gr I 18 rfl) 3, congrFun (rgn_gr I 18 rfl) 4, congrFun (rgn_gr I 18 rfl) 5, congrFun (rgn_gr I 18 rfl) 6, congrFun (rgn_gr I 18 rfl) 7, rgn_gk I 19 rfl, rgn_gn I 19 rfl, rgn_gk I 20 rfl, rgn_gn I 20 rfl, rgn_gk I 21 rfl, rgn_gn I 21 rfl, rgn_gk I 22 rfl, rgn_gn I 22 rfl, rgn_gk I 23 rfl, rgn_gn I 23 rfl, rgn_gk I 24 rfl, rgn_gn I 24 rfl, rgn_gk I 25 rfl, rgn_gn I 25 rfl, rgn_gk I 26 rfl, rgn_gn I 26 rfl⟩
theorem ho_of (I : rgn 32 (oT 32) (lT 32) 40 S ci0 cj0 g0 ci cj g) : ho g := ⟨rgn_gk I 27 rfl, congrFun (rgn_gr I 27 rfl) 0, congrFun (rgn_gr I 27 rfl) 1, congrFun (rgn_gr I 27 rfl) 2, congrFun (rgn_gr I 27 rfl) 3, congrFun (rgn_gr I 27 rfl) 4, congrFun (rgn_gr I 27 rfl) 6, congrFun (rgn_gr I 27 rfl) 7, congrFun (rgn_gr I 27 rfl) 8, rgn_gk I 28 rfl, rgn_gn I 28 rfl, rgn_gk I 29 rfl, rgn_gn I 29 rfl, rgn_gk I 30 rfl, rgn_gn I 30 rfl, rgn_gk I 31 rfl, rgn_gn I 31 rfl, rgn_gk I 32 rfl, rgn_gn I 32 rfl, rgn_gk I 33 rfl, rgn_gn I 33 rfl, rgn_gk I 34 rfl, rgn_gn I 34 rfl, rgn_gk I 35 rfl, rgn_gn I 35 rfl⟩
theorem ta_of (I : rgn 32 (oT 32) (lT 32) 40 S ci0 cj0 g0 ci cj g) : ta g := ⟨rgn_gk I 36 rfl, congrFun (rgn_gr I 36 rfl) 1, rgn_gk I 37 rfl, rgn_gn I 37 rfl⟩
theorem wR_of (I : rgn 32 (oT 32) (lT 32) 40 S ci0 cj0 g0 ci cj g) : wR ci 33 sw0 := ⟨three (congrFun (rgn_ci I 1 rfl) 0) (congrFun (rgn_ci I 1 rfl) 1) (congrFun (rgn_ci I 1 rfl) 2), three (congrFun (rgn_ci I 2 rfl) 0) (congrFun (rgn_ci I 2 rfl) 1) (congrFun (rgn_ci I 2 rfl) 2), three (congrFun (rgn_ci I 3 rfl) 0) (congrFun (rgn_ci I 3 rfl) 1) (congrFun (rgn_ci I 3 rfl) 2), fun i hi => absurd hi (Nat.not_lt_zero i), fun i hi => absurd hi (Nat.not_lt_zero i), fun i hi => absurd hi (Nat.not_lt_zero i), fun i hi => absurd hi (Nat.not_lt_zero i), lt_6 (congrFun (rgn_ci I 8 rfl) 0) (congrFun (rgn_ci I 8 rfl) 1) (congrFun (rgn_ci I 8 rfl) 2) (congrFun (rgn_ci I 8 rfl) 3) (congrFun (rgn_ci I 8 rfl) 4) (congrFun (rgn_ci I 8 rfl) 5), congrFun (rgn_ci I 0 rfl) 8, congrFun (rgn_ci I 0 rfl) 9, congrFun (rgn_ci I 0 rfl) 10, congrFun (rgn_ci I 0 rfl) 11⟩
theorem cR_of (I : rgn 32 (oT 32) (lT 32) 40 S ci0 cj0 g0 ci cj g) (G : so g) (C : sc ci) : cR (fun a => 32 ≤ a ∧ a < 73) ci cj g tw0 :=
  ⟨⟨G, to_of I, wo_of_33 I, wo_of_42 I, wo_of_51 I, ho_of I, ta_of I, fun a h1 h2 => ⟨h1, h2⟩⟩, ⟨C, wR_of I, fun z => absurd z (by decide), congrFun (rgn_io I) 7, congrFun (rgn_ci I 36 rfl) 0, fun i hi => absurd hi (Nat.not_lt_zero i), fun i _ => congrFun (rgn_ci I 39 rfl) i⟩, fun s _ => Or.inl ⟨rfl, congrFun (rgn_gr I 38 rfl) s⟩, fun s _ t _ _ h => absurd h (by show ¬ (0 : Nat) = 1; decide), tw0_ok⟩
theorem mR_of (I : rgn 73 (oM 73) (lM 73) 67 S ci0 cj0 g0 ci cj g) (G : so g) (C : sc ci) : mR (fun a => 73 ≤ a ∧ a < 141) ci cj g tw0 :=
  ⟨⟨G, mo_of I, fun a h1 h2 => ⟨h1, h2⟩⟩, ⟨C, mW_of I, congrFun (rgn_io I) 8, fun i hi => absurd hi (Nat.not_lt_zero i), fun i _ => congrFun (rgn_ci I 16 rfl) (i + 2), fun s _ => ⟨congrFun (rgn_ci I 0 rfl) s, fun h => absurd h (by show ¬ (0 : Nat) = 1; decide), fun h => absurd h (by show ¬ (0 : Nat) = 2; decide)⟩⟩, Or.inl ⟨rfl, congrFun (rgn_go I) 18⟩, Or.inl (congrFun (rgn_go I) 19), Or.inl (congrFun (rgn_go I) 18), tw0_ok⟩
end BEGIN
