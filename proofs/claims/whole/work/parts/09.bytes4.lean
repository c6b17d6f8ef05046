theorem okb_235_0 : okO 235 ((am_pcl.getD 235 []).getD 0 0) (am_bk 235 0) = true := by decide +kernel
theorem okb_235_1 : okO 235 ((am_pcl.getD 235 []).getD 1 0) (am_bk 235 1) = true := by decide +kernel
theorem okb_235_2 : okO 235 ((am_pcl.getD 235 []).getD 2 0) (am_bk 235 2) = true := by decide +kernel
theorem okb_235_3 : okO 235 ((am_pcl.getD 235 []).getD 3 0) (am_bk 235 3) = true := by decide +kernel
theorem okb_235_4 : okO 235 ((am_pcl.getD 235 []).getD 4 0) (am_bk 235 4) = true := by decide +kernel
theorem okb_235_5 : okO 235 ((am_pcl.getD 235 []).getD 5 0) (am_bk 235 5) = true := by decide +kernel
theorem okb_235_6 : okO 235 ((am_pcl.getD 235 []).getD 6 0) (am_bk 235 6) = true := by decide +kernel
theorem okb_235_7 : okO 235 ((am_pcl.getD 235 []).getD 7 0) (am_bk 235 7) = true := by decide +kernel
theorem okb_235_8 : okO 235 ((am_pcl.getD 235 []).getD 8 0) (am_bk 235 8) = true := by decide +kernel
theorem okb_235_9 : okO 235 ((am_pcl.getD 235 []).getD 9 0) (am_bk 235 9) = true := by decide +kernel
theorem okb_235_10 : okO 235 ((am_pcl.getD 235 []).getD 10 0) (am_bk 235 10) = true := by decide +kernel
theorem okb_235_11 : okO 235 ((am_pcl.getD 235 []).getD 11 0) (am_bk 235 11) = true := by decide +kernel
theorem okb_235_12 : okO 235 ((am_pcl.getD 235 []).getD 12 0) (am_bk 235 12) = true := by decide +kernel
theorem okb_235_13 : okO 235 ((am_pcl.getD 235 []).getD 13 0) (am_bk 235 13) = true := by decide +kernel
theorem okb_235_14 : okO 235 ((am_pcl.getD 235 []).getD 14 0) (am_bk 235 14) = true := by decide +kernel
theorem okb_235_15 : okO 235 ((am_pcl.getD 235 []).getD 15 0) (am_bk 235 15) = true := by decide +kernel
theorem okb_235_16 : okO 235 ((am_pcl.getD 235 []).getD 16 0) (am_bk 235 16) = true := by decide +kernel
theorem okb_235_17 : okO 235 ((am_pcl.getD 235 []).getD 17 0) (am_bk 235 17) = true := by decide +kernel
theorem okb_235_18 : okO 235 ((am_pcl.getD 235 []).getD 18 0) (am_bk 235 18) = true := by decide +kernel
theorem okb_235_19 : okO 235 ((am_pcl.getD 235 []).getD 19 0) (am_bk 235 19) = true := by decide +kernel
theorem okb_235_20 : okO 235 ((am_pcl.getD 235 []).getD 20 0) (am_bk 235 20) = true := by decide +kernel
theorem okb_235_21 : okO 235 ((am_pcl.getD 235 []).getD 21 0) (am_bk 235 21) = true := by decide +kernel
theorem okb_235_22 : okO 235 ((am_pcl.getD 235 []).getD 22 0) (am_bk 235 22) = true := by decide +kernel
theorem okb_235_23 : okO 235 ((am_pcl.getD 235 []).getD 23 0) (am_bk 235 23) = true := by decide +kernel
theorem okb_235_24 : okO 235 ((am_pcl.getD 235 []).getD 24 0) (am_bk 235 24) = true := by decide +kernel
theorem okb_235_25 : okO 235 ((am_pcl.getD 235 []).getD 25 0) (am_bk 235 25) = true := by decide +kernel
theorem okb_235_26 : okO 235 ((am_pcl.getD 235 []).getD 26 0) (am_bk 235 26) = true := by decide +kernel
theorem okb_235_27 : okO 235 ((am_pcl.getD 235 []).getD 27 0) (am_bk 235 27) = true := by decide +kernel
theorem okb_235_28 : okO 235 ((am_pcl.getD 235 []).getD 28 0) (am_bk 235 28) = true := by decide +kernel
theorem okb_235_29 : okO 235 ((am_pcl.getD 235 []).getD 29 0) (am_bk 235 29) = true := by decide +kernel
theorem okb_235_30 : okO 235 ((am_pcl.getD 235 []).getD 30 0) (am_bk 235 30) = true := by decide +kernel
theorem okb_235_31 : okO 235 ((am_pcl.getD 235 []).getD 31 0) (am_bk 235 31) = true := by decide +kernel
theorem okb_235_32 : okO 235 ((am_pcl.getD 235 []).getD 32 0) (am_bk 235 32) = true := by decide +kernel
theorem okb_235_33 : okO 235 ((am_pcl.getD 235 []).getD 33 0) (am_bk 235 33) = true := by decide +kernel
theorem okb_235_34 : okO 235 ((am_pcl.getD 235 []).getD 34 0) (am_bk 235 34) = true := by decide +kernel
theorem okb_235_35 : okO 235 ((am_pcl.getD 235 []).getD 35 0) (am_bk 235 35) = true := by decide +kernel
theorem okb_235_36 : okO 235 ((am_pcl.getD 235 []).getD 36 0) (am_bk 235 36) = true := by decide +kernel
theorem okb_235_37 : okO 235 ((am_pcl.getD 235 []).getD 37 0) (am_bk 235 37) = true := by decide +kernel
theorem okb_235_38 : okO 235 ((am_pcl.getD 235 []).getD 38 0) (am_bk 235 38) = true := by decide +kernel
theorem okb_235_39 : okO 235 ((am_pcl.getD 235 []).getD 39 0) (am_bk 235 39) = true := by decide +kernel
theorem okb_235_40 : okO 235 ((am_pcl.getD 235 []).getD 40 0) (am_bk 235 40) = true := by decide +kernel
theorem okb_235_41 : okO 235 ((am_pcl.getD 235 []).getD 41 0) (am_bk 235 41) = true := by decide +kernel
theorem okb_235_42 : okO 235 ((am_pcl.getD 235 []).getD 42 0) (am_bk 235 42) = true := by decide +kernel
theorem okb_235_43 : okO 235 ((am_pcl.getD 235 []).getD 43 0) (am_bk 235 43) = true := by decide +kernel
theorem okb_235_44 : okO 235 ((am_pcl.getD 235 []).getD 44 0) (am_bk 235 44) = true := by decide +kernel
theorem okb_235_45 : okO 235 ((am_pcl.getD 235 []).getD 45 0) (am_bk 235 45) = true := by decide +kernel
theorem okb_235_46 : okO 235 ((am_pcl.getD 235 []).getD 46 0) (am_bk 235 46) = true := by decide +kernel
theorem ok_235 : am_okm 235 = true := by
  refine List.all_eq_true.mpr (fun b hb => ?_)
  have hb2 : b < 47 := List.mem_range.mp hb
  match b, hb2 with
  | 0, _ => exact okb_235_0
  | 1, _ => exact okb_235_1
  | 2, _ => exact okb_235_2
  | 3, _ => exact okb_235_3
  | 4, _ => exact okb_235_4
  | 5, _ => exact okb_235_5
  | 6, _ => exact okb_235_6
  | 7, _ => exact okb_235_7
  | 8, _ => exact okb_235_8
  | 9, _ => exact okb_235_9
  | 10, _ => exact okb_235_10
  | 11, _ => exact okb_235_11
  | 12, _ => exact okb_235_12
  | 13, _ => exact okb_235_13
  | 14, _ => exact okb_235_14
  | 15, _ => exact okb_235_15
  | 16, _ => exact okb_235_16
  | 17, _ => exact okb_235_17
  | 18, _ => exact okb_235_18
  | 19, _ => exact okb_235_19
  | 20, _ => exact okb_235_20
  | 21, _ => exact okb_235_21
  | 22, _ => exact okb_235_22
  | 23, _ => exact okb_235_23
  | 24, _ => exact okb_235_24
  | 25, _ => exact okb_235_25
  | 26, _ => exact okb_235_26
  | 27, _ => exact okb_235_27
  | 28, _ => exact okb_235_28
  | 29, _ => exact okb_235_29
  | 30, _ => exact okb_235_30
  | 31, _ => exact okb_235_31
  | 32, _ => exact okb_235_32
  | 33, _ => exact okb_235_33
  | 34, _ => exact okb_235_34
  | 35, _ => exact okb_235_35
  | 36, _ => exact okb_235_36
  | 37, _ => exact okb_235_37
  | 38, _ => exact okb_235_38
  | 39, _ => exact okb_235_39
  | 40, _ => exact okb_235_40
  | 41, _ => exact okb_235_41
  | 42, _ => exact okb_235_42
  | 43, _ => exact okb_235_43
  | 44, _ => exact okb_235_44
  | 45, _ => exact okb_235_45
  | 46, _ => exact okb_235_46
  | b + 47, h => exact absurd h (by omega)
