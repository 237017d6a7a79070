/-! the table is what the code says (laid by program) -/
set_option maxRecDepth 100000 in
theorem tw_k0_0 : tw_chkR 0 0 7 = true := by decide +kernel
theorem tw_k0 : tw_okE 0 :=
  fun i e h => by
    have hl : i < 7 := (List.getElem?_eq_some_iff.mp h).1
    exact tw_okR tw_k0_0 i e (by omega) (by omega) h
set_option maxRecDepth 100000 in
theorem tw_k1_0 : tw_chkR 1 0 14 = true := by decide +kernel
theorem tw_k1 : tw_okE 1 :=
  fun i e h => by
    have hl : i < 14 := (List.getElem?_eq_some_iff.mp h).1
    exact tw_okR tw_k1_0 i e (by omega) (by omega) h
set_option maxRecDepth 100000 in
theorem tw_k2_0 : tw_chkR 2 0 18 = true := by decide +kernel
theorem tw_k2 : tw_okE 2 :=
  fun i e h => by
    have hl : i < 18 := (List.getElem?_eq_some_iff.mp h).1
    exact tw_okR tw_k2_0 i e (by omega) (by omega) h
set_option maxRecDepth 100000 in
theorem tw_k3_0 : tw_chkR 3 0 3 = true := by decide +kernel
theorem tw_k3 : tw_okE 3 :=
  fun i e h => by
    have hl : i < 3 := (List.getElem?_eq_some_iff.mp h).1
    exact tw_okR tw_k3_0 i e (by omega) (by omega) h
set_option maxRecDepth 100000 in
theorem tw_k4_0 : tw_chkR 4 0 9 = true := by decide +kernel
theorem tw_k4 : tw_okE 4 :=
  fun i e h => by
    have hl : i < 9 := (List.getElem?_eq_some_iff.mp h).1
    exact tw_okR tw_k4_0 i e (by omega) (by omega) h
set_option maxRecDepth 100000 in
theorem tw_k5_0 : tw_chkR 5 0 3 = true := by decide +kernel
theorem tw_k5 : tw_okE 5 :=
  fun i e h => by
    have hl : i < 3 := (List.getElem?_eq_some_iff.mp h).1
    exact tw_okR tw_k5_0 i e (by omega) (by omega) h
set_option maxRecDepth 100000 in
theorem tw_k6_0 : tw_chkR 6 0 8 = true := by decide +kernel
theorem tw_k6 : tw_okE 6 :=
  fun i e h => by
    have hl : i < 8 := (List.getElem?_eq_some_iff.mp h).1
    exact tw_okR tw_k6_0 i e (by omega) (by omega) h
set_option maxRecDepth 100000 in
theorem tw_k7_0 : tw_chkR 7 0 3 = true := by decide +kernel
theorem tw_k7 : tw_okE 7 :=
  fun i e h => by
    have hl : i < 3 := (List.getElem?_eq_some_iff.mp h).1
    exact tw_okR tw_k7_0 i e (by omega) (by omega) h
set_option maxRecDepth 100000 in
theorem tw_k8_0 : tw_chkR 8 0 10 = true := by decide +kernel
theorem tw_k8 : tw_okE 8 :=
  fun i e h => by
    have hl : i < 10 := (List.getElem?_eq_some_iff.mp h).1
    exact tw_okR tw_k8_0 i e (by omega) (by omega) h
set_option maxRecDepth 100000 in
theorem tw_k9_0 : tw_chkR 9 0 7 = true := by decide +kernel
theorem tw_k9 : tw_okE 9 :=
  fun i e h => by
    have hl : i < 7 := (List.getElem?_eq_some_iff.mp h).1
    exact tw_okR tw_k9_0 i e (by omega) (by omega) h
set_option maxRecDepth 100000 in
theorem tw_k10_0 : tw_chkR 10 0 13 = true := by decide +kernel
theorem tw_k10 : tw_okE 10 :=
  fun i e h => by
    have hl : i < 13 := (List.getElem?_eq_some_iff.mp h).1
    exact tw_okR tw_k10_0 i e (by omega) (by omega) h
set_option maxRecDepth 100000 in
theorem tw_k11_0 : tw_chkR 11 0 5 = true := by decide +kernel
theorem tw_k11 : tw_okE 11 :=
  fun i e h => by
    have hl : i < 5 := (List.getElem?_eq_some_iff.mp h).1
    exact tw_okR tw_k11_0 i e (by omega) (by omega) h
set_option maxRecDepth 100000 in
theorem tw_k12_0 : tw_chkR 12 0 7 = true := by decide +kernel
theorem tw_k12 : tw_okE 12 :=
  fun i e h => by
    have hl : i < 7 := (List.getElem?_eq_some_iff.mp h).1
    exact tw_okR tw_k12_0 i e (by omega) (by omega) h
set_option maxRecDepth 100000 in
theorem tw_k13_0 : tw_chkR 13 0 26 = true := by decide +kernel
theorem tw_k13 : tw_okE 13 :=
  fun i e h => by
    have hl : i < 26 := (List.getElem?_eq_some_iff.mp h).1
    exact tw_okR tw_k13_0 i e (by omega) (by omega) h
set_option maxRecDepth 100000 in
theorem tw_k14_0 : tw_chkR 14 0 21 = true := by decide +kernel
theorem tw_k14 : tw_okE 14 :=
  fun i e h => by
    have hl : i < 21 := (List.getElem?_eq_some_iff.mp h).1
    exact tw_okR tw_k14_0 i e (by omega) (by omega) h
set_option maxRecDepth 100000 in
theorem tw_k15_0 : tw_chkR 15 0 15 = true := by decide +kernel
theorem tw_k15 : tw_okE 15 :=
  fun i e h => by
    have hl : i < 15 := (List.getElem?_eq_some_iff.mp h).1
    exact tw_okR tw_k15_0 i e (by omega) (by omega) h
set_option maxRecDepth 100000 in
theorem tw_k16_0 : tw_chkR 16 0 7 = true := by decide +kernel
theorem tw_k16 : tw_okE 16 :=
  fun i e h => by
    have hl : i < 7 := (List.getElem?_eq_some_iff.mp h).1
    exact tw_okR tw_k16_0 i e (by omega) (by omega) h
set_option maxRecDepth 100000 in
theorem tw_k17_0 : tw_chkR 17 0 3 = true := by decide +kernel
theorem tw_k17 : tw_okE 17 :=
  fun i e h => by
    have hl : i < 3 := (List.getElem?_eq_some_iff.mp h).1
    exact tw_okR tw_k17_0 i e (by omega) (by omega) h
set_option maxRecDepth 100000 in
theorem tw_k18_0 : tw_chkR 18 0 3 = true := by decide +kernel
theorem tw_k18 : tw_okE 18 :=
  fun i e h => by
    have hl : i < 3 := (List.getElem?_eq_some_iff.mp h).1
    exact tw_okR tw_k18_0 i e (by omega) (by omega) h
set_option maxRecDepth 100000 in
theorem tw_k19_0 : tw_chkR 19 0 5 = true := by decide +kernel
theorem tw_k19 : tw_okE 19 :=
  fun i e h => by
    have hl : i < 5 := (List.getElem?_eq_some_iff.mp h).1
    exact tw_okR tw_k19_0 i e (by omega) (by omega) h
set_option maxRecDepth 100000 in
theorem tw_k20_0 : tw_chkR 20 0 10 = true := by decide +kernel
theorem tw_k20 : tw_okE 20 :=
  fun i e h => by
    have hl : i < 10 := (List.getElem?_eq_some_iff.mp h).1
    exact tw_okR tw_k20_0 i e (by omega) (by omega) h
set_option maxRecDepth 100000 in
theorem tw_k21_0 : tw_chkR 21 0 36 = true := by decide +kernel
theorem tw_k21 : tw_okE 21 :=
  fun i e h => by
    have hl : i < 36 := (List.getElem?_eq_some_iff.mp h).1
    exact tw_okR tw_k21_0 i e (by omega) (by omega) h
set_option maxRecDepth 100000 in
theorem tw_k22_0 : tw_chkR 22 0 24 = true := by decide +kernel
theorem tw_k22 : tw_okE 22 :=
  fun i e h => by
    have hl : i < 24 := (List.getElem?_eq_some_iff.mp h).1
    exact tw_okR tw_k22_0 i e (by omega) (by omega) h
set_option maxRecDepth 100000 in
theorem tw_k23_0 : tw_chkR 23 0 11 = true := by decide +kernel
theorem tw_k23 : tw_okE 23 :=
  fun i e h => by
    have hl : i < 11 := (List.getElem?_eq_some_iff.mp h).1
    exact tw_okR tw_k23_0 i e (by omega) (by omega) h
set_option maxRecDepth 100000 in
theorem tw_k24_0 : tw_chkR 24 0 10 = true := by decide +kernel
theorem tw_k24 : tw_okE 24 :=
  fun i e h => by
    have hl : i < 10 := (List.getElem?_eq_some_iff.mp h).1
    exact tw_okR tw_k24_0 i e (by omega) (by omega) h
set_option maxRecDepth 100000 in
theorem tw_k25_0 : tw_chkR 25 0 31 = true := by decide +kernel
theorem tw_k25 : tw_okE 25 :=
  fun i e h => by
    have hl : i < 31 := (List.getElem?_eq_some_iff.mp h).1
    exact tw_okR tw_k25_0 i e (by omega) (by omega) h
set_option maxRecDepth 100000 in
theorem tw_k26_0 : tw_chkR 26 0 28 = true := by decide +kernel
theorem tw_k26 : tw_okE 26 :=
  fun i e h => by
    have hl : i < 28 := (List.getElem?_eq_some_iff.mp h).1
    exact tw_okR tw_k26_0 i e (by omega) (by omega) h
set_option maxRecDepth 100000 in
theorem tw_k27_0 : tw_chkR 27 0 39 = true := by decide +kernel
theorem tw_k27 : tw_okE 27 :=
  fun i e h => by
    have hl : i < 39 := (List.getElem?_eq_some_iff.mp h).1
    exact tw_okR tw_k27_0 i e (by omega) (by omega) h
set_option maxRecDepth 100000 in
theorem tw_k28_0 : tw_chkR 28 0 17 = true := by decide +kernel
theorem tw_k28 : tw_okE 28 :=
  fun i e h => by
    have hl : i < 17 := (List.getElem?_eq_some_iff.mp h).1
    exact tw_okR tw_k28_0 i e (by omega) (by omega) h
set_option maxRecDepth 100000 in
theorem tw_k29_0 : tw_chkR 29 0 51 = true := by decide +kernel
theorem tw_k29 : tw_okE 29 :=
  fun i e h => by
    have hl : i < 51 := (List.getElem?_eq_some_iff.mp h).1
    exact tw_okR tw_k29_0 i e (by omega) (by omega) h
set_option maxRecDepth 100000 in
theorem tw_k30_0 : tw_chkR 30 0 24 = true := by decide +kernel
theorem tw_k30 : tw_okE 30 :=
  fun i e h => by
    have hl : i < 24 := (List.getElem?_eq_some_iff.mp h).1
    exact tw_okR tw_k30_0 i e (by omega) (by omega) h
set_option maxRecDepth 100000 in
theorem tw_k31_0 : tw_chkR 31 0 24 = true := by decide +kernel
theorem tw_k31 : tw_okE 31 :=
  fun i e h => by
    have hl : i < 24 := (List.getElem?_eq_some_iff.mp h).1
    exact tw_okR tw_k31_0 i e (by omega) (by omega) h
set_option maxRecDepth 100000 in
theorem tw_k32_0 : tw_chkR 32 0 16 = true := by decide +kernel
theorem tw_k32 : tw_okE 32 :=
  fun i e h => by
    have hl : i < 16 := (List.getElem?_eq_some_iff.mp h).1
    exact tw_okR tw_k32_0 i e (by omega) (by omega) h
set_option maxRecDepth 100000 in
theorem tw_k33_0 : tw_chkR 33 0 23 = true := by decide +kernel
theorem tw_k33 : tw_okE 33 :=
  fun i e h => by
    have hl : i < 23 := (List.getElem?_eq_some_iff.mp h).1
    exact tw_okR tw_k33_0 i e (by omega) (by omega) h
set_option maxRecDepth 100000 in
theorem tw_k34_0 : tw_chkR 34 0 17 = true := by decide +kernel
theorem tw_k34 : tw_okE 34 :=
  fun i e h => by
    have hl : i < 17 := (List.getElem?_eq_some_iff.mp h).1
    exact tw_okR tw_k34_0 i e (by omega) (by omega) h
set_option maxRecDepth 100000 in
theorem tw_k35_0 : tw_chkR 35 0 28 = true := by decide +kernel
theorem tw_k35 : tw_okE 35 :=
  fun i e h => by
    have hl : i < 28 := (List.getElem?_eq_some_iff.mp h).1
    exact tw_okR tw_k35_0 i e (by omega) (by omega) h
set_option maxRecDepth 100000 in
theorem tw_k36_0 : tw_chkR 36 0 17 = true := by decide +kernel
theorem tw_k36 : tw_okE 36 :=
  fun i e h => by
    have hl : i < 17 := (List.getElem?_eq_some_iff.mp h).1
    exact tw_okR tw_k36_0 i e (by omega) (by omega) h
set_option maxRecDepth 100000 in
theorem tw_k37_0 : tw_chkR 37 0 15 = true := by decide +kernel
theorem tw_k37 : tw_okE 37 :=
  fun i e h => by
    have hl : i < 15 := (List.getElem?_eq_some_iff.mp h).1
    exact tw_okR tw_k37_0 i e (by omega) (by omega) h
set_option maxRecDepth 100000 in
theorem tw_k38_0 : tw_chkR 38 0 60 = true := by decide +kernel
set_option maxRecDepth 100000 in
theorem tw_k38_60 : tw_chkR 38 60 6 = true := by decide +kernel
theorem tw_k38 : tw_okE 38 :=
  fun i e h => by
    have hl : i < 66 := (List.getElem?_eq_some_iff.mp h).1
    by_cases c0 : i < 60
    · exact tw_okR tw_k38_0 i e (by omega) (by omega) h
    exact tw_okR tw_k38_60 i e (by omega) (by omega) h
set_option maxRecDepth 100000 in
theorem tw_k39_0 : tw_chkR 39 0 31 = true := by decide +kernel
theorem tw_k39 : tw_okE 39 :=
  fun i e h => by
    have hl : i < 31 := (List.getElem?_eq_some_iff.mp h).1
    exact tw_okR tw_k39_0 i e (by omega) (by omega) h
set_option maxRecDepth 100000 in
theorem tw_k40_0 : tw_chkR 40 0 22 = true := by decide +kernel
theorem tw_k40 : tw_okE 40 :=
  fun i e h => by
    have hl : i < 22 := (List.getElem?_eq_some_iff.mp h).1
    exact tw_okR tw_k40_0 i e (by omega) (by omega) h
set_option maxRecDepth 100000 in
theorem tw_k41_0 : tw_chkR 41 0 25 = true := by decide +kernel
theorem tw_k41 : tw_okE 41 :=
  fun i e h => by
    have hl : i < 25 := (List.getElem?_eq_some_iff.mp h).1
    exact tw_okR tw_k41_0 i e (by omega) (by omega) h
set_option maxRecDepth 100000 in
theorem tw_k42_0 : tw_chkR 42 0 27 = true := by decide +kernel
theorem tw_k42 : tw_okE 42 :=
  fun i e h => by
    have hl : i < 27 := (List.getElem?_eq_some_iff.mp h).1
    exact tw_okR tw_k42_0 i e (by omega) (by omega) h
set_option maxRecDepth 100000 in
theorem tw_k43_0 : tw_chkR 43 0 11 = true := by decide +kernel
theorem tw_k43 : tw_okE 43 :=
  fun i e h => by
    have hl : i < 11 := (List.getElem?_eq_some_iff.mp h).1
    exact tw_okR tw_k43_0 i e (by omega) (by omega) h
set_option maxRecDepth 100000 in
theorem tw_k44_0 : tw_chkR 44 0 20 = true := by decide +kernel
theorem tw_k44 : tw_okE 44 :=
  fun i e h => by
    have hl : i < 20 := (List.getElem?_eq_some_iff.mp h).1
    exact tw_okR tw_k44_0 i e (by omega) (by omega) h
set_option maxRecDepth 100000 in
theorem tw_k45_0 : tw_chkR 45 0 19 = true := by decide +kernel
theorem tw_k45 : tw_okE 45 :=
  fun i e h => by
    have hl : i < 19 := (List.getElem?_eq_some_iff.mp h).1
    exact tw_okR tw_k45_0 i e (by omega) (by omega) h
set_option maxRecDepth 100000 in
theorem tw_k46_0 : tw_chkR 46 0 14 = true := by decide +kernel
theorem tw_k46 : tw_okE 46 :=
  fun i e h => by
    have hl : i < 14 := (List.getElem?_eq_some_iff.mp h).1
    exact tw_okR tw_k46_0 i e (by omega) (by omega) h
set_option maxRecDepth 100000 in
theorem tw_k47_0 : tw_chkR 47 0 43 = true := by decide +kernel
theorem tw_k47 : tw_okE 47 :=
  fun i e h => by
    have hl : i < 43 := (List.getElem?_eq_some_iff.mp h).1
    exact tw_okR tw_k47_0 i e (by omega) (by omega) h
set_option maxRecDepth 100000 in
theorem tw_k48_0 : tw_chkR 48 0 20 = true := by decide +kernel
theorem tw_k48 : tw_okE 48 :=
  fun i e h => by
    have hl : i < 20 := (List.getElem?_eq_some_iff.mp h).1
    exact tw_okR tw_k48_0 i e (by omega) (by omega) h
set_option maxRecDepth 100000 in
theorem tw_k49_0 : tw_chkR 49 0 19 = true := by decide +kernel
theorem tw_k49 : tw_okE 49 :=
  fun i e h => by
    have hl : i < 19 := (List.getElem?_eq_some_iff.mp h).1
    exact tw_okR tw_k49_0 i e (by omega) (by omega) h
set_option maxRecDepth 100000 in
theorem tw_k50_0 : tw_chkR 50 0 3 = true := by decide +kernel
theorem tw_k50 : tw_okE 50 :=
  fun i e h => by
    have hl : i < 3 := (List.getElem?_eq_some_iff.mp h).1
    exact tw_okR tw_k50_0 i e (by omega) (by omega) h
set_option maxRecDepth 100000 in
theorem tw_k51_0 : tw_chkR 51 0 7 = true := by decide +kernel
theorem tw_k51 : tw_okE 51 :=
  fun i e h => by
    have hl : i < 7 := (List.getElem?_eq_some_iff.mp h).1
    exact tw_okR tw_k51_0 i e (by omega) (by omega) h
set_option maxRecDepth 100000 in
theorem tw_k52_0 : tw_chkR 52 0 40 = true := by decide +kernel
theorem tw_k52 : tw_okE 52 :=
  fun i e h => by
    have hl : i < 40 := (List.getElem?_eq_some_iff.mp h).1
    exact tw_okR tw_k52_0 i e (by omega) (by omega) h
set_option maxRecDepth 100000 in
theorem tw_k53_0 : tw_chkR 53 0 11 = true := by decide +kernel
theorem tw_k53 : tw_okE 53 :=
  fun i e h => by
    have hl : i < 11 := (List.getElem?_eq_some_iff.mp h).1
    exact tw_okR tw_k53_0 i e (by omega) (by omega) h
set_option maxRecDepth 100000 in
theorem tw_k54_0 : tw_chkR 54 0 20 = true := by decide +kernel
theorem tw_k54 : tw_okE 54 :=
  fun i e h => by
    have hl : i < 20 := (List.getElem?_eq_some_iff.mp h).1
    exact tw_okR tw_k54_0 i e (by omega) (by omega) h
set_option maxRecDepth 100000 in
theorem tw_k55_0 : tw_chkR 55 0 8 = true := by decide +kernel
theorem tw_k55 : tw_okE 55 :=
  fun i e h => by
    have hl : i < 8 := (List.getElem?_eq_some_iff.mp h).1
    exact tw_okR tw_k55_0 i e (by omega) (by omega) h
set_option maxRecDepth 100000 in
theorem tw_k56_0 : tw_chkR 56 0 60 = true := by decide +kernel
set_option maxRecDepth 100000 in
theorem tw_k56_60 : tw_chkR 56 60 60 = true := by decide +kernel
set_option maxRecDepth 100000 in
theorem tw_k56_120 : tw_chkR 56 120 28 = true := by decide +kernel
theorem tw_k56 : tw_okE 56 :=
  fun i e h => by
    have hl : i < 148 := (List.getElem?_eq_some_iff.mp h).1
    by_cases c0 : i < 60
    · exact tw_okR tw_k56_0 i e (by omega) (by omega) h
    by_cases c60 : i < 120
    · exact tw_okR tw_k56_60 i e (by omega) (by omega) h
    exact tw_okR tw_k56_120 i e (by omega) (by omega) h
set_option maxRecDepth 100000 in
theorem tw_k57_0 : tw_chkR 57 0 13 = true := by decide +kernel
theorem tw_k57 : tw_okE 57 :=
  fun i e h => by
    have hl : i < 13 := (List.getElem?_eq_some_iff.mp h).1
    exact tw_okR tw_k57_0 i e (by omega) (by omega) h
set_option maxRecDepth 100000 in
theorem tw_k58_0 : tw_chkR 58 0 10 = true := by decide +kernel
theorem tw_k58 : tw_okE 58 :=
  fun i e h => by
    have hl : i < 10 := (List.getElem?_eq_some_iff.mp h).1
    exact tw_okR tw_k58_0 i e (by omega) (by omega) h
set_option maxRecDepth 100000 in
theorem tw_k59_0 : tw_chkR 59 0 12 = true := by decide +kernel
theorem tw_k59 : tw_okE 59 :=
  fun i e h => by
    have hl : i < 12 := (List.getElem?_eq_some_iff.mp h).1
    exact tw_okR tw_k59_0 i e (by omega) (by omega) h
set_option maxRecDepth 100000 in
theorem tw_k60_0 : tw_chkR 60 0 41 = true := by decide +kernel
theorem tw_k60 : tw_okE 60 :=
  fun i e h => by
    have hl : i < 41 := (List.getElem?_eq_some_iff.mp h).1
    exact tw_okR tw_k60_0 i e (by omega) (by omega) h
set_option maxRecDepth 100000 in
theorem tw_k61_0 : tw_chkR 61 0 8 = true := by decide +kernel
theorem tw_k61 : tw_okE 61 :=
  fun i e h => by
    have hl : i < 8 := (List.getElem?_eq_some_iff.mp h).1
    exact tw_okR tw_k61_0 i e (by omega) (by omega) h
set_option maxRecDepth 100000 in
theorem tw_k62_0 : tw_chkR 62 0 3 = true := by decide +kernel
theorem tw_k62 : tw_okE 62 :=
  fun i e h => by
    have hl : i < 3 := (List.getElem?_eq_some_iff.mp h).1
    exact tw_okR tw_k62_0 i e (by omega) (by omega) h
set_option maxRecDepth 100000 in
theorem tw_k63_0 : tw_chkR 63 0 32 = true := by decide +kernel
theorem tw_k63 : tw_okE 63 :=
  fun i e h => by
    have hl : i < 32 := (List.getElem?_eq_some_iff.mp h).1
    exact tw_okR tw_k63_0 i e (by omega) (by omega) h
set_option maxRecDepth 100000 in
theorem tw_k64_0 : tw_chkR 64 0 60 = true := by decide +kernel
set_option maxRecDepth 100000 in
theorem tw_k64_60 : tw_chkR 64 60 39 = true := by decide +kernel
theorem tw_k64 : tw_okE 64 :=
  fun i e h => by
    have hl : i < 99 := (List.getElem?_eq_some_iff.mp h).1
    by_cases c0 : i < 60
    · exact tw_okR tw_k64_0 i e (by omega) (by omega) h
    exact tw_okR tw_k64_60 i e (by omega) (by omega) h
set_option maxRecDepth 100000 in
theorem tw_k65_0 : tw_chkR 65 0 57 = true := by decide +kernel
theorem tw_k65 : tw_okE 65 :=
  fun i e h => by
    have hl : i < 57 := (List.getElem?_eq_some_iff.mp h).1
    exact tw_okR tw_k65_0 i e (by omega) (by omega) h
set_option maxRecDepth 100000 in
theorem tw_k66_0 : tw_chkR 66 0 21 = true := by decide +kernel
theorem tw_k66 : tw_okE 66 :=
  fun i e h => by
    have hl : i < 21 := (List.getElem?_eq_some_iff.mp h).1
    exact tw_okR tw_k66_0 i e (by omega) (by omega) h
set_option maxRecDepth 100000 in
theorem tw_k67_0 : tw_chkR 67 0 8 = true := by decide +kernel
theorem tw_k67 : tw_okE 67 :=
  fun i e h => by
    have hl : i < 8 := (List.getElem?_eq_some_iff.mp h).1
    exact tw_okR tw_k67_0 i e (by omega) (by omega) h
set_option maxRecDepth 100000 in
theorem tw_k68_0 : tw_chkR 68 0 11 = true := by decide +kernel
theorem tw_k68 : tw_okE 68 :=
  fun i e h => by
    have hl : i < 11 := (List.getElem?_eq_some_iff.mp h).1
    exact tw_okR tw_k68_0 i e (by omega) (by omega) h
set_option maxRecDepth 100000 in
theorem tw_k69_0 : tw_chkR 69 0 16 = true := by decide +kernel
theorem tw_k69 : tw_okE 69 :=
  fun i e h => by
    have hl : i < 16 := (List.getElem?_eq_some_iff.mp h).1
    exact tw_okR tw_k69_0 i e (by omega) (by omega) h
set_option maxRecDepth 100000 in
theorem tw_k70_0 : tw_chkR 70 0 16 = true := by decide +kernel
theorem tw_k70 : tw_okE 70 :=
  fun i e h => by
    have hl : i < 16 := (List.getElem?_eq_some_iff.mp h).1
    exact tw_okR tw_k70_0 i e (by omega) (by omega) h
set_option maxRecDepth 100000 in
theorem tw_k71_0 : tw_chkR 71 0 19 = true := by decide +kernel
theorem tw_k71 : tw_okE 71 :=
  fun i e h => by
    have hl : i < 19 := (List.getElem?_eq_some_iff.mp h).1
    exact tw_okR tw_k71_0 i e (by omega) (by omega) h
set_option maxRecDepth 100000 in
theorem tw_k72_0 : tw_chkR 72 0 16 = true := by decide +kernel
theorem tw_k72 : tw_okE 72 :=
  fun i e h => by
    have hl : i < 16 := (List.getElem?_eq_some_iff.mp h).1
    exact tw_okR tw_k72_0 i e (by omega) (by omega) h
set_option maxRecDepth 100000 in
theorem tw_k73_0 : tw_chkR 73 0 23 = true := by decide +kernel
theorem tw_k73 : tw_okE 73 :=
  fun i e h => by
    have hl : i < 23 := (List.getElem?_eq_some_iff.mp h).1
    exact tw_okR tw_k73_0 i e (by omega) (by omega) h
set_option maxRecDepth 100000 in
theorem tw_k74_0 : tw_chkR 74 0 9 = true := by decide +kernel
theorem tw_k74 : tw_okE 74 :=
  fun i e h => by
    have hl : i < 9 := (List.getElem?_eq_some_iff.mp h).1
    exact tw_okR tw_k74_0 i e (by omega) (by omega) h
set_option maxRecDepth 100000 in
theorem tw_k75_0 : tw_chkR 75 0 14 = true := by decide +kernel
theorem tw_k75 : tw_okE 75 :=
  fun i e h => by
    have hl : i < 14 := (List.getElem?_eq_some_iff.mp h).1
    exact tw_okR tw_k75_0 i e (by omega) (by omega) h
set_option maxRecDepth 100000 in
theorem tw_k76_0 : tw_chkR 76 0 16 = true := by decide +kernel
theorem tw_k76 : tw_okE 76 :=
  fun i e h => by
    have hl : i < 16 := (List.getElem?_eq_some_iff.mp h).1
    exact tw_okR tw_k76_0 i e (by omega) (by omega) h
set_option maxRecDepth 100000 in
theorem tw_k77_0 : tw_chkR 77 0 16 = true := by decide +kernel
theorem tw_k77 : tw_okE 77 :=
  fun i e h => by
    have hl : i < 16 := (List.getElem?_eq_some_iff.mp h).1
    exact tw_okR tw_k77_0 i e (by omega) (by omega) h
set_option maxRecDepth 100000 in
theorem tw_k78_0 : tw_chkR 78 0 32 = true := by decide +kernel
theorem tw_k78 : tw_okE 78 :=
  fun i e h => by
    have hl : i < 32 := (List.getElem?_eq_some_iff.mp h).1
    exact tw_okR tw_k78_0 i e (by omega) (by omega) h
set_option maxRecDepth 100000 in
theorem tw_k79_0 : tw_chkR 79 0 16 = true := by decide +kernel
theorem tw_k79 : tw_okE 79 :=
  fun i e h => by
    have hl : i < 16 := (List.getElem?_eq_some_iff.mp h).1
    exact tw_okR tw_k79_0 i e (by omega) (by omega) h
set_option maxRecDepth 100000 in
theorem tw_k80_0 : tw_chkR 80 0 15 = true := by decide +kernel
theorem tw_k80 : tw_okE 80 :=
  fun i e h => by
    have hl : i < 15 := (List.getElem?_eq_some_iff.mp h).1
    exact tw_okR tw_k80_0 i e (by omega) (by omega) h
set_option maxRecDepth 100000 in
theorem tw_k81_0 : tw_chkR 81 0 35 = true := by decide +kernel
theorem tw_k81 : tw_okE 81 :=
  fun i e h => by
    have hl : i < 35 := (List.getElem?_eq_some_iff.mp h).1
    exact tw_okR tw_k81_0 i e (by omega) (by omega) h
set_option maxRecDepth 100000 in
theorem tw_k82_0 : tw_chkR 82 0 3 = true := by decide +kernel
theorem tw_k82 : tw_okE 82 :=
  fun i e h => by
    have hl : i < 3 := (List.getElem?_eq_some_iff.mp h).1
    exact tw_okR tw_k82_0 i e (by omega) (by omega) h
set_option maxRecDepth 100000 in
theorem tw_k83_0 : tw_chkR 83 0 3 = true := by decide +kernel
theorem tw_k83 : tw_okE 83 :=
  fun i e h => by
    have hl : i < 3 := (List.getElem?_eq_some_iff.mp h).1
    exact tw_okR tw_k83_0 i e (by omega) (by omega) h
set_option maxRecDepth 100000 in
theorem tw_k84_0 : tw_chkR 84 0 4 = true := by decide +kernel
theorem tw_k84 : tw_okE 84 :=
  fun i e h => by
    have hl : i < 4 := (List.getElem?_eq_some_iff.mp h).1
    exact tw_okR tw_k84_0 i e (by omega) (by omega) h
set_option maxRecDepth 100000 in
theorem tw_k85_0 : tw_chkR 85 0 16 = true := by decide +kernel
theorem tw_k85 : tw_okE 85 :=
  fun i e h => by
    have hl : i < 16 := (List.getElem?_eq_some_iff.mp h).1
    exact tw_okR tw_k85_0 i e (by omega) (by omega) h
set_option maxRecDepth 100000 in
theorem tw_k86_0 : tw_chkR 86 0 30 = true := by decide +kernel
theorem tw_k86 : tw_okE 86 :=
  fun i e h => by
    have hl : i < 30 := (List.getElem?_eq_some_iff.mp h).1
    exact tw_okR tw_k86_0 i e (by omega) (by omega) h
set_option maxRecDepth 100000 in
theorem tw_k87_0 : tw_chkR 87 0 25 = true := by decide +kernel
theorem tw_k87 : tw_okE 87 :=
  fun i e h => by
    have hl : i < 25 := (List.getElem?_eq_some_iff.mp h).1
    exact tw_okR tw_k87_0 i e (by omega) (by omega) h
set_option maxRecDepth 100000 in
theorem tw_k88_0 : tw_chkR 88 0 5 = true := by decide +kernel
theorem tw_k88 : tw_okE 88 :=
  fun i e h => by
    have hl : i < 5 := (List.getElem?_eq_some_iff.mp h).1
    exact tw_okR tw_k88_0 i e (by omega) (by omega) h
set_option maxRecDepth 100000 in
theorem tw_k89_0 : tw_chkR 89 0 11 = true := by decide +kernel
theorem tw_k89 : tw_okE 89 :=
  fun i e h => by
    have hl : i < 11 := (List.getElem?_eq_some_iff.mp h).1
    exact tw_okR tw_k89_0 i e (by omega) (by omega) h
set_option maxRecDepth 100000 in
theorem tw_k90_0 : tw_chkR 90 0 24 = true := by decide +kernel
theorem tw_k90 : tw_okE 90 :=
  fun i e h => by
    have hl : i < 24 := (List.getElem?_eq_some_iff.mp h).1
    exact tw_okR tw_k90_0 i e (by omega) (by omega) h
set_option maxRecDepth 100000 in
theorem tw_k91_0 : tw_chkR 91 0 18 = true := by decide +kernel
theorem tw_k91 : tw_okE 91 :=
  fun i e h => by
    have hl : i < 18 := (List.getElem?_eq_some_iff.mp h).1
    exact tw_okR tw_k91_0 i e (by omega) (by omega) h
set_option maxRecDepth 100000 in
theorem tw_k92_0 : tw_chkR 92 0 18 = true := by decide +kernel
theorem tw_k92 : tw_okE 92 :=
  fun i e h => by
    have hl : i < 18 := (List.getElem?_eq_some_iff.mp h).1
    exact tw_okR tw_k92_0 i e (by omega) (by omega) h
set_option maxRecDepth 100000 in
theorem tw_k93_0 : tw_chkR 93 0 37 = true := by decide +kernel
theorem tw_k93 : tw_okE 93 :=
  fun i e h => by
    have hl : i < 37 := (List.getElem?_eq_some_iff.mp h).1
    exact tw_okR tw_k93_0 i e (by omega) (by omega) h
set_option maxRecDepth 100000 in
theorem tw_k94_0 : tw_chkR 94 0 25 = true := by decide +kernel
theorem tw_k94 : tw_okE 94 :=
  fun i e h => by
    have hl : i < 25 := (List.getElem?_eq_some_iff.mp h).1
    exact tw_okR tw_k94_0 i e (by omega) (by omega) h
set_option maxRecDepth 100000 in
theorem tw_k95_0 : tw_chkR 95 0 33 = true := by decide +kernel
theorem tw_k95 : tw_okE 95 :=
  fun i e h => by
    have hl : i < 33 := (List.getElem?_eq_some_iff.mp h).1
    exact tw_okR tw_k95_0 i e (by omega) (by omega) h
set_option maxRecDepth 100000 in
theorem tw_k96_0 : tw_chkR 96 0 15 = true := by decide +kernel
theorem tw_k96 : tw_okE 96 :=
  fun i e h => by
    have hl : i < 15 := (List.getElem?_eq_some_iff.mp h).1
    exact tw_okR tw_k96_0 i e (by omega) (by omega) h
set_option maxRecDepth 100000 in
theorem tw_k97_0 : tw_chkR 97 0 34 = true := by decide +kernel
theorem tw_k97 : tw_okE 97 :=
  fun i e h => by
    have hl : i < 34 := (List.getElem?_eq_some_iff.mp h).1
    exact tw_okR tw_k97_0 i e (by omega) (by omega) h
set_option maxRecDepth 100000 in
theorem tw_k98_0 : tw_chkR 98 0 20 = true := by decide +kernel
theorem tw_k98 : tw_okE 98 :=
  fun i e h => by
    have hl : i < 20 := (List.getElem?_eq_some_iff.mp h).1
    exact tw_okR tw_k98_0 i e (by omega) (by omega) h
set_option maxRecDepth 100000 in
theorem tw_k99_0 : tw_chkR 99 0 25 = true := by decide +kernel
theorem tw_k99 : tw_okE 99 :=
  fun i e h => by
    have hl : i < 25 := (List.getElem?_eq_some_iff.mp h).1
    exact tw_okR tw_k99_0 i e (by omega) (by omega) h
set_option maxRecDepth 100000 in
theorem tw_k100_0 : tw_chkR 100 0 11 = true := by decide +kernel
theorem tw_k100 : tw_okE 100 :=
  fun i e h => by
    have hl : i < 11 := (List.getElem?_eq_some_iff.mp h).1
    exact tw_okR tw_k100_0 i e (by omega) (by omega) h
set_option maxRecDepth 100000 in
theorem tw_k101_0 : tw_chkR 101 0 19 = true := by decide +kernel
theorem tw_k101 : tw_okE 101 :=
  fun i e h => by
    have hl : i < 19 := (List.getElem?_eq_some_iff.mp h).1
    exact tw_okR tw_k101_0 i e (by omega) (by omega) h
set_option maxRecDepth 100000 in
theorem tw_k102_0 : tw_chkR 102 0 21 = true := by decide +kernel
theorem tw_k102 : tw_okE 102 :=
  fun i e h => by
    have hl : i < 21 := (List.getElem?_eq_some_iff.mp h).1
    exact tw_okR tw_k102_0 i e (by omega) (by omega) h
set_option maxRecDepth 100000 in
theorem tw_k103_0 : tw_chkR 103 0 31 = true := by decide +kernel
theorem tw_k103 : tw_okE 103 :=
  fun i e h => by
    have hl : i < 31 := (List.getElem?_eq_some_iff.mp h).1
    exact tw_okR tw_k103_0 i e (by omega) (by omega) h
set_option maxRecDepth 100000 in
theorem tw_k104_0 : tw_chkR 104 0 39 = true := by decide +kernel
theorem tw_k104 : tw_okE 104 :=
  fun i e h => by
    have hl : i < 39 := (List.getElem?_eq_some_iff.mp h).1
    exact tw_okR tw_k104_0 i e (by omega) (by omega) h
set_option maxRecDepth 100000 in
theorem tw_k105_0 : tw_chkR 105 0 11 = true := by decide +kernel
theorem tw_k105 : tw_okE 105 :=
  fun i e h => by
    have hl : i < 11 := (List.getElem?_eq_some_iff.mp h).1
    exact tw_okR tw_k105_0 i e (by omega) (by omega) h
set_option maxRecDepth 100000 in
theorem tw_k106_0 : tw_chkR 106 0 26 = true := by decide +kernel
theorem tw_k106 : tw_okE 106 :=
  fun i e h => by
    have hl : i < 26 := (List.getElem?_eq_some_iff.mp h).1
    exact tw_okR tw_k106_0 i e (by omega) (by omega) h
set_option maxRecDepth 100000 in
theorem tw_k107_0 : tw_chkR 107 0 29 = true := by decide +kernel
theorem tw_k107 : tw_okE 107 :=
  fun i e h => by
    have hl : i < 29 := (List.getElem?_eq_some_iff.mp h).1
    exact tw_okR tw_k107_0 i e (by omega) (by omega) h
set_option maxRecDepth 100000 in
theorem tw_k108_0 : tw_chkR 108 0 21 = true := by decide +kernel
theorem tw_k108 : tw_okE 108 :=
  fun i e h => by
    have hl : i < 21 := (List.getElem?_eq_some_iff.mp h).1
    exact tw_okR tw_k108_0 i e (by omega) (by omega) h
set_option maxRecDepth 100000 in
theorem tw_k109_0 : tw_chkR 109 0 27 = true := by decide +kernel
theorem tw_k109 : tw_okE 109 :=
  fun i e h => by
    have hl : i < 27 := (List.getElem?_eq_some_iff.mp h).1
    exact tw_okR tw_k109_0 i e (by omega) (by omega) h
set_option maxRecDepth 100000 in
theorem tw_k110_0 : tw_chkR 110 0 40 = true := by decide +kernel
theorem tw_k110 : tw_okE 110 :=
  fun i e h => by
    have hl : i < 40 := (List.getElem?_eq_some_iff.mp h).1
    exact tw_okR tw_k110_0 i e (by omega) (by omega) h
set_option maxRecDepth 100000 in
theorem tw_k111_0 : tw_chkR 111 0 19 = true := by decide +kernel
theorem tw_k111 : tw_okE 111 :=
  fun i e h => by
    have hl : i < 19 := (List.getElem?_eq_some_iff.mp h).1
    exact tw_okR tw_k111_0 i e (by omega) (by omega) h
set_option maxRecDepth 100000 in
theorem tw_k112_0 : tw_chkR 112 0 17 = true := by decide +kernel
theorem tw_k112 : tw_okE 112 :=
  fun i e h => by
    have hl : i < 17 := (List.getElem?_eq_some_iff.mp h).1
    exact tw_okR tw_k112_0 i e (by omega) (by omega) h
set_option maxRecDepth 100000 in
theorem tw_k113_0 : tw_chkR 113 0 7 = true := by decide +kernel
theorem tw_k113 : tw_okE 113 :=
  fun i e h => by
    have hl : i < 7 := (List.getElem?_eq_some_iff.mp h).1
    exact tw_okR tw_k113_0 i e (by omega) (by omega) h
set_option maxRecDepth 100000 in
theorem tw_k114_0 : tw_chkR 114 0 3 = true := by decide +kernel
theorem tw_k114 : tw_okE 114 :=
  fun i e h => by
    have hl : i < 3 := (List.getElem?_eq_some_iff.mp h).1
    exact tw_okR tw_k114_0 i e (by omega) (by omega) h
set_option maxRecDepth 100000 in
theorem tw_k115_0 : tw_chkR 115 0 15 = true := by decide +kernel
theorem tw_k115 : tw_okE 115 :=
  fun i e h => by
    have hl : i < 15 := (List.getElem?_eq_some_iff.mp h).1
    exact tw_okR tw_k115_0 i e (by omega) (by omega) h
set_option maxRecDepth 100000 in
theorem tw_k116_0 : tw_chkR 116 0 23 = true := by decide +kernel
theorem tw_k116 : tw_okE 116 :=
  fun i e h => by
    have hl : i < 23 := (List.getElem?_eq_some_iff.mp h).1
    exact tw_okR tw_k116_0 i e (by omega) (by omega) h
set_option maxRecDepth 100000 in
theorem tw_k117_0 : tw_chkR 117 0 28 = true := by decide +kernel
theorem tw_k117 : tw_okE 117 :=
  fun i e h => by
    have hl : i < 28 := (List.getElem?_eq_some_iff.mp h).1
    exact tw_okR tw_k117_0 i e (by omega) (by omega) h
set_option maxRecDepth 100000 in
theorem tw_k118_0 : tw_chkR 118 0 29 = true := by decide +kernel
theorem tw_k118 : tw_okE 118 :=
  fun i e h => by
    have hl : i < 29 := (List.getElem?_eq_some_iff.mp h).1
    exact tw_okR tw_k118_0 i e (by omega) (by omega) h
set_option maxRecDepth 100000 in
theorem tw_k119_0 : tw_chkR 119 0 39 = true := by decide +kernel
theorem tw_k119 : tw_okE 119 :=
  fun i e h => by
    have hl : i < 39 := (List.getElem?_eq_some_iff.mp h).1
    exact tw_okR tw_k119_0 i e (by omega) (by omega) h
set_option maxRecDepth 100000 in
theorem tw_k120_0 : tw_chkR 120 0 7 = true := by decide +kernel
theorem tw_k120 : tw_okE 120 :=
  fun i e h => by
    have hl : i < 7 := (List.getElem?_eq_some_iff.mp h).1
    exact tw_okR tw_k120_0 i e (by omega) (by omega) h
set_option maxRecDepth 100000 in
theorem tw_k121_0 : tw_chkR 121 0 3 = true := by decide +kernel
theorem tw_k121 : tw_okE 121 :=
  fun i e h => by
    have hl : i < 3 := (List.getElem?_eq_some_iff.mp h).1
    exact tw_okR tw_k121_0 i e (by omega) (by omega) h
set_option maxRecDepth 100000 in
theorem tw_k122_0 : tw_chkR 122 0 8 = true := by decide +kernel
theorem tw_k122 : tw_okE 122 :=
  fun i e h => by
    have hl : i < 8 := (List.getElem?_eq_some_iff.mp h).1
    exact tw_okR tw_k122_0 i e (by omega) (by omega) h
set_option maxRecDepth 100000 in
theorem tw_k123_0 : tw_chkR 123 0 23 = true := by decide +kernel
theorem tw_k123 : tw_okE 123 :=
  fun i e h => by
    have hl : i < 23 := (List.getElem?_eq_some_iff.mp h).1
    exact tw_okR tw_k123_0 i e (by omega) (by omega) h
set_option maxRecDepth 100000 in
theorem tw_k124_0 : tw_chkR 124 0 4 = true := by decide +kernel
theorem tw_k124 : tw_okE 124 :=
  fun i e h => by
    have hl : i < 4 := (List.getElem?_eq_some_iff.mp h).1
    exact tw_okR tw_k124_0 i e (by omega) (by omega) h
set_option maxRecDepth 100000 in
theorem tw_k125_0 : tw_chkR 125 0 18 = true := by decide +kernel
theorem tw_k125 : tw_okE 125 :=
  fun i e h => by
    have hl : i < 18 := (List.getElem?_eq_some_iff.mp h).1
    exact tw_okR tw_k125_0 i e (by omega) (by omega) h
set_option maxRecDepth 100000 in
theorem tw_k126_0 : tw_chkR 126 0 27 = true := by decide +kernel
theorem tw_k126 : tw_okE 126 :=
  fun i e h => by
    have hl : i < 27 := (List.getElem?_eq_some_iff.mp h).1
    exact tw_okR tw_k126_0 i e (by omega) (by omega) h
set_option maxRecDepth 100000 in
theorem tw_k127_0 : tw_chkR 127 0 40 = true := by decide +kernel
theorem tw_k127 : tw_okE 127 :=
  fun i e h => by
    have hl : i < 40 := (List.getElem?_eq_some_iff.mp h).1
    exact tw_okR tw_k127_0 i e (by omega) (by omega) h
set_option maxRecDepth 100000 in
theorem tw_k128_0 : tw_chkR 128 0 7 = true := by decide +kernel
theorem tw_k128 : tw_okE 128 :=
  fun i e h => by
    have hl : i < 7 := (List.getElem?_eq_some_iff.mp h).1
    exact tw_okR tw_k128_0 i e (by omega) (by omega) h
set_option maxRecDepth 100000 in
theorem tw_k129_0 : tw_chkR 129 0 35 = true := by decide +kernel
theorem tw_k129 : tw_okE 129 :=
  fun i e h => by
    have hl : i < 35 := (List.getElem?_eq_some_iff.mp h).1
    exact tw_okR tw_k129_0 i e (by omega) (by omega) h
set_option maxRecDepth 100000 in
theorem tw_k130_0 : tw_chkR 130 0 24 = true := by decide +kernel
theorem tw_k130 : tw_okE 130 :=
  fun i e h => by
    have hl : i < 24 := (List.getElem?_eq_some_iff.mp h).1
    exact tw_okR tw_k130_0 i e (by omega) (by omega) h
set_option maxRecDepth 100000 in
theorem tw_k131_0 : tw_chkR 131 0 51 = true := by decide +kernel
theorem tw_k131 : tw_okE 131 :=
  fun i e h => by
    have hl : i < 51 := (List.getElem?_eq_some_iff.mp h).1
    exact tw_okR tw_k131_0 i e (by omega) (by omega) h
set_option maxRecDepth 100000 in
theorem tw_k132_0 : tw_chkR 132 0 22 = true := by decide +kernel
theorem tw_k132 : tw_okE 132 :=
  fun i e h => by
    have hl : i < 22 := (List.getElem?_eq_some_iff.mp h).1
    exact tw_okR tw_k132_0 i e (by omega) (by omega) h
set_option maxRecDepth 100000 in
theorem tw_k133_0 : tw_chkR 133 0 9 = true := by decide +kernel
theorem tw_k133 : tw_okE 133 :=
  fun i e h => by
    have hl : i < 9 := (List.getElem?_eq_some_iff.mp h).1
    exact tw_okR tw_k133_0 i e (by omega) (by omega) h
set_option maxRecDepth 100000 in
theorem tw_k134_0 : tw_chkR 134 0 26 = true := by decide +kernel
theorem tw_k134 : tw_okE 134 :=
  fun i e h => by
    have hl : i < 26 := (List.getElem?_eq_some_iff.mp h).1
    exact tw_okR tw_k134_0 i e (by omega) (by omega) h
set_option maxRecDepth 100000 in
theorem tw_k135_0 : tw_chkR 135 0 27 = true := by decide +kernel
theorem tw_k135 : tw_okE 135 :=
  fun i e h => by
    have hl : i < 27 := (List.getElem?_eq_some_iff.mp h).1
    exact tw_okR tw_k135_0 i e (by omega) (by omega) h
set_option maxRecDepth 100000 in
theorem tw_k136_0 : tw_chkR 136 0 42 = true := by decide +kernel
theorem tw_k136 : tw_okE 136 :=
  fun i e h => by
    have hl : i < 42 := (List.getElem?_eq_some_iff.mp h).1
    exact tw_okR tw_k136_0 i e (by omega) (by omega) h
set_option maxRecDepth 100000 in
theorem tw_k137_0 : tw_chkR 137 0 12 = true := by decide +kernel
theorem tw_k137 : tw_okE 137 :=
  fun i e h => by
    have hl : i < 12 := (List.getElem?_eq_some_iff.mp h).1
    exact tw_okR tw_k137_0 i e (by omega) (by omega) h
set_option maxRecDepth 100000 in
theorem tw_k138_0 : tw_chkR 138 0 20 = true := by decide +kernel
theorem tw_k138 : tw_okE 138 :=
  fun i e h => by
    have hl : i < 20 := (List.getElem?_eq_some_iff.mp h).1
    exact tw_okR tw_k138_0 i e (by omega) (by omega) h
set_option maxRecDepth 100000 in
theorem tw_k139_0 : tw_chkR 139 0 24 = true := by decide +kernel
theorem tw_k139 : tw_okE 139 :=
  fun i e h => by
    have hl : i < 24 := (List.getElem?_eq_some_iff.mp h).1
    exact tw_okR tw_k139_0 i e (by omega) (by omega) h
set_option maxRecDepth 100000 in
theorem tw_k140_0 : tw_chkR 140 0 19 = true := by decide +kernel
theorem tw_k140 : tw_okE 140 :=
  fun i e h => by
    have hl : i < 19 := (List.getElem?_eq_some_iff.mp h).1
    exact tw_okR tw_k140_0 i e (by omega) (by omega) h
set_option maxRecDepth 100000 in
theorem tw_k141_0 : tw_chkR 141 0 25 = true := by decide +kernel
theorem tw_k141 : tw_okE 141 :=
  fun i e h => by
    have hl : i < 25 := (List.getElem?_eq_some_iff.mp h).1
    exact tw_okR tw_k141_0 i e (by omega) (by omega) h
set_option maxRecDepth 100000 in
theorem tw_k142_0 : tw_chkR 142 0 21 = true := by decide +kernel
theorem tw_k142 : tw_okE 142 :=
  fun i e h => by
    have hl : i < 21 := (List.getElem?_eq_some_iff.mp h).1
    exact tw_okR tw_k142_0 i e (by omega) (by omega) h
set_option maxRecDepth 100000 in
theorem tw_k143_0 : tw_chkR 143 0 27 = true := by decide +kernel
theorem tw_k143 : tw_okE 143 :=
  fun i e h => by
    have hl : i < 27 := (List.getElem?_eq_some_iff.mp h).1
    exact tw_okR tw_k143_0 i e (by omega) (by omega) h
set_option maxRecDepth 100000 in
theorem tw_k144_0 : tw_chkR 144 0 13 = true := by decide +kernel
theorem tw_k144 : tw_okE 144 :=
  fun i e h => by
    have hl : i < 13 := (List.getElem?_eq_some_iff.mp h).1
    exact tw_okR tw_k144_0 i e (by omega) (by omega) h
set_option maxRecDepth 100000 in
theorem tw_k145_0 : tw_chkR 145 0 8 = true := by decide +kernel
theorem tw_k145 : tw_okE 145 :=
  fun i e h => by
    have hl : i < 8 := (List.getElem?_eq_some_iff.mp h).1
    exact tw_okR tw_k145_0 i e (by omega) (by omega) h
set_option maxRecDepth 100000 in
theorem tw_k146_0 : tw_chkR 146 0 8 = true := by decide +kernel
theorem tw_k146 : tw_okE 146 :=
  fun i e h => by
    have hl : i < 8 := (List.getElem?_eq_some_iff.mp h).1
    exact tw_okR tw_k146_0 i e (by omega) (by omega) h
set_option maxRecDepth 100000 in
theorem tw_k147_0 : tw_chkR 147 0 8 = true := by decide +kernel
theorem tw_k147 : tw_okE 147 :=
  fun i e h => by
    have hl : i < 8 := (List.getElem?_eq_some_iff.mp h).1
    exact tw_okR tw_k147_0 i e (by omega) (by omega) h
set_option maxRecDepth 100000 in
theorem tw_k148_0 : tw_chkR 148 0 8 = true := by decide +kernel
theorem tw_k148 : tw_okE 148 :=
  fun i e h => by
    have hl : i < 8 := (List.getElem?_eq_some_iff.mp h).1
    exact tw_okR tw_k148_0 i e (by omega) (by omega) h
set_option maxRecDepth 100000 in
theorem tw_k149_0 : tw_chkR 149 0 12 = true := by decide +kernel
theorem tw_k149 : tw_okE 149 :=
  fun i e h => by
    have hl : i < 12 := (List.getElem?_eq_some_iff.mp h).1
    exact tw_okR tw_k149_0 i e (by omega) (by omega) h
set_option maxRecDepth 100000 in
theorem tw_k150_0 : tw_chkR 150 0 12 = true := by decide +kernel
theorem tw_k150 : tw_okE 150 :=
  fun i e h => by
    have hl : i < 12 := (List.getElem?_eq_some_iff.mp h).1
    exact tw_okR tw_k150_0 i e (by omega) (by omega) h
set_option maxRecDepth 100000 in
theorem tw_k151_0 : tw_chkR 151 0 12 = true := by decide +kernel
theorem tw_k151 : tw_okE 151 :=
  fun i e h => by
    have hl : i < 12 := (List.getElem?_eq_some_iff.mp h).1
    exact tw_okR tw_k151_0 i e (by omega) (by omega) h
set_option maxRecDepth 100000 in
theorem tw_k152_0 : tw_chkR 152 0 60 = true := by decide +kernel
set_option maxRecDepth 100000 in
theorem tw_k152_60 : tw_chkR 152 60 2 = true := by decide +kernel
theorem tw_k152 : tw_okE 152 :=
  fun i e h => by
    have hl : i < 62 := (List.getElem?_eq_some_iff.mp h).1
    by_cases c0 : i < 60
    · exact tw_okR tw_k152_0 i e (by omega) (by omega) h
    exact tw_okR tw_k152_60 i e (by omega) (by omega) h
set_option maxRecDepth 100000 in
theorem tw_k153_0 : tw_chkR 153 0 20 = true := by decide +kernel
theorem tw_k153 : tw_okE 153 :=
  fun i e h => by
    have hl : i < 20 := (List.getElem?_eq_some_iff.mp h).1
    exact tw_okR tw_k153_0 i e (by omega) (by omega) h
set_option maxRecDepth 100000 in
theorem tw_k154_0 : tw_chkR 154 0 12 = true := by decide +kernel
theorem tw_k154 : tw_okE 154 :=
  fun i e h => by
    have hl : i < 12 := (List.getElem?_eq_some_iff.mp h).1
    exact tw_okR tw_k154_0 i e (by omega) (by omega) h
set_option maxRecDepth 100000 in
theorem tw_k155_0 : tw_chkR 155 0 32 = true := by decide +kernel
theorem tw_k155 : tw_okE 155 :=
  fun i e h => by
    have hl : i < 32 := (List.getElem?_eq_some_iff.mp h).1
    exact tw_okR tw_k155_0 i e (by omega) (by omega) h
set_option maxRecDepth 100000 in
theorem tw_k156_0 : tw_chkR 156 0 23 = true := by decide +kernel
theorem tw_k156 : tw_okE 156 :=
  fun i e h => by
    have hl : i < 23 := (List.getElem?_eq_some_iff.mp h).1
    exact tw_okR tw_k156_0 i e (by omega) (by omega) h
set_option maxRecDepth 100000 in
theorem tw_k157_0 : tw_chkR 157 0 39 = true := by decide +kernel
theorem tw_k157 : tw_okE 157 :=
  fun i e h => by
    have hl : i < 39 := (List.getElem?_eq_some_iff.mp h).1
    exact tw_okR tw_k157_0 i e (by omega) (by omega) h
set_option maxRecDepth 100000 in
theorem tw_k158_0 : tw_chkR 158 0 57 = true := by decide +kernel
theorem tw_k158 : tw_okE 158 :=
  fun i e h => by
    have hl : i < 57 := (List.getElem?_eq_some_iff.mp h).1
    exact tw_okR tw_k158_0 i e (by omega) (by omega) h
set_option maxRecDepth 100000 in
theorem tw_k159_0 : tw_chkR 159 0 16 = true := by decide +kernel
theorem tw_k159 : tw_okE 159 :=
  fun i e h => by
    have hl : i < 16 := (List.getElem?_eq_some_iff.mp h).1
    exact tw_okR tw_k159_0 i e (by omega) (by omega) h
set_option maxRecDepth 100000 in
theorem tw_k160_0 : tw_chkR 160 0 5 = true := by decide +kernel
theorem tw_k160 : tw_okE 160 :=
  fun i e h => by
    have hl : i < 5 := (List.getElem?_eq_some_iff.mp h).1
    exact tw_okR tw_k160_0 i e (by omega) (by omega) h
set_option maxRecDepth 100000 in
theorem tw_k161_0 : tw_chkR 161 0 5 = true := by decide +kernel
theorem tw_k161 : tw_okE 161 :=
  fun i e h => by
    have hl : i < 5 := (List.getElem?_eq_some_iff.mp h).1
    exact tw_okR tw_k161_0 i e (by omega) (by omega) h
set_option maxRecDepth 100000 in
theorem tw_k162_0 : tw_chkR 162 0 28 = true := by decide +kernel
theorem tw_k162 : tw_okE 162 :=
  fun i e h => by
    have hl : i < 28 := (List.getElem?_eq_some_iff.mp h).1
    exact tw_okR tw_k162_0 i e (by omega) (by omega) h
set_option maxRecDepth 100000 in
theorem tw_k163_0 : tw_chkR 163 0 28 = true := by decide +kernel
theorem tw_k163 : tw_okE 163 :=
  fun i e h => by
    have hl : i < 28 := (List.getElem?_eq_some_iff.mp h).1
    exact tw_okR tw_k163_0 i e (by omega) (by omega) h
set_option maxRecDepth 100000 in
theorem tw_k164_0 : tw_chkR 164 0 6 = true := by decide +kernel
theorem tw_k164 : tw_okE 164 :=
  fun i e h => by
    have hl : i < 6 := (List.getElem?_eq_some_iff.mp h).1
    exact tw_okR tw_k164_0 i e (by omega) (by omega) h
set_option maxRecDepth 100000 in
theorem tw_k165_0 : tw_chkR 165 0 19 = true := by decide +kernel
theorem tw_k165 : tw_okE 165 :=
  fun i e h => by
    have hl : i < 19 := (List.getElem?_eq_some_iff.mp h).1
    exact tw_okR tw_k165_0 i e (by omega) (by omega) h
set_option maxRecDepth 100000 in
theorem tw_k166_0 : tw_chkR 166 0 14 = true := by decide +kernel
theorem tw_k166 : tw_okE 166 :=
  fun i e h => by
    have hl : i < 14 := (List.getElem?_eq_some_iff.mp h).1
    exact tw_okR tw_k166_0 i e (by omega) (by omega) h
set_option maxRecDepth 100000 in
theorem tw_k167_0 : tw_chkR 167 0 9 = true := by decide +kernel
theorem tw_k167 : tw_okE 167 :=
  fun i e h => by
    have hl : i < 9 := (List.getElem?_eq_some_iff.mp h).1
    exact tw_okR tw_k167_0 i e (by omega) (by omega) h
set_option maxRecDepth 100000 in
theorem tw_k168_0 : tw_chkR 168 0 5 = true := by decide +kernel
theorem tw_k168 : tw_okE 168 :=
  fun i e h => by
    have hl : i < 5 := (List.getElem?_eq_some_iff.mp h).1
    exact tw_okR tw_k168_0 i e (by omega) (by omega) h
set_option maxRecDepth 100000 in
theorem tw_k169_0 : tw_chkR 169 0 37 = true := by decide +kernel
theorem tw_k169 : tw_okE 169 :=
  fun i e h => by
    have hl : i < 37 := (List.getElem?_eq_some_iff.mp h).1
    exact tw_okR tw_k169_0 i e (by omega) (by omega) h
set_option maxRecDepth 100000 in
theorem tw_k170_0 : tw_chkR 170 0 23 = true := by decide +kernel
theorem tw_k170 : tw_okE 170 :=
  fun i e h => by
    have hl : i < 23 := (List.getElem?_eq_some_iff.mp h).1
    exact tw_okR tw_k170_0 i e (by omega) (by omega) h
set_option maxRecDepth 100000 in
theorem tw_k171_0 : tw_chkR 171 0 30 = true := by decide +kernel
theorem tw_k171 : tw_okE 171 :=
  fun i e h => by
    have hl : i < 30 := (List.getElem?_eq_some_iff.mp h).1
    exact tw_okR tw_k171_0 i e (by omega) (by omega) h
set_option maxRecDepth 100000 in
theorem tw_k172_0 : tw_chkR 172 0 14 = true := by decide +kernel
theorem tw_k172 : tw_okE 172 :=
  fun i e h => by
    have hl : i < 14 := (List.getElem?_eq_some_iff.mp h).1
    exact tw_okR tw_k172_0 i e (by omega) (by omega) h
set_option maxRecDepth 100000 in
theorem tw_k173_0 : tw_chkR 173 0 54 = true := by decide +kernel
theorem tw_k173 : tw_okE 173 :=
  fun i e h => by
    have hl : i < 54 := (List.getElem?_eq_some_iff.mp h).1
    exact tw_okR tw_k173_0 i e (by omega) (by omega) h
set_option maxRecDepth 100000 in
theorem tw_k174_0 : tw_chkR 174 0 58 = true := by decide +kernel
theorem tw_k174 : tw_okE 174 :=
  fun i e h => by
    have hl : i < 58 := (List.getElem?_eq_some_iff.mp h).1
    exact tw_okR tw_k174_0 i e (by omega) (by omega) h
set_option maxRecDepth 100000 in
theorem tw_k175_0 : tw_chkR 175 0 13 = true := by decide +kernel
theorem tw_k175 : tw_okE 175 :=
  fun i e h => by
    have hl : i < 13 := (List.getElem?_eq_some_iff.mp h).1
    exact tw_okR tw_k175_0 i e (by omega) (by omega) h
set_option maxRecDepth 100000 in
theorem tw_k176_0 : tw_chkR 176 0 15 = true := by decide +kernel
theorem tw_k176 : tw_okE 176 :=
  fun i e h => by
    have hl : i < 15 := (List.getElem?_eq_some_iff.mp h).1
    exact tw_okR tw_k176_0 i e (by omega) (by omega) h
set_option maxRecDepth 100000 in
theorem tw_k177_0 : tw_chkR 177 0 9 = true := by decide +kernel
theorem tw_k177 : tw_okE 177 :=
  fun i e h => by
    have hl : i < 9 := (List.getElem?_eq_some_iff.mp h).1
    exact tw_okR tw_k177_0 i e (by omega) (by omega) h
set_option maxRecDepth 100000 in
theorem tw_k178_0 : tw_chkR 178 0 9 = true := by decide +kernel
theorem tw_k178 : tw_okE 178 :=
  fun i e h => by
    have hl : i < 9 := (List.getElem?_eq_some_iff.mp h).1
    exact tw_okR tw_k178_0 i e (by omega) (by omega) h
set_option maxRecDepth 100000 in
theorem tw_k179_0 : tw_chkR 179 0 10 = true := by decide +kernel
theorem tw_k179 : tw_okE 179 :=
  fun i e h => by
    have hl : i < 10 := (List.getElem?_eq_some_iff.mp h).1
    exact tw_okR tw_k179_0 i e (by omega) (by omega) h
set_option maxRecDepth 100000 in
theorem tw_k180_0 : tw_chkR 180 0 6 = true := by decide +kernel
theorem tw_k180 : tw_okE 180 :=
  fun i e h => by
    have hl : i < 6 := (List.getElem?_eq_some_iff.mp h).1
    exact tw_okR tw_k180_0 i e (by omega) (by omega) h
set_option maxRecDepth 100000 in
theorem tw_k181_0 : tw_chkR 181 0 10 = true := by decide +kernel
theorem tw_k181 : tw_okE 181 :=
  fun i e h => by
    have hl : i < 10 := (List.getElem?_eq_some_iff.mp h).1
    exact tw_okR tw_k181_0 i e (by omega) (by omega) h
set_option maxRecDepth 100000 in
theorem tw_k182_0 : tw_chkR 182 0 10 = true := by decide +kernel
theorem tw_k182 : tw_okE 182 :=
  fun i e h => by
    have hl : i < 10 := (List.getElem?_eq_some_iff.mp h).1
    exact tw_okR tw_k182_0 i e (by omega) (by omega) h
set_option maxRecDepth 100000 in
theorem tw_k183_0 : tw_chkR 183 0 60 = true := by decide +kernel
set_option maxRecDepth 100000 in
theorem tw_k183_60 : tw_chkR 183 60 60 = true := by decide +kernel
set_option maxRecDepth 100000 in
theorem tw_k183_120 : tw_chkR 183 120 12 = true := by decide +kernel
theorem tw_k183 : tw_okE 183 :=
  fun i e h => by
    have hl : i < 132 := (List.getElem?_eq_some_iff.mp h).1
    by_cases c0 : i < 60
    · exact tw_okR tw_k183_0 i e (by omega) (by omega) h
    by_cases c60 : i < 120
    · exact tw_okR tw_k183_60 i e (by omega) (by omega) h
    exact tw_okR tw_k183_120 i e (by omega) (by omega) h
set_option maxRecDepth 100000 in
theorem tw_k184_0 : tw_chkR 184 0 10 = true := by decide +kernel
theorem tw_k184 : tw_okE 184 :=
  fun i e h => by
    have hl : i < 10 := (List.getElem?_eq_some_iff.mp h).1
    exact tw_okR tw_k184_0 i e (by omega) (by omega) h
set_option maxRecDepth 100000 in
theorem tw_k185_0 : tw_chkR 185 0 10 = true := by decide +kernel
theorem tw_k185 : tw_okE 185 :=
  fun i e h => by
    have hl : i < 10 := (List.getElem?_eq_some_iff.mp h).1
    exact tw_okR tw_k185_0 i e (by omega) (by omega) h
set_option maxRecDepth 100000 in
theorem tw_k186_0 : tw_chkR 186 0 5 = true := by decide +kernel
theorem tw_k186 : tw_okE 186 :=
  fun i e h => by
    have hl : i < 5 := (List.getElem?_eq_some_iff.mp h).1
    exact tw_okR tw_k186_0 i e (by omega) (by omega) h
set_option maxRecDepth 100000 in
theorem tw_k187_0 : tw_chkR 187 0 28 = true := by decide +kernel
theorem tw_k187 : tw_okE 187 :=
  fun i e h => by
    have hl : i < 28 := (List.getElem?_eq_some_iff.mp h).1
    exact tw_okR tw_k187_0 i e (by omega) (by omega) h
set_option maxRecDepth 100000 in
theorem tw_k188_0 : tw_chkR 188 0 8 = true := by decide +kernel
theorem tw_k188 : tw_okE 188 :=
  fun i e h => by
    have hl : i < 8 := (List.getElem?_eq_some_iff.mp h).1
    exact tw_okR tw_k188_0 i e (by omega) (by omega) h
set_option maxRecDepth 100000 in
theorem tw_k189_0 : tw_chkR 189 0 13 = true := by decide +kernel
theorem tw_k189 : tw_okE 189 :=
  fun i e h => by
    have hl : i < 13 := (List.getElem?_eq_some_iff.mp h).1
    exact tw_okR tw_k189_0 i e (by omega) (by omega) h
set_option maxRecDepth 100000 in
theorem tw_k190_0 : tw_chkR 190 0 7 = true := by decide +kernel
theorem tw_k190 : tw_okE 190 :=
  fun i e h => by
    have hl : i < 7 := (List.getElem?_eq_some_iff.mp h).1
    exact tw_okR tw_k190_0 i e (by omega) (by omega) h
set_option maxRecDepth 100000 in
theorem tw_k191_0 : tw_chkR 191 0 20 = true := by decide +kernel
theorem tw_k191 : tw_okE 191 :=
  fun i e h => by
    have hl : i < 20 := (List.getElem?_eq_some_iff.mp h).1
    exact tw_okR tw_k191_0 i e (by omega) (by omega) h
set_option maxRecDepth 100000 in
theorem tw_k192_0 : tw_chkR 192 0 45 = true := by decide +kernel
theorem tw_k192 : tw_okE 192 :=
  fun i e h => by
    have hl : i < 45 := (List.getElem?_eq_some_iff.mp h).1
    exact tw_okR tw_k192_0 i e (by omega) (by omega) h
set_option maxRecDepth 100000 in
theorem tw_k193_0 : tw_chkR 193 0 60 = true := by decide +kernel
set_option maxRecDepth 100000 in
theorem tw_k193_60 : tw_chkR 193 60 60 = true := by decide +kernel
set_option maxRecDepth 100000 in
theorem tw_k193_120 : tw_chkR 193 120 50 = true := by decide +kernel
theorem tw_k193 : tw_okE 193 :=
  fun i e h => by
    have hl : i < 170 := (List.getElem?_eq_some_iff.mp h).1
    by_cases c0 : i < 60
    · exact tw_okR tw_k193_0 i e (by omega) (by omega) h
    by_cases c60 : i < 120
    · exact tw_okR tw_k193_60 i e (by omega) (by omega) h
    exact tw_okR tw_k193_120 i e (by omega) (by omega) h
set_option maxRecDepth 100000 in
theorem tw_k194_0 : tw_chkR 194 0 60 = true := by decide +kernel
set_option maxRecDepth 100000 in
theorem tw_k194_60 : tw_chkR 194 60 24 = true := by decide +kernel
theorem tw_k194 : tw_okE 194 :=
  fun i e h => by
    have hl : i < 84 := (List.getElem?_eq_some_iff.mp h).1
    by_cases c0 : i < 60
    · exact tw_okR tw_k194_0 i e (by omega) (by omega) h
    exact tw_okR tw_k194_60 i e (by omega) (by omega) h
set_option maxRecDepth 100000 in
theorem tw_k195_0 : tw_chkR 195 0 60 = true := by decide +kernel
set_option maxRecDepth 100000 in
theorem tw_k195_60 : tw_chkR 195 60 60 = true := by decide +kernel
set_option maxRecDepth 100000 in
theorem tw_k195_120 : tw_chkR 195 120 34 = true := by decide +kernel
theorem tw_k195 : tw_okE 195 :=
  fun i e h => by
    have hl : i < 154 := (List.getElem?_eq_some_iff.mp h).1
    by_cases c0 : i < 60
    · exact tw_okR tw_k195_0 i e (by omega) (by omega) h
    by_cases c60 : i < 120
    · exact tw_okR tw_k195_60 i e (by omega) (by omega) h
    exact tw_okR tw_k195_120 i e (by omega) (by omega) h
set_option maxRecDepth 100000 in
theorem tw_k196_0 : tw_chkR 196 0 60 = true := by decide +kernel
set_option maxRecDepth 100000 in
theorem tw_k196_60 : tw_chkR 196 60 14 = true := by decide +kernel
theorem tw_k196 : tw_okE 196 :=
  fun i e h => by
    have hl : i < 74 := (List.getElem?_eq_some_iff.mp h).1
    by_cases c0 : i < 60
    · exact tw_okR tw_k196_0 i e (by omega) (by omega) h
    exact tw_okR tw_k196_60 i e (by omega) (by omega) h
set_option maxRecDepth 100000 in
theorem tw_k197_0 : tw_chkR 197 0 60 = true := by decide +kernel
set_option maxRecDepth 100000 in
theorem tw_k197_60 : tw_chkR 197 60 55 = true := by decide +kernel
theorem tw_k197 : tw_okE 197 :=
  fun i e h => by
    have hl : i < 115 := (List.getElem?_eq_some_iff.mp h).1
    by_cases c0 : i < 60
    · exact tw_okR tw_k197_0 i e (by omega) (by omega) h
    exact tw_okR tw_k197_60 i e (by omega) (by omega) h
set_option maxRecDepth 100000 in
theorem tw_k198_0 : tw_chkR 198 0 35 = true := by decide +kernel
theorem tw_k198 : tw_okE 198 :=
  fun i e h => by
    have hl : i < 35 := (List.getElem?_eq_some_iff.mp h).1
    exact tw_okR tw_k198_0 i e (by omega) (by omega) h
set_option maxRecDepth 100000 in
theorem tw_k199_0 : tw_chkR 199 0 52 = true := by decide +kernel
theorem tw_k199 : tw_okE 199 :=
  fun i e h => by
    have hl : i < 52 := (List.getElem?_eq_some_iff.mp h).1
    exact tw_okR tw_k199_0 i e (by omega) (by omega) h
set_option maxRecDepth 100000 in
theorem tw_k200_0 : tw_chkR 200 0 21 = true := by decide +kernel
theorem tw_k200 : tw_okE 200 :=
  fun i e h => by
    have hl : i < 21 := (List.getElem?_eq_some_iff.mp h).1
    exact tw_okR tw_k200_0 i e (by omega) (by omega) h
set_option maxRecDepth 100000 in
theorem tw_k201_0 : tw_chkR 201 0 25 = true := by decide +kernel
theorem tw_k201 : tw_okE 201 :=
  fun i e h => by
    have hl : i < 25 := (List.getElem?_eq_some_iff.mp h).1
    exact tw_okR tw_k201_0 i e (by omega) (by omega) h
set_option maxRecDepth 100000 in
theorem tw_k202_0 : tw_chkR 202 0 36 = true := by decide +kernel
theorem tw_k202 : tw_okE 202 :=
  fun i e h => by
    have hl : i < 36 := (List.getElem?_eq_some_iff.mp h).1
    exact tw_okR tw_k202_0 i e (by omega) (by omega) h
set_option maxRecDepth 100000 in
theorem tw_k203_0 : tw_chkR 203 0 17 = true := by decide +kernel
theorem tw_k203 : tw_okE 203 :=
  fun i e h => by
    have hl : i < 17 := (List.getElem?_eq_some_iff.mp h).1
    exact tw_okR tw_k203_0 i e (by omega) (by omega) h
set_option maxRecDepth 100000 in
theorem tw_k204_0 : tw_chkR 204 0 17 = true := by decide +kernel
theorem tw_k204 : tw_okE 204 :=
  fun i e h => by
    have hl : i < 17 := (List.getElem?_eq_some_iff.mp h).1
    exact tw_okR tw_k204_0 i e (by omega) (by omega) h
set_option maxRecDepth 100000 in
theorem tw_k205_0 : tw_chkR 205 0 28 = true := by decide +kernel
theorem tw_k205 : tw_okE 205 :=
  fun i e h => by
    have hl : i < 28 := (List.getElem?_eq_some_iff.mp h).1
    exact tw_okR tw_k205_0 i e (by omega) (by omega) h
set_option maxRecDepth 100000 in
theorem tw_k206_0 : tw_chkR 206 0 60 = true := by decide +kernel
set_option maxRecDepth 100000 in
theorem tw_k206_60 : tw_chkR 206 60 60 = true := by decide +kernel
set_option maxRecDepth 100000 in
theorem tw_k206_120 : tw_chkR 206 120 17 = true := by decide +kernel
theorem tw_k206 : tw_okE 206 :=
  fun i e h => by
    have hl : i < 137 := (List.getElem?_eq_some_iff.mp h).1
    by_cases c0 : i < 60
    · exact tw_okR tw_k206_0 i e (by omega) (by omega) h
    by_cases c60 : i < 120
    · exact tw_okR tw_k206_60 i e (by omega) (by omega) h
    exact tw_okR tw_k206_120 i e (by omega) (by omega) h
set_option maxRecDepth 100000 in
theorem tw_k207_0 : tw_chkR 207 0 20 = true := by decide +kernel
theorem tw_k207 : tw_okE 207 :=
  fun i e h => by
    have hl : i < 20 := (List.getElem?_eq_some_iff.mp h).1
    exact tw_okR tw_k207_0 i e (by omega) (by omega) h
set_option maxRecDepth 100000 in
theorem tw_k208_0 : tw_chkR 208 0 27 = true := by decide +kernel
theorem tw_k208 : tw_okE 208 :=
  fun i e h => by
    have hl : i < 27 := (List.getElem?_eq_some_iff.mp h).1
    exact tw_okR tw_k208_0 i e (by omega) (by omega) h
set_option maxRecDepth 100000 in
theorem tw_k209_0 : tw_chkR 209 0 20 = true := by decide +kernel
theorem tw_k209 : tw_okE 209 :=
  fun i e h => by
    have hl : i < 20 := (List.getElem?_eq_some_iff.mp h).1
    exact tw_okR tw_k209_0 i e (by omega) (by omega) h
set_option maxRecDepth 100000 in
theorem tw_k210_0 : tw_chkR 210 0 31 = true := by decide +kernel
theorem tw_k210 : tw_okE 210 :=
  fun i e h => by
    have hl : i < 31 := (List.getElem?_eq_some_iff.mp h).1
    exact tw_okR tw_k210_0 i e (by omega) (by omega) h
set_option maxRecDepth 100000 in
theorem tw_k211_0 : tw_chkR 211 0 20 = true := by decide +kernel
theorem tw_k211 : tw_okE 211 :=
  fun i e h => by
    have hl : i < 20 := (List.getElem?_eq_some_iff.mp h).1
    exact tw_okR tw_k211_0 i e (by omega) (by omega) h
set_option maxRecDepth 100000 in
theorem tw_k212_0 : tw_chkR 212 0 34 = true := by decide +kernel
theorem tw_k212 : tw_okE 212 :=
  fun i e h => by
    have hl : i < 34 := (List.getElem?_eq_some_iff.mp h).1
    exact tw_okR tw_k212_0 i e (by omega) (by omega) h
set_option maxRecDepth 100000 in
theorem tw_k213_0 : tw_chkR 213 0 60 = true := by decide +kernel
set_option maxRecDepth 100000 in
theorem tw_k213_60 : tw_chkR 213 60 15 = true := by decide +kernel
theorem tw_k213 : tw_okE 213 :=
  fun i e h => by
    have hl : i < 75 := (List.getElem?_eq_some_iff.mp h).1
    by_cases c0 : i < 60
    · exact tw_okR tw_k213_0 i e (by omega) (by omega) h
    exact tw_okR tw_k213_60 i e (by omega) (by omega) h
set_option maxRecDepth 100000 in
theorem tw_k214_0 : tw_chkR 214 0 18 = true := by decide +kernel
theorem tw_k214 : tw_okE 214 :=
  fun i e h => by
    have hl : i < 18 := (List.getElem?_eq_some_iff.mp h).1
    exact tw_okR tw_k214_0 i e (by omega) (by omega) h
set_option maxRecDepth 100000 in
theorem tw_k215_0 : tw_chkR 215 0 7 = true := by decide +kernel
theorem tw_k215 : tw_okE 215 :=
  fun i e h => by
    have hl : i < 7 := (List.getElem?_eq_some_iff.mp h).1
    exact tw_okR tw_k215_0 i e (by omega) (by omega) h
set_option maxRecDepth 100000 in
theorem tw_k216_0 : tw_chkR 216 0 7 = true := by decide +kernel
theorem tw_k216 : tw_okE 216 :=
  fun i e h => by
    have hl : i < 7 := (List.getElem?_eq_some_iff.mp h).1
    exact tw_okR tw_k216_0 i e (by omega) (by omega) h
set_option maxRecDepth 100000 in
theorem tw_k217_0 : tw_chkR 217 0 7 = true := by decide +kernel
theorem tw_k217 : tw_okE 217 :=
  fun i e h => by
    have hl : i < 7 := (List.getElem?_eq_some_iff.mp h).1
    exact tw_okR tw_k217_0 i e (by omega) (by omega) h
set_option maxRecDepth 100000 in
theorem tw_k218_0 : tw_chkR 218 0 7 = true := by decide +kernel
theorem tw_k218 : tw_okE 218 :=
  fun i e h => by
    have hl : i < 7 := (List.getElem?_eq_some_iff.mp h).1
    exact tw_okR tw_k218_0 i e (by omega) (by omega) h
set_option maxRecDepth 100000 in
theorem tw_k219_0 : tw_chkR 219 0 27 = true := by decide +kernel
theorem tw_k219 : tw_okE 219 :=
  fun i e h => by
    have hl : i < 27 := (List.getElem?_eq_some_iff.mp h).1
    exact tw_okR tw_k219_0 i e (by omega) (by omega) h
set_option maxRecDepth 100000 in
theorem tw_k220_0 : tw_chkR 220 0 60 = true := by decide +kernel
set_option maxRecDepth 100000 in
theorem tw_k220_60 : tw_chkR 220 60 16 = true := by decide +kernel
theorem tw_k220 : tw_okE 220 :=
  fun i e h => by
    have hl : i < 76 := (List.getElem?_eq_some_iff.mp h).1
    by_cases c0 : i < 60
    · exact tw_okR tw_k220_0 i e (by omega) (by omega) h
    exact tw_okR tw_k220_60 i e (by omega) (by omega) h
set_option maxRecDepth 100000 in
theorem tw_k221_0 : tw_chkR 221 0 23 = true := by decide +kernel
theorem tw_k221 : tw_okE 221 :=
  fun i e h => by
    have hl : i < 23 := (List.getElem?_eq_some_iff.mp h).1
    exact tw_okR tw_k221_0 i e (by omega) (by omega) h
set_option maxRecDepth 100000 in
theorem tw_k222_0 : tw_chkR 222 0 19 = true := by decide +kernel
theorem tw_k222 : tw_okE 222 :=
  fun i e h => by
    have hl : i < 19 := (List.getElem?_eq_some_iff.mp h).1
    exact tw_okR tw_k222_0 i e (by omega) (by omega) h
set_option maxRecDepth 100000 in
theorem tw_k223_0 : tw_chkR 223 0 29 = true := by decide +kernel
theorem tw_k223 : tw_okE 223 :=
  fun i e h => by
    have hl : i < 29 := (List.getElem?_eq_some_iff.mp h).1
    exact tw_okR tw_k223_0 i e (by omega) (by omega) h
set_option maxRecDepth 100000 in
theorem tw_k224_0 : tw_chkR 224 0 31 = true := by decide +kernel
theorem tw_k224 : tw_okE 224 :=
  fun i e h => by
    have hl : i < 31 := (List.getElem?_eq_some_iff.mp h).1
    exact tw_okR tw_k224_0 i e (by omega) (by omega) h
set_option maxRecDepth 100000 in
theorem tw_k225_0 : tw_chkR 225 0 24 = true := by decide +kernel
theorem tw_k225 : tw_okE 225 :=
  fun i e h => by
    have hl : i < 24 := (List.getElem?_eq_some_iff.mp h).1
    exact tw_okR tw_k225_0 i e (by omega) (by omega) h
set_option maxRecDepth 100000 in
theorem tw_k226_0 : tw_chkR 226 0 23 = true := by decide +kernel
theorem tw_k226 : tw_okE 226 :=
  fun i e h => by
    have hl : i < 23 := (List.getElem?_eq_some_iff.mp h).1
    exact tw_okR tw_k226_0 i e (by omega) (by omega) h
set_option maxRecDepth 100000 in
theorem tw_k227_0 : tw_chkR 227 0 60 = true := by decide +kernel
set_option maxRecDepth 100000 in
theorem tw_k227_60 : tw_chkR 227 60 20 = true := by decide +kernel
theorem tw_k227 : tw_okE 227 :=
  fun i e h => by
    have hl : i < 80 := (List.getElem?_eq_some_iff.mp h).1
    by_cases c0 : i < 60
    · exact tw_okR tw_k227_0 i e (by omega) (by omega) h
    exact tw_okR tw_k227_60 i e (by omega) (by omega) h
set_option maxRecDepth 100000 in
theorem tw_k228_0 : tw_chkR 228 0 40 = true := by decide +kernel
theorem tw_k228 : tw_okE 228 :=
  fun i e h => by
    have hl : i < 40 := (List.getElem?_eq_some_iff.mp h).1
    exact tw_okR tw_k228_0 i e (by omega) (by omega) h
set_option maxRecDepth 100000 in
theorem tw_k229_0 : tw_chkR 229 0 29 = true := by decide +kernel
theorem tw_k229 : tw_okE 229 :=
  fun i e h => by
    have hl : i < 29 := (List.getElem?_eq_some_iff.mp h).1
    exact tw_okR tw_k229_0 i e (by omega) (by omega) h
set_option maxRecDepth 100000 in
theorem tw_k230_0 : tw_chkR 230 0 60 = true := by decide +kernel
set_option maxRecDepth 100000 in
theorem tw_k230_60 : tw_chkR 230 60 46 = true := by decide +kernel
theorem tw_k230 : tw_okE 230 :=
  fun i e h => by
    have hl : i < 106 := (List.getElem?_eq_some_iff.mp h).1
    by_cases c0 : i < 60
    · exact tw_okR tw_k230_0 i e (by omega) (by omega) h
    exact tw_okR tw_k230_60 i e (by omega) (by omega) h
set_option maxRecDepth 100000 in
theorem tw_k231_0 : tw_chkR 231 0 57 = true := by decide +kernel
theorem tw_k231 : tw_okE 231 :=
  fun i e h => by
    have hl : i < 57 := (List.getElem?_eq_some_iff.mp h).1
    exact tw_okR tw_k231_0 i e (by omega) (by omega) h
set_option maxRecDepth 100000 in
theorem tw_k232_0 : tw_chkR 232 0 39 = true := by decide +kernel
theorem tw_k232 : tw_okE 232 :=
  fun i e h => by
    have hl : i < 39 := (List.getElem?_eq_some_iff.mp h).1
    exact tw_okR tw_k232_0 i e (by omega) (by omega) h
set_option maxRecDepth 100000 in
theorem tw_k233_0 : tw_chkR 233 0 19 = true := by decide +kernel
theorem tw_k233 : tw_okE 233 :=
  fun i e h => by
    have hl : i < 19 := (List.getElem?_eq_some_iff.mp h).1
    exact tw_okR tw_k233_0 i e (by omega) (by omega) h
set_option maxRecDepth 100000 in
theorem tw_k234_0 : tw_chkR 234 0 47 = true := by decide +kernel
theorem tw_k234 : tw_okE 234 :=
  fun i e h => by
    have hl : i < 47 := (List.getElem?_eq_some_iff.mp h).1
    exact tw_okR tw_k234_0 i e (by omega) (by omega) h
set_option maxRecDepth 100000 in
theorem tw_k235_0 : tw_chkR 235 0 60 = true := by decide +kernel
set_option maxRecDepth 100000 in
theorem tw_k235_60 : tw_chkR 235 60 42 = true := by decide +kernel
theorem tw_k235 : tw_okE 235 :=
  fun i e h => by
    have hl : i < 102 := (List.getElem?_eq_some_iff.mp h).1
    by_cases c0 : i < 60
    · exact tw_okR tw_k235_0 i e (by omega) (by omega) h
    exact tw_okR tw_k235_60 i e (by omega) (by omega) h
set_option maxRecDepth 100000 in
theorem tw_k236_0 : tw_chkR 236 0 56 = true := by decide +kernel
theorem tw_k236 : tw_okE 236 :=
  fun i e h => by
    have hl : i < 56 := (List.getElem?_eq_some_iff.mp h).1
    exact tw_okR tw_k236_0 i e (by omega) (by omega) h
set_option maxRecDepth 100000 in
theorem tw_k237_0 : tw_chkR 237 0 32 = true := by decide +kernel
theorem tw_k237 : tw_okE 237 :=
  fun i e h => by
    have hl : i < 32 := (List.getElem?_eq_some_iff.mp h).1
    exact tw_okR tw_k237_0 i e (by omega) (by omega) h
set_option maxRecDepth 100000 in
theorem tw_k238_0 : tw_chkR 238 0 47 = true := by decide +kernel
theorem tw_k238 : tw_okE 238 :=
  fun i e h => by
    have hl : i < 47 := (List.getElem?_eq_some_iff.mp h).1
    exact tw_okR tw_k238_0 i e (by omega) (by omega) h
set_option maxRecDepth 100000 in
theorem tw_k239_0 : tw_chkR 239 0 59 = true := by decide +kernel
theorem tw_k239 : tw_okE 239 :=
  fun i e h => by
    have hl : i < 59 := (List.getElem?_eq_some_iff.mp h).1
    exact tw_okR tw_k239_0 i e (by omega) (by omega) h
set_option maxRecDepth 100000 in
theorem tw_k240_0 : tw_chkR 240 0 51 = true := by decide +kernel
theorem tw_k240 : tw_okE 240 :=
  fun i e h => by
    have hl : i < 51 := (List.getElem?_eq_some_iff.mp h).1
    exact tw_okR tw_k240_0 i e (by omega) (by omega) h
set_option maxRecDepth 100000 in
theorem tw_k241_0 : tw_chkR 241 0 34 = true := by decide +kernel
theorem tw_k241 : tw_okE 241 :=
  fun i e h => by
    have hl : i < 34 := (List.getElem?_eq_some_iff.mp h).1
    exact tw_okR tw_k241_0 i e (by omega) (by omega) h
set_option maxRecDepth 100000 in
theorem tw_k242_0 : tw_chkR 242 0 50 = true := by decide +kernel
theorem tw_k242 : tw_okE 242 :=
  fun i e h => by
    have hl : i < 50 := (List.getElem?_eq_some_iff.mp h).1
    exact tw_okR tw_k242_0 i e (by omega) (by omega) h
set_option maxRecDepth 100000 in
theorem tw_k243_0 : tw_chkR 243 0 51 = true := by decide +kernel
theorem tw_k243 : tw_okE 243 :=
  fun i e h => by
    have hl : i < 51 := (List.getElem?_eq_some_iff.mp h).1
    exact tw_okR tw_k243_0 i e (by omega) (by omega) h
set_option maxRecDepth 100000 in
theorem tw_k244_0 : tw_chkR 244 0 32 = true := by decide +kernel
theorem tw_k244 : tw_okE 244 :=
  fun i e h => by
    have hl : i < 32 := (List.getElem?_eq_some_iff.mp h).1
    exact tw_okR tw_k244_0 i e (by omega) (by omega) h
set_option maxRecDepth 100000 in
theorem tw_k245_0 : tw_chkR 245 0 15 = true := by decide +kernel
theorem tw_k245 : tw_okE 245 :=
  fun i e h => by
    have hl : i < 15 := (List.getElem?_eq_some_iff.mp h).1
    exact tw_okR tw_k245_0 i e (by omega) (by omega) h
set_option maxRecDepth 100000 in
theorem tw_k246_0 : tw_chkR 246 0 38 = true := by decide +kernel
theorem tw_k246 : tw_okE 246 :=
  fun i e h => by
    have hl : i < 38 := (List.getElem?_eq_some_iff.mp h).1
    exact tw_okR tw_k246_0 i e (by omega) (by omega) h
set_option maxRecDepth 100000 in
theorem tw_k247_0 : tw_chkR 247 0 60 = true := by decide +kernel
set_option maxRecDepth 100000 in
theorem tw_k247_60 : tw_chkR 247 60 15 = true := by decide +kernel
theorem tw_k247 : tw_okE 247 :=
  fun i e h => by
    have hl : i < 75 := (List.getElem?_eq_some_iff.mp h).1
    by_cases c0 : i < 60
    · exact tw_okR tw_k247_0 i e (by omega) (by omega) h
    exact tw_okR tw_k247_60 i e (by omega) (by omega) h
set_option maxRecDepth 100000 in
theorem tw_k248_0 : tw_chkR 248 0 15 = true := by decide +kernel
theorem tw_k248 : tw_okE 248 :=
  fun i e h => by
    have hl : i < 15 := (List.getElem?_eq_some_iff.mp h).1
    exact tw_okR tw_k248_0 i e (by omega) (by omega) h
set_option maxRecDepth 100000 in
theorem tw_k249_0 : tw_chkR 249 0 60 = true := by decide +kernel
set_option maxRecDepth 100000 in
theorem tw_k249_60 : tw_chkR 249 60 3 = true := by decide +kernel
theorem tw_k249 : tw_okE 249 :=
  fun i e h => by
    have hl : i < 63 := (List.getElem?_eq_some_iff.mp h).1
    by_cases c0 : i < 60
    · exact tw_okR tw_k249_0 i e (by omega) (by omega) h
    exact tw_okR tw_k249_60 i e (by omega) (by omega) h
set_option maxRecDepth 100000 in
theorem tw_k250_0 : tw_chkR 250 0 5 = true := by decide +kernel
theorem tw_k250 : tw_okE 250 :=
  fun i e h => by
    have hl : i < 5 := (List.getElem?_eq_some_iff.mp h).1
    exact tw_okR tw_k250_0 i e (by omega) (by omega) h
set_option maxRecDepth 100000 in
theorem tw_k251_0 : tw_chkR 251 0 42 = true := by decide +kernel
theorem tw_k251 : tw_okE 251 :=
  fun i e h => by
    have hl : i < 42 := (List.getElem?_eq_some_iff.mp h).1
    exact tw_okR tw_k251_0 i e (by omega) (by omega) h
set_option maxRecDepth 100000 in
theorem tw_k252_0 : tw_chkR 252 0 35 = true := by decide +kernel
theorem tw_k252 : tw_okE 252 :=
  fun i e h => by
    have hl : i < 35 := (List.getElem?_eq_some_iff.mp h).1
    exact tw_okR tw_k252_0 i e (by omega) (by omega) h
set_option maxRecDepth 100000 in
theorem tw_k253_0 : tw_chkR 253 0 29 = true := by decide +kernel
theorem tw_k253 : tw_okE 253 :=
  fun i e h => by
    have hl : i < 29 := (List.getElem?_eq_some_iff.mp h).1
    exact tw_okR tw_k253_0 i e (by omega) (by omega) h
set_option maxRecDepth 100000 in
theorem tw_k254_0 : tw_chkR 254 0 60 = true := by decide +kernel
set_option maxRecDepth 100000 in
theorem tw_k254_60 : tw_chkR 254 60 1 = true := by decide +kernel
theorem tw_k254 : tw_okE 254 :=
  fun i e h => by
    have hl : i < 61 := (List.getElem?_eq_some_iff.mp h).1
    by_cases c0 : i < 60
    · exact tw_okR tw_k254_0 i e (by omega) (by omega) h
    exact tw_okR tw_k254_60 i e (by omega) (by omega) h
set_option maxRecDepth 100000 in
theorem tw_k255_0 : tw_chkR 255 0 60 = true := by decide +kernel
set_option maxRecDepth 100000 in
theorem tw_k255_60 : tw_chkR 255 60 3 = true := by decide +kernel
theorem tw_k255 : tw_okE 255 :=
  fun i e h => by
    have hl : i < 63 := (List.getElem?_eq_some_iff.mp h).1
    by_cases c0 : i < 60
    · exact tw_okR tw_k255_0 i e (by omega) (by omega) h
    exact tw_okR tw_k255_60 i e (by omega) (by omega) h
set_option maxRecDepth 100000 in
theorem tw_k256_0 : tw_chkR 256 0 32 = true := by decide +kernel
theorem tw_k256 : tw_okE 256 :=
  fun i e h => by
    have hl : i < 32 := (List.getElem?_eq_some_iff.mp h).1
    exact tw_okR tw_k256_0 i e (by omega) (by omega) h
set_option maxRecDepth 100000 in
theorem tw_k257_0 : tw_chkR 257 0 57 = true := by decide +kernel
theorem tw_k257 : tw_okE 257 :=
  fun i e h => by
    have hl : i < 57 := (List.getElem?_eq_some_iff.mp h).1
    exact tw_okR tw_k257_0 i e (by omega) (by omega) h
set_option maxRecDepth 100000 in
theorem tw_k258_0 : tw_chkR 258 0 11 = true := by decide +kernel
theorem tw_k258 : tw_okE 258 :=
  fun i e h => by
    have hl : i < 11 := (List.getElem?_eq_some_iff.mp h).1
    exact tw_okR tw_k258_0 i e (by omega) (by omega) h
set_option maxRecDepth 100000 in
theorem tw_k259_0 : tw_chkR 259 0 13 = true := by decide +kernel
theorem tw_k259 : tw_okE 259 :=
  fun i e h => by
    have hl : i < 13 := (List.getElem?_eq_some_iff.mp h).1
    exact tw_okR tw_k259_0 i e (by omega) (by omega) h
set_option maxRecDepth 100000 in
theorem tw_k260_0 : tw_chkR 260 0 16 = true := by decide +kernel
theorem tw_k260 : tw_okE 260 :=
  fun i e h => by
    have hl : i < 16 := (List.getElem?_eq_some_iff.mp h).1
    exact tw_okR tw_k260_0 i e (by omega) (by omega) h
set_option maxRecDepth 100000 in
theorem tw_k261_0 : tw_chkR 261 0 7 = true := by decide +kernel
theorem tw_k261 : tw_okE 261 :=
  fun i e h => by
    have hl : i < 7 := (List.getElem?_eq_some_iff.mp h).1
    exact tw_okR tw_k261_0 i e (by omega) (by omega) h
set_option maxRecDepth 100000 in
theorem tw_k262_0 : tw_chkR 262 0 7 = true := by decide +kernel
theorem tw_k262 : tw_okE 262 :=
  fun i e h => by
    have hl : i < 7 := (List.getElem?_eq_some_iff.mp h).1
    exact tw_okR tw_k262_0 i e (by omega) (by omega) h
set_option maxRecDepth 100000 in
theorem tw_k263_0 : tw_chkR 263 0 7 = true := by decide +kernel
theorem tw_k263 : tw_okE 263 :=
  fun i e h => by
    have hl : i < 7 := (List.getElem?_eq_some_iff.mp h).1
    exact tw_okR tw_k263_0 i e (by omega) (by omega) h
