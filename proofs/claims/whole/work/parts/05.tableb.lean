/-! the table is what the code says (laid by program) -/
set_option maxRecDepth 100000 in
theorem tw_k264_0 : tw_chkR 264 0 30 = true := by decide +kernel
set_option maxRecDepth 100000 in
theorem tw_k264_30 : tw_chkR 264 30 30 = true := by decide +kernel
set_option maxRecDepth 100000 in
theorem tw_k264_60 : tw_chkR 264 60 30 = true := by decide +kernel
set_option maxRecDepth 100000 in
theorem tw_k264_90 : tw_chkR 264 90 30 = true := by decide +kernel
set_option maxRecDepth 100000 in
theorem tw_k264_120 : tw_chkR 264 120 30 = true := by decide +kernel
set_option maxRecDepth 100000 in
theorem tw_k264_150 : tw_chkR 264 150 30 = true := by decide +kernel
set_option maxRecDepth 100000 in
theorem tw_k264_180 : tw_chkR 264 180 30 = true := by decide +kernel
set_option maxRecDepth 100000 in
theorem tw_k264_210 : tw_chkR 264 210 30 = true := by decide +kernel
set_option maxRecDepth 100000 in
theorem tw_k264_240 : tw_chkR 264 240 30 = true := by decide +kernel
set_option maxRecDepth 100000 in
theorem tw_k264_270 : tw_chkR 264 270 30 = true := by decide +kernel
set_option maxRecDepth 100000 in
theorem tw_k264_300 : tw_chkR 264 300 30 = true := by decide +kernel
set_option maxRecDepth 100000 in
theorem tw_k264_330 : tw_chkR 264 330 30 = true := by decide +kernel
set_option maxRecDepth 100000 in
theorem tw_k264_360 : tw_chkR 264 360 30 = true := by decide +kernel
set_option maxRecDepth 100000 in
theorem tw_k264_390 : tw_chkR 264 390 30 = true := by decide +kernel
set_option maxRecDepth 100000 in
theorem tw_k264_420 : tw_chkR 264 420 30 = true := by decide +kernel
set_option maxRecDepth 100000 in
theorem tw_k264_450 : tw_chkR 264 450 30 = true := by decide +kernel
set_option maxRecDepth 100000 in
theorem tw_k264_480 : tw_chkR 264 480 30 = true := by decide +kernel
set_option maxRecDepth 100000 in
theorem tw_k264_510 : tw_chkR 264 510 30 = true := by decide +kernel
set_option maxRecDepth 100000 in
theorem tw_k264_540 : tw_chkR 264 540 30 = true := by decide +kernel
set_option maxRecDepth 100000 in
theorem tw_k264_570 : tw_chkR 264 570 30 = true := by decide +kernel
set_option maxRecDepth 100000 in
theorem tw_k264_600 : tw_chkR 264 600 30 = true := by decide +kernel
set_option maxRecDepth 100000 in
theorem tw_k264_630 : tw_chkR 264 630 30 = true := by decide +kernel
set_option maxRecDepth 100000 in
theorem tw_k264_660 : tw_chkR 264 660 30 = true := by decide +kernel
set_option maxRecDepth 100000 in
theorem tw_k264_690 : tw_chkR 264 690 30 = true := by decide +kernel
set_option maxRecDepth 100000 in
theorem tw_k264_720 : tw_chkR 264 720 30 = true := by decide +kernel
set_option maxRecDepth 100000 in
theorem tw_k264_750 : tw_chkR 264 750 30 = true := by decide +kernel
set_option maxRecDepth 100000 in
theorem tw_k264_780 : tw_chkR 264 780 30 = true := by decide +kernel
set_option maxRecDepth 100000 in
theorem tw_k264_810 : tw_chkR 264 810 30 = true := by decide +kernel
set_option maxRecDepth 100000 in
theorem tw_k264_840 : tw_chkR 264 840 30 = true := by decide +kernel
set_option maxRecDepth 100000 in
theorem tw_k264_870 : tw_chkR 264 870 7 = true := by decide +kernel
set_option maxRecDepth 100000 in
theorem tw_k264 : tw_okE 264 :=
  fun i e h => by
    have hl : i < 877 := (List.getElem?_eq_some_iff.mp h).1
    by_cases c0 : i < 30
    · exact tw_okR tw_k264_0 i e (by omega) (by omega) h
    by_cases c30 : i < 60
    · exact tw_okR tw_k264_30 i e (by omega) (by omega) h
    by_cases c60 : i < 90
    · exact tw_okR tw_k264_60 i e (by omega) (by omega) h
    by_cases c90 : i < 120
    · exact tw_okR tw_k264_90 i e (by omega) (by omega) h
    by_cases c120 : i < 150
    · exact tw_okR tw_k264_120 i e (by omega) (by omega) h
    by_cases c150 : i < 180
    · exact tw_okR tw_k264_150 i e (by omega) (by omega) h
    by_cases c180 : i < 210
    · exact tw_okR tw_k264_180 i e (by omega) (by omega) h
    by_cases c210 : i < 240
    · exact tw_okR tw_k264_210 i e (by omega) (by omega) h
    by_cases c240 : i < 270
    · exact tw_okR tw_k264_240 i e (by omega) (by omega) h
    by_cases c270 : i < 300
    · exact tw_okR tw_k264_270 i e (by omega) (by omega) h
    by_cases c300 : i < 330
    · exact tw_okR tw_k264_300 i e (by omega) (by omega) h
    by_cases c330 : i < 360
    · exact tw_okR tw_k264_330 i e (by omega) (by omega) h
    by_cases c360 : i < 390
    · exact tw_okR tw_k264_360 i e (by omega) (by omega) h
    by_cases c390 : i < 420
    · exact tw_okR tw_k264_390 i e (by omega) (by omega) h
    by_cases c420 : i < 450
    · exact tw_okR tw_k264_420 i e (by omega) (by omega) h
    by_cases c450 : i < 480
    · exact tw_okR tw_k264_450 i e (by omega) (by omega) h
    by_cases c480 : i < 510
    · exact tw_okR tw_k264_480 i e (by omega) (by omega) h
    by_cases c510 : i < 540
    · exact tw_okR tw_k264_510 i e (by omega) (by omega) h
    by_cases c540 : i < 570
    · exact tw_okR tw_k264_540 i e (by omega) (by omega) h
    by_cases c570 : i < 600
    · exact tw_okR tw_k264_570 i e (by omega) (by omega) h
    by_cases c600 : i < 630
    · exact tw_okR tw_k264_600 i e (by omega) (by omega) h
    by_cases c630 : i < 660
    · exact tw_okR tw_k264_630 i e (by omega) (by omega) h
    by_cases c660 : i < 690
    · exact tw_okR tw_k264_660 i e (by omega) (by omega) h
    by_cases c690 : i < 720
    · exact tw_okR tw_k264_690 i e (by omega) (by omega) h
    by_cases c720 : i < 750
    · exact tw_okR tw_k264_720 i e (by omega) (by omega) h
    by_cases c750 : i < 780
    · exact tw_okR tw_k264_750 i e (by omega) (by omega) h
    by_cases c780 : i < 810
    · exact tw_okR tw_k264_780 i e (by omega) (by omega) h
    by_cases c810 : i < 840
    · exact tw_okR tw_k264_810 i e (by omega) (by omega) h
    by_cases c840 : i < 870
    · exact tw_okR tw_k264_840 i e (by omega) (by omega) h
    exact tw_okR tw_k264_870 i e (by omega) (by omega) h
