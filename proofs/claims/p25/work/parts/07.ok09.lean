theorem ok_173_15 : okR 173 wp_173 900 60 = true := by decide +kernel
theorem ok_173_16 : okR 173 wp_173 960 60 = true := by decide +kernel
theorem ok_173_17 : okR 173 wp_173 1020 60 = true := by decide +kernel
theorem ok_173_18 : okR 173 wp_173 1080 60 = true := by decide +kernel
theorem ok_173_19 : okR 173 wp_173 1140 60 = true := by decide +kernel
theorem ok_173_20 : okR 173 wp_173 1200 15 = true := by decide +kernel
theorem ok_173 : okR 173 wp_173 0 1215 = true := (okR_add (lo := 0) (n := 1200) (n2 := 15) (lo2 := 1200) (n3 := 1215) (okR_add (lo := 0) (n := 1140) (n2 := 60) (lo2 := 1140) (n3 := 1200) (okR_add (lo := 0) (n := 1080) (n2 := 60) (lo2 := 1080) (n3 := 1140) (okR_add (lo := 0) (n := 1020) (n2 := 60) (lo2 := 1020) (n3 := 1080) (okR_add (lo := 0) (n := 960) (n2 := 60) (lo2 := 960) (n3 := 1020) (okR_add (lo := 0) (n := 900) (n2 := 60) (lo2 := 900) (n3 := 960) (okR_add (lo := 0) (n := 840) (n2 := 60) (lo2 := 840) (n3 := 900) (okR_add (lo := 0) (n := 780) (n2 := 60) (lo2 := 780) (n3 := 840) (okR_add (lo := 0) (n := 720) (n2 := 60) (lo2 := 720) (n3 := 780) (okR_add (lo := 0) (n := 660) (n2 := 60) (lo2 := 660) (n3 := 720) (okR_add (lo := 0) (n := 600) (n2 := 60) (lo2 := 600) (n3 := 660) (okR_add (lo := 0) (n := 540) (n2 := 60) (lo2 := 540) (n3 := 600) (okR_add (lo := 0) (n := 480) (n2 := 60) (lo2 := 480) (n3 := 540) (okR_add (lo := 0) (n := 420) (n2 := 60) (lo2 := 420) (n3 := 480) (okR_add (lo := 0) (n := 360) (n2 := 60) (lo2 := 360) (n3 := 420) (okR_add (lo := 0) (n := 300) (n2 := 60) (lo2 := 300) (n3 := 360) (okR_add (lo := 0) (n := 240) (n2 := 60) (lo2 := 240) (n3 := 300) (okR_add (lo := 0) (n := 180) (n2 := 60) (lo2 := 180) (n3 := 240) (okR_add (lo := 0) (n := 120) (n2 := 60) (lo2 := 120) (n3 := 180) (okR_add (lo := 0) (n := 60) (n2 := 60) (lo2 := 60) (n3 := 120) ok_173_0 ok_173_1 (by decide) (by decide)) ok_173_2 (by decide) (by decide)) ok_173_3 (by decide) (by decide)) ok_173_4 (by decide) (by decide)) ok_173_5 (by decide) (by decide)) ok_173_6 (by decide) (by decide)) ok_173_7 (by decide) (by decide)) ok_173_8 (by decide) (by decide)) ok_173_9 (by decide) (by decide)) ok_173_10 (by decide) (by decide)) ok_173_11 (by decide) (by decide)) ok_173_12 (by decide) (by decide)) ok_173_13 (by decide) (by decide)) ok_173_14 (by decide) (by decide)) ok_173_15 (by decide) (by decide)) ok_173_16 (by decide) (by decide)) ok_173_17 (by decide) (by decide)) ok_173_18 (by decide) (by decide)) ok_173_19 (by decide) (by decide)) ok_173_20 (by decide) (by decide))
theorem cw_0 : (match MT[0]? with | none => false | some q => isW (cwp 0) (cwd q)) = true := by decide +kernel
theorem cw_1 : (match MT[1]? with | none => false | some q => isW (cwp 1) (cwd q)) = true := by decide +kernel
theorem cw_2 : (match MT[2]? with | none => false | some q => isW (cwp 2) (cwd q)) = true := by decide +kernel
theorem cw_3 : (match MT[3]? with | none => false | some q => isW (cwp 3) (cwd q)) = true := by decide +kernel
theorem cw_4 : (match MT[4]? with | none => false | some q => isW (cwp 4) (cwd q)) = true := by decide +kernel
theorem cw_5 : (match MT[5]? with | none => false | some q => isW (cwp 5) (cwd q)) = true := by decide +kernel
theorem cw_6 : (match MT[6]? with | none => false | some q => isW (cwp 6) (cwd q)) = true := by decide +kernel
theorem cw_7 : (match MT[7]? with | none => false | some q => isW (cwp 7) (cwd q)) = true := by decide +kernel
theorem cw_8 : (match MT[8]? with | none => false | some q => isW (cwp 8) (cwd q)) = true := by decide +kernel
theorem cw_9 : (match MT[9]? with | none => false | some q => isW (cwp 9) (cwd q)) = true := by decide +kernel
theorem cw_10 : (match MT[10]? with | none => false | some q => isW (cwp 10) (cwd q)) = true := by decide +kernel
theorem cw_11 : (match MT[11]? with | none => false | some q => isW (cwp 11) (cwd q)) = true := by decide +kernel
theorem cw_12 : (match MT[12]? with | none => false | some q => isW (cwp 12) (cwd q)) = true := by decide +kernel
