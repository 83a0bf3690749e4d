theorem ok_163_12 : okR 163 wp_163 720 60 = true := by decide +kernel
theorem ok_163_13 : okR 163 wp_163 780 60 = true := by decide +kernel
theorem ok_163_14 : okR 163 wp_163 840 60 = true := by decide +kernel
theorem ok_163_15 : okR 163 wp_163 900 60 = true := by decide +kernel
theorem ok_163_16 : okR 163 wp_163 960 60 = true := by decide +kernel
theorem ok_163_17 : okR 163 wp_163 1020 60 = true := by decide +kernel
theorem ok_163_18 : okR 163 wp_163 1080 19 = true := by decide +kernel
theorem ok_163 : okR 163 wp_163 0 1099 = true := (okR_add (lo := 0) (n := 1080) (n2 := 19) (lo2 := 1080) (n3 := 1099) (okR_add (lo := 0) (n := 1020) (n2 := 60) (lo2 := 1020) (n3 := 1080) (okR_add (lo := 0) (n := 960) (n2 := 60) (lo2 := 960) (n3 := 1020) (okR_add (lo := 0) (n := 900) (n2 := 60) (lo2 := 900) (n3 := 960) (okR_add (lo := 0) (n := 840) (n2 := 60) (lo2 := 840) (n3 := 900) (okR_add (lo := 0) (n := 780) (n2 := 60) (lo2 := 780) (n3 := 840) (okR_add (lo := 0) (n := 720) (n2 := 60) (lo2 := 720) (n3 := 780) (okR_add (lo := 0) (n := 660) (n2 := 60) (lo2 := 660) (n3 := 720) (okR_add (lo := 0) (n := 600) (n2 := 60) (lo2 := 600) (n3 := 660) (okR_add (lo := 0) (n := 540) (n2 := 60) (lo2 := 540) (n3 := 600) (okR_add (lo := 0) (n := 480) (n2 := 60) (lo2 := 480) (n3 := 540) (okR_add (lo := 0) (n := 420) (n2 := 60) (lo2 := 420) (n3 := 480) (okR_add (lo := 0) (n := 360) (n2 := 60) (lo2 := 360) (n3 := 420) (okR_add (lo := 0) (n := 300) (n2 := 60) (lo2 := 300) (n3 := 360) (okR_add (lo := 0) (n := 240) (n2 := 60) (lo2 := 240) (n3 := 300) (okR_add (lo := 0) (n := 180) (n2 := 60) (lo2 := 180) (n3 := 240) (okR_add (lo := 0) (n := 120) (n2 := 60) (lo2 := 120) (n3 := 180) (okR_add (lo := 0) (n := 60) (n2 := 60) (lo2 := 60) (n3 := 120) ok_163_0 ok_163_1 (by decide) (by decide)) ok_163_2 (by decide) (by decide)) ok_163_3 (by decide) (by decide)) ok_163_4 (by decide) (by decide)) ok_163_5 (by decide) (by decide)) ok_163_6 (by decide) (by decide)) ok_163_7 (by decide) (by decide)) ok_163_8 (by decide) (by decide)) ok_163_9 (by decide) (by decide)) ok_163_10 (by decide) (by decide)) ok_163_11 (by decide) (by decide)) ok_163_12 (by decide) (by decide)) ok_163_13 (by decide) (by decide)) ok_163_14 (by decide) (by decide)) ok_163_15 (by decide) (by decide)) ok_163_16 (by decide) (by decide)) ok_163_17 (by decide) (by decide)) ok_163_18 (by decide) (by decide))
theorem ok_164 : okR 164 wp_164 0 26 = true := by decide +kernel
theorem ok_165 : okR 165 wp_165 0 70 = true := by decide +kernel
theorem ok_166 : okR 166 wp_166 0 48 = true := by decide +kernel
theorem ok_167_0 : okR 167 wp_167 0 60 = true := by decide +kernel
theorem ok_167_1 : okR 167 wp_167 60 60 = true := by decide +kernel
theorem ok_167_2 : okR 167 wp_167 120 60 = true := by decide +kernel
theorem ok_167_3 : okR 167 wp_167 180 60 = true := by decide +kernel
theorem ok_167_4 : okR 167 wp_167 240 60 = true := by decide +kernel
theorem ok_167_5 : okR 167 wp_167 300 60 = true := by decide +kernel
theorem ok_167_6 : okR 167 wp_167 360 60 = true := by decide +kernel
theorem ok_167_7 : okR 167 wp_167 420 60 = true := by decide +kernel
theorem ok_167_8 : okR 167 wp_167 480 60 = true := by decide +kernel
theorem ok_167_9 : okR 167 wp_167 540 11 = true := by decide +kernel
theorem ok_167 : okR 167 wp_167 0 551 = true := (okR_add (lo := 0) (n := 540) (n2 := 11) (lo2 := 540) (n3 := 551) (okR_add (lo := 0) (n := 480) (n2 := 60) (lo2 := 480) (n3 := 540) (okR_add (lo := 0) (n := 420) (n2 := 60) (lo2 := 420) (n3 := 480) (okR_add (lo := 0) (n := 360) (n2 := 60) (lo2 := 360) (n3 := 420) (okR_add (lo := 0) (n := 300) (n2 := 60) (lo2 := 300) (n3 := 360) (okR_add (lo := 0) (n := 240) (n2 := 60) (lo2 := 240) (n3 := 300) (okR_add (lo := 0) (n := 180) (n2 := 60) (lo2 := 180) (n3 := 240) (okR_add (lo := 0) (n := 120) (n2 := 60) (lo2 := 120) (n3 := 180) (okR_add (lo := 0) (n := 60) (n2 := 60) (lo2 := 60) (n3 := 120) ok_167_0 ok_167_1 (by decide) (by decide)) ok_167_2 (by decide) (by decide)) ok_167_3 (by decide) (by decide)) ok_167_4 (by decide) (by decide)) ok_167_5 (by decide) (by decide)) ok_167_6 (by decide) (by decide)) ok_167_7 (by decide) (by decide)) ok_167_8 (by decide) (by decide)) ok_167_9 (by decide) (by decide))
theorem ok_168_0 : okR 168 wp_168 0 60 = true := by decide +kernel
theorem ok_168_1 : okR 168 wp_168 60 60 = true := by decide +kernel
