theorem ok_168_2 : okR 168 wp_168 120 60 = true := by decide +kernel
theorem ok_168_3 : okR 168 wp_168 180 60 = true := by decide +kernel
theorem ok_168_4 : okR 168 wp_168 240 60 = true := by decide +kernel
theorem ok_168_5 : okR 168 wp_168 300 60 = true := by decide +kernel
theorem ok_168_6 : okR 168 wp_168 360 60 = true := by decide +kernel
theorem ok_168_7 : okR 168 wp_168 420 60 = true := by decide +kernel
theorem ok_168_8 : okR 168 wp_168 480 60 = true := by decide +kernel
theorem ok_168_9 : okR 168 wp_168 540 60 = true := by decide +kernel
theorem ok_168_10 : okR 168 wp_168 600 6 = true := by decide +kernel
theorem ok_168 : okR 168 wp_168 0 606 = true := (okR_add (lo := 0) (n := 600) (n2 := 6) (lo2 := 600) (n3 := 606) (okR_add (lo := 0) (n := 540) (n2 := 60) (lo2 := 540) (n3 := 600) (okR_add (lo := 0) (n := 480) (n2 := 60) (lo2 := 480) (n3 := 540) (okR_add (lo := 0) (n := 420) (n2 := 60) (lo2 := 420) (n3 := 480) (okR_add (lo := 0) (n := 360) (n2 := 60) (lo2 := 360) (n3 := 420) (okR_add (lo := 0) (n := 300) (n2 := 60) (lo2 := 300) (n3 := 360) (okR_add (lo := 0) (n := 240) (n2 := 60) (lo2 := 240) (n3 := 300) (okR_add (lo := 0) (n := 180) (n2 := 60) (lo2 := 180) (n3 := 240) (okR_add (lo := 0) (n := 120) (n2 := 60) (lo2 := 120) (n3 := 180) (okR_add (lo := 0) (n := 60) (n2 := 60) (lo2 := 60) (n3 := 120) ok_168_0 ok_168_1 (by decide) (by decide)) ok_168_2 (by decide) (by decide)) ok_168_3 (by decide) (by decide)) ok_168_4 (by decide) (by decide)) ok_168_5 (by decide) (by decide)) ok_168_6 (by decide) (by decide)) ok_168_7 (by decide) (by decide)) ok_168_8 (by decide) (by decide)) ok_168_9 (by decide) (by decide)) ok_168_10 (by decide) (by decide))
theorem ok_169_0 : okR 169 wp_169 0 60 = true := by decide +kernel
theorem ok_169_1 : okR 169 wp_169 60 60 = true := by decide +kernel
theorem ok_169_2 : okR 169 wp_169 120 60 = true := by decide +kernel
theorem ok_169_3 : okR 169 wp_169 180 60 = true := by decide +kernel
theorem ok_169_4 : okR 169 wp_169 240 60 = true := by decide +kernel
theorem ok_169_5 : okR 169 wp_169 300 60 = true := by decide +kernel
theorem ok_169_6 : okR 169 wp_169 360 60 = true := by decide +kernel
theorem ok_169_7 : okR 169 wp_169 420 60 = true := by decide +kernel
theorem ok_169_8 : okR 169 wp_169 480 60 = true := by decide +kernel
theorem ok_169_9 : okR 169 wp_169 540 60 = true := by decide +kernel
theorem ok_169_10 : okR 169 wp_169 600 60 = true := by decide +kernel
theorem ok_169_11 : okR 169 wp_169 660 17 = true := by decide +kernel
theorem ok_169 : okR 169 wp_169 0 677 = true := (okR_add (lo := 0) (n := 660) (n2 := 17) (lo2 := 660) (n3 := 677) (okR_add (lo := 0) (n := 600) (n2 := 60) (lo2 := 600) (n3 := 660) (okR_add (lo := 0) (n := 540) (n2 := 60) (lo2 := 540) (n3 := 600) (okR_add (lo := 0) (n := 480) (n2 := 60) (lo2 := 480) (n3 := 540) (okR_add (lo := 0) (n := 420) (n2 := 60) (lo2 := 420) (n3 := 480) (okR_add (lo := 0) (n := 360) (n2 := 60) (lo2 := 360) (n3 := 420) (okR_add (lo := 0) (n := 300) (n2 := 60) (lo2 := 300) (n3 := 360) (okR_add (lo := 0) (n := 240) (n2 := 60) (lo2 := 240) (n3 := 300) (okR_add (lo := 0) (n := 180) (n2 := 60) (lo2 := 180) (n3 := 240) (okR_add (lo := 0) (n := 120) (n2 := 60) (lo2 := 120) (n3 := 180) (okR_add (lo := 0) (n := 60) (n2 := 60) (lo2 := 60) (n3 := 120) ok_169_0 ok_169_1 (by decide) (by decide)) ok_169_2 (by decide) (by decide)) ok_169_3 (by decide) (by decide)) ok_169_4 (by decide) (by decide)) ok_169_5 (by decide) (by decide)) ok_169_6 (by decide) (by decide)) ok_169_7 (by decide) (by decide)) ok_169_8 (by decide) (by decide)) ok_169_9 (by decide) (by decide)) ok_169_10 (by decide) (by decide)) ok_169_11 (by decide) (by decide))
theorem ok_170_0 : okR 170 wp_170 0 60 = true := by decide +kernel
