theorem ok_168_2 : okR 168 wp_168 200 100 = true := by decide +kernel
theorem ok_168_3 : okR 168 wp_168 300 100 = true := by decide +kernel
theorem ok_168_4 : okR 168 wp_168 400 100 = true := by decide +kernel
theorem ok_168_5 : okR 168 wp_168 500 100 = true := by decide +kernel
theorem ok_168_6 : okR 168 wp_168 600 6 = true := by decide +kernel
theorem ok_168 : okR 168 wp_168 0 606 = true := (okR_add (lo := 0) (n := 600) (n2 := 6) (lo2 := 600) (n3 := 606) (okR_add (lo := 0) (n := 500) (n2 := 100) (lo2 := 500) (n3 := 600) (okR_add (lo := 0) (n := 400) (n2 := 100) (lo2 := 400) (n3 := 500) (okR_add (lo := 0) (n := 300) (n2 := 100) (lo2 := 300) (n3 := 400) (okR_add (lo := 0) (n := 200) (n2 := 100) (lo2 := 200) (n3 := 300) (okR_add (lo := 0) (n := 100) (n2 := 100) (lo2 := 100) (n3 := 200) ok_168_0 ok_168_1 (by decide) (by decide)) ok_168_2 (by decide) (by decide)) ok_168_3 (by decide) (by decide)) ok_168_4 (by decide) (by decide)) ok_168_5 (by decide) (by decide)) ok_168_6 (by decide) (by decide))
theorem ok_169_0 : okR 169 wp_169 0 100 = true := by decide +kernel
theorem ok_169_1 : okR 169 wp_169 100 100 = true := by decide +kernel
theorem ok_169_2 : okR 169 wp_169 200 100 = true := by decide +kernel
theorem ok_169_3 : okR 169 wp_169 300 100 = true := by decide +kernel
theorem ok_169_4 : okR 169 wp_169 400 100 = true := by decide +kernel
theorem ok_169_5 : okR 169 wp_169 500 100 = true := by decide +kernel
theorem ok_169_6 : okR 169 wp_169 600 77 = true := by decide +kernel
theorem ok_169 : okR 169 wp_169 0 677 = true := (okR_add (lo := 0) (n := 600) (n2 := 77) (lo2 := 600) (n3 := 677) (okR_add (lo := 0) (n := 500) (n2 := 100) (lo2 := 500) (n3 := 600) (okR_add (lo := 0) (n := 400) (n2 := 100) (lo2 := 400) (n3 := 500) (okR_add (lo := 0) (n := 300) (n2 := 100) (lo2 := 300) (n3 := 400) (okR_add (lo := 0) (n := 200) (n2 := 100) (lo2 := 200) (n3 := 300) (okR_add (lo := 0) (n := 100) (n2 := 100) (lo2 := 100) (n3 := 200) ok_169_0 ok_169_1 (by decide) (by decide)) ok_169_2 (by decide) (by decide)) ok_169_3 (by decide) (by decide)) ok_169_4 (by decide) (by decide)) ok_169_5 (by decide) (by decide)) ok_169_6 (by decide) (by decide))
theorem ok_170_0 : okR 170 wp_170 0 100 = true := by decide +kernel
theorem ok_170_1 : okR 170 wp_170 100 100 = true := by decide +kernel
