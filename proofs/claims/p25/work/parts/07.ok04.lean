theorem ok_135 : okR 135 wp_135 0 53 = true := by decide +kernel
theorem ok_136 : okR 136 wp_136 0 45 = true := by decide +kernel
theorem ok_160 : okR 160 wp_160 0 11 = true := by decide +kernel
theorem ok_161 : okR 161 wp_161 0 21 = true := by decide +kernel
theorem ok_162_0 : okR 162 wp_162 0 100 = true := by decide +kernel
theorem ok_162_1 : okR 162 wp_162 100 100 = true := by decide +kernel
theorem ok_162_2 : okR 162 wp_162 200 100 = true := by decide +kernel
theorem ok_162_3 : okR 162 wp_162 300 42 = true := by decide +kernel
theorem ok_162 : okR 162 wp_162 0 342 = true := (okR_add (lo := 0) (n := 300) (n2 := 42) (lo2 := 300) (n3 := 342) (okR_add (lo := 0) (n := 200) (n2 := 100) (lo2 := 200) (n3 := 300) (okR_add (lo := 0) (n := 100) (n2 := 100) (lo2 := 100) (n3 := 200) ok_162_0 ok_162_1 (by decide) (by decide)) ok_162_2 (by decide) (by decide)) ok_162_3 (by decide) (by decide))
theorem ok_163_0 : okR 163 wp_163 0 100 = true := by decide +kernel
theorem ok_163_1 : okR 163 wp_163 100 100 = true := by decide +kernel
theorem ok_163_2 : okR 163 wp_163 200 100 = true := by decide +kernel
theorem ok_163_3 : okR 163 wp_163 300 100 = true := by decide +kernel
theorem ok_163_4 : okR 163 wp_163 400 100 = true := by decide +kernel
theorem ok_163_5 : okR 163 wp_163 500 100 = true := by decide +kernel
theorem ok_163_6 : okR 163 wp_163 600 100 = true := by decide +kernel
theorem ok_163_7 : okR 163 wp_163 700 100 = true := by decide +kernel
