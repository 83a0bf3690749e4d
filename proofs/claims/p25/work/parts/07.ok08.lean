theorem ok_172_5 : okR 172 wp_172 500 100 = true := by decide +kernel
theorem ok_172_6 : okR 172 wp_172 600 72 = true := by decide +kernel
theorem ok_172 : okR 172 wp_172 0 672 = true := (okR_add (lo := 0) (n := 600) (n2 := 72) (lo2 := 600) (n3 := 672) (okR_add (lo := 0) (n := 500) (n2 := 100) (lo2 := 500) (n3 := 600) (okR_add (lo := 0) (n := 400) (n2 := 100) (lo2 := 400) (n3 := 500) (okR_add (lo := 0) (n := 300) (n2 := 100) (lo2 := 300) (n3 := 400) (okR_add (lo := 0) (n := 200) (n2 := 100) (lo2 := 200) (n3 := 300) (okR_add (lo := 0) (n := 100) (n2 := 100) (lo2 := 100) (n3 := 200) ok_172_0 ok_172_1 (by decide) (by decide)) ok_172_2 (by decide) (by decide)) ok_172_3 (by decide) (by decide)) ok_172_4 (by decide) (by decide)) ok_172_5 (by decide) (by decide)) ok_172_6 (by decide) (by decide))
theorem ok_173_0 : okR 173 wp_173 0 100 = true := by decide +kernel
theorem ok_173_1 : okR 173 wp_173 100 100 = true := by decide +kernel
theorem ok_173_2 : okR 173 wp_173 200 100 = true := by decide +kernel
theorem ok_173_3 : okR 173 wp_173 300 100 = true := by decide +kernel
theorem ok_173_4 : okR 173 wp_173 400 100 = true := by decide +kernel
theorem ok_173_5 : okR 173 wp_173 500 100 = true := by decide +kernel
theorem ok_173_6 : okR 173 wp_173 600 100 = true := by decide +kernel
theorem ok_173_7 : okR 173 wp_173 700 100 = true := by decide +kernel
theorem ok_173_8 : okR 173 wp_173 800 100 = true := by decide +kernel
theorem ok_173_9 : okR 173 wp_173 900 100 = true := by decide +kernel
theorem ok_173_10 : okR 173 wp_173 1000 100 = true := by decide +kernel
