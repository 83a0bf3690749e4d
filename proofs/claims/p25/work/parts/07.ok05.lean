theorem ok_163_8 : okR 163 wp_163 800 100 = true := by decide +kernel
theorem ok_163_9 : okR 163 wp_163 900 100 = true := by decide +kernel
theorem ok_163_10 : okR 163 wp_163 1000 99 = true := by decide +kernel
theorem ok_163 : okR 163 wp_163 0 1099 = true := (okR_add (lo := 0) (n := 1000) (n2 := 99) (lo2 := 1000) (n3 := 1099) (okR_add (lo := 0) (n := 900) (n2 := 100) (lo2 := 900) (n3 := 1000) (okR_add (lo := 0) (n := 800) (n2 := 100) (lo2 := 800) (n3 := 900) (okR_add (lo := 0) (n := 700) (n2 := 100) (lo2 := 700) (n3 := 800) (okR_add (lo := 0) (n := 600) (n2 := 100) (lo2 := 600) (n3 := 700) (okR_add (lo := 0) (n := 500) (n2 := 100) (lo2 := 500) (n3 := 600) (okR_add (lo := 0) (n := 400) (n2 := 100) (lo2 := 400) (n3 := 500) (okR_add (lo := 0) (n := 300) (n2 := 100) (lo2 := 300) (n3 := 400) (okR_add (lo := 0) (n := 200) (n2 := 100) (lo2 := 200) (n3 := 300) (okR_add (lo := 0) (n := 100) (n2 := 100) (lo2 := 100) (n3 := 200) ok_163_0 ok_163_1 (by decide) (by decide)) ok_163_2 (by decide) (by decide)) ok_163_3 (by decide) (by decide)) ok_163_4 (by decide) (by decide)) ok_163_5 (by decide) (by decide)) ok_163_6 (by decide) (by decide)) ok_163_7 (by decide) (by decide)) ok_163_8 (by decide) (by decide)) ok_163_9 (by decide) (by decide)) ok_163_10 (by decide) (by decide))
theorem ok_164 : okR 164 wp_164 0 26 = true := by decide +kernel
theorem ok_165 : okR 165 wp_165 0 70 = true := by decide +kernel
theorem ok_166 : okR 166 wp_166 0 48 = true := by decide +kernel
theorem ok_167_0 : okR 167 wp_167 0 100 = true := by decide +kernel
theorem ok_167_1 : okR 167 wp_167 100 100 = true := by decide +kernel
theorem ok_167_2 : okR 167 wp_167 200 100 = true := by decide +kernel
theorem ok_167_3 : okR 167 wp_167 300 100 = true := by decide +kernel
theorem ok_167_4 : okR 167 wp_167 400 100 = true := by decide +kernel
theorem ok_167_5 : okR 167 wp_167 500 51 = true := by decide +kernel
theorem ok_167 : okR 167 wp_167 0 551 = true := (okR_add (lo := 0) (n := 500) (n2 := 51) (lo2 := 500) (n3 := 551) (okR_add (lo := 0) (n := 400) (n2 := 100) (lo2 := 400) (n3 := 500) (okR_add (lo := 0) (n := 300) (n2 := 100) (lo2 := 300) (n3 := 400) (okR_add (lo := 0) (n := 200) (n2 := 100) (lo2 := 200) (n3 := 300) (okR_add (lo := 0) (n := 100) (n2 := 100) (lo2 := 100) (n3 := 200) ok_167_0 ok_167_1 (by decide) (by decide)) ok_167_2 (by decide) (by decide)) ok_167_3 (by decide) (by decide)) ok_167_4 (by decide) (by decide)) ok_167_5 (by decide) (by decide))
theorem ok_168_0 : okR 168 wp_168 0 100 = true := by decide +kernel
theorem ok_168_1 : okR 168 wp_168 100 100 = true := by decide +kernel
