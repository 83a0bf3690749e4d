theorem cw_162 : (match MT[162]? with | none => false | some q => isW (cwp 162) (cwd q)) = true := by decide +kernel
theorem cw_163 : (match MT[163]? with | none => false | some q => isW (cwp 163) (cwd q)) = true := by decide +kernel
theorem cw_164 : (match MT[164]? with | none => false | some q => isW (cwp 164) (cwd q)) = true := by decide +kernel
theorem cw_165 : (match MT[165]? with | none => false | some q => isW (cwp 165) (cwd q)) = true := by decide +kernel
theorem cw_166 : (match MT[166]? with | none => false | some q => isW (cwp 166) (cwd q)) = true := by decide +kernel
theorem cw_167 : (match MT[167]? with | none => false | some q => isW (cwp 167) (cwd q)) = true := by decide +kernel
theorem cw_168 : (match MT[168]? with | none => false | some q => isW (cwp 168) (cwd q)) = true := by decide +kernel
theorem cw_169 : (match MT[169]? with | none => false | some q => isW (cwp 169) (cwd q)) = true := by decide +kernel
