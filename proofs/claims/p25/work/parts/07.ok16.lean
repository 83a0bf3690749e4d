theorem cw_170 : (match MT[170]? with | none => false | some q => isW (cwp 170) (cwd q)) = true := by decide +kernel
theorem cw_171 : (match MT[171]? with | none => false | some q => isW (cwp 171) (cwd q)) = true := by decide +kernel
theorem cw_172 : (match MT[172]? with | none => false | some q => isW (cwp 172) (cwd q)) = true := by decide +kernel
