theorem cw_162 : (match MT[162]? with | none => False | some q => cwd q ∈ TW) := isW_mem (i := cwp 162) (by decide +kernel)
set_option maxRecDepth 40000 in
theorem cw_163 : (match MT[163]? with | none => False | some q => cwd q ∈ TW) := by
  have h1 : lw_tbl[791]? = some (cwd ((⟨"CompassRollsLaw", "refuses", "(LCompassRolls;IIIII)Z"⟩, method_3_code, 19, (some .boolean), 9, 216, []))) := rfl
  exact List.mem_filter.mpr ⟨List.mem_of_getElem? h1, by decide +kernel⟩
theorem cw_164 : (match MT[164]? with | none => False | some q => cwd q ∈ TW) := isW_mem (i := cwp 164) (by decide +kernel)
theorem cw_165 : (match MT[165]? with | none => False | some q => cwd q ∈ TW) := isW_mem (i := cwp 165) (by decide +kernel)
theorem cw_166 : (match MT[166]? with | none => False | some q => cwd q ∈ TW) := isW_mem (i := cwp 166) (by decide +kernel)
theorem cw_167 : (match MT[167]? with | none => False | some q => cwd q ∈ TW) := isW_mem (i := cwp 167) (by decide +kernel)
set_option maxRecDepth 40000 in
theorem cw_168 : (match MT[168]? with | none => False | some q => cwd q ∈ TW) := by
  have h1 : lw_tbl[801]? = some (cwd ((⟨"CompassRollsLaw", "calls", "(LCompassRolls;)Z"⟩, method_8_code, 1, (some .boolean), 11, 274, []))) := rfl
  exact List.mem_filter.mpr ⟨List.mem_of_getElem? h1, by decide +kernel⟩
set_option maxRecDepth 40000 in
theorem cw_169 : (match MT[169]? with | none => False | some q => cwd q ∈ TW) := by
  have h1 : lw_tbl[807]? = some (cwd ((⟨"CompassRollsLaw", "parcels", "(LCompassRolls;)Z"⟩, method_9_code, 1, (some .boolean), 10, 254, []))) := rfl
  exact List.mem_filter.mpr ⟨List.mem_of_getElem? h1, by decide +kernel⟩
set_option maxRecDepth 40000 in
theorem cw_170 : (match MT[170]? with | none => False | some q => cwd q ∈ TW) := by
  have h1 : lw_tbl[813]? = some (cwd ((⟨"CompassRollsLaw", "names", "()Z"⟩, method_10_code, 2, (some .boolean), 10, 254, []))) := rfl
  exact List.mem_filter.mpr ⟨List.mem_of_getElem? h1, by decide +kernel⟩
theorem cw_171 : (match MT[171]? with | none => False | some q => cwd q ∈ TW) := isW_mem (i := cwp 171) (by decide +kernel)
set_option maxRecDepth 40000 in
theorem cw_172 : (match MT[172]? with | none => False | some q => cwd q ∈ TW) := by
  have h1 : lw_tbl[819]? = some (cwd ((⟨"CompassRollsLaw", "most", "()Z"⟩, method_12_code, 3, (some .boolean), 10, 254, []))) := rfl
  exact List.mem_filter.mpr ⟨List.mem_of_getElem? h1, by decide +kernel⟩
