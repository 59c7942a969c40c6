/-! PRINTED by wip/whole/tool/gen3.py: every block is as the bytes and the tables have it -/
theorem mm_ok_160 : mm_okM 160 = true := by decide +kernel
theorem mm_ok_161 : mm_okM 161 = true := by decide +kernel
theorem mm_ok_162 : mm_okM 162 = true := by decide +kernel
theorem mm_ok_163 : mm_okM 163 = true := by decide +kernel
theorem mm_ok_164 : mm_okM 164 = true := by decide +kernel
theorem mm_ok_165 : mm_okM 165 = true := by decide +kernel
theorem mm_ok_166 : mm_okM 166 = true := by decide +kernel
theorem mm_ok_167 : mm_okM 167 = true := by decide +kernel
theorem mm_ok_168 : mm_okM 168 = true := by decide +kernel
theorem mm_ok_169 : mm_okM 169 = true := by decide +kernel
theorem mm_ok_170 : mm_okM 170 = true := by decide +kernel
theorem mm_ok_171 : mm_okM 171 = true := by decide +kernel
theorem mm_ok_172 : mm_okM 172 = true := by decide +kernel
theorem mm_ok_173 : mm_okM 173 = true := by decide +kernel
