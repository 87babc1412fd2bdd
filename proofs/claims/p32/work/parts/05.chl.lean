/-! the law's own rows -/
theorem mj_cl0 : mj_cm code 8 (some .boolean) [] ((mj_c70.drop 0).take 8) = true := by decide +kernel
theorem mj_cl8 : mj_cm code 8 (some .boolean) [] ((mj_c70.drop 8).take 8) = true := by decide +kernel
theorem mj_cl16 : mj_cm code 8 (some .boolean) [] ((mj_c70.drop 16).take 8) = true := by decide +kernel
theorem mj_cl24 : mj_cm code 8 (some .boolean) [] ((mj_c70.drop 24).take 8) = true := by decide +kernel
theorem mj_cl32 : mj_cm code 8 (some .boolean) [] ((mj_c70.drop 32).take 8) = true := by decide +kernel
theorem mj_cl40 : mj_cm code 8 (some .boolean) [] ((mj_c70.drop 40).take 8) = true := by decide +kernel
theorem mj_cl48 : mj_cm code 8 (some .boolean) [] ((mj_c70.drop 48).take 8) = true := by decide +kernel
theorem mj_cl56 : mj_cm code 8 (some .boolean) [] ((mj_c70.drop 56).take 8) = true := by decide +kernel
theorem mj_cl64 : mj_cm code 8 (some .boolean) [] ((mj_c70.drop 64).take 8) = true := by decide +kernel
theorem mj_cl72 : mj_cm code 8 (some .boolean) [] ((mj_c70.drop 72).take 8) = true := by decide +kernel
theorem mj_cl80 : mj_cm code 8 (some .boolean) [] ((mj_c70.drop 80).take 8) = true := by decide +kernel
theorem mj_cl88 : mj_cm code 8 (some .boolean) [] ((mj_c70.drop 88).take 8) = true := by decide +kernel
theorem mj_cl96 : mj_cm code 8 (some .boolean) [] ((mj_c70.drop 96).take 8) = true := by decide +kernel
theorem mj_cl104 : mj_cm code 8 (some .boolean) [] ((mj_c70.drop 104).take 8) = true := by decide +kernel
theorem mj_cl112 : mj_cm code 8 (some .boolean) [] ((mj_c70.drop 112).take 8) = true := by decide +kernel
theorem mj_cl120 : mj_cm code 8 (some .boolean) [] ((mj_c70.drop 120).take 8) = true := by decide +kernel
theorem mj_cl128 : mj_cm code 8 (some .boolean) [] ((mj_c70.drop 128).take 8) = true := by decide +kernel
theorem mj_cl136 : mj_cm code 8 (some .boolean) [] ((mj_c70.drop 136).take 8) = true := by decide +kernel
set_option maxRecDepth 100000 in
theorem mj_cfL : mj_cm code 8 (some .boolean) [] mj_c70 = true := by
  have h : mj_c70 = (mj_c70.drop 0).take 8 ++ ((mj_c70.drop 8).take 8 ++ ((mj_c70.drop 16).take 8 ++ ((mj_c70.drop 24).take 8 ++ ((mj_c70.drop 32).take 8 ++ ((mj_c70.drop 40).take 8 ++ ((mj_c70.drop 48).take 8 ++ ((mj_c70.drop 56).take 8 ++ ((mj_c70.drop 64).take 8 ++ ((mj_c70.drop 72).take 8 ++ ((mj_c70.drop 80).take 8 ++ ((mj_c70.drop 88).take 8 ++ ((mj_c70.drop 96).take 8 ++ ((mj_c70.drop 104).take 8 ++ ((mj_c70.drop 112).take 8 ++ ((mj_c70.drop 120).take 8 ++ ((mj_c70.drop 128).take 8 ++ ((mj_c70.drop 136).take 8))))))))))))))))) := rfl
  rw [h]
  simp only [mj_cm, List.all_append, Bool.and_eq_true]
  exact ⟨mj_cl0, ⟨mj_cl8, ⟨mj_cl16, ⟨mj_cl24, ⟨mj_cl32, ⟨mj_cl40, ⟨mj_cl48, ⟨mj_cl56, ⟨mj_cl64, ⟨mj_cl72, ⟨mj_cl80, ⟨mj_cl88, ⟨mj_cl96, ⟨mj_cl104, ⟨mj_cl112, ⟨mj_cl120, ⟨mj_cl128, mj_cl136⟩⟩⟩⟩⟩⟩⟩⟩⟩⟩⟩⟩⟩⟩⟩⟩⟩
