/-! the law's own rows -/
theorem mj_cl0 : mj_cm code 9 (some .boolean) [] ((mj_c150.drop 0).take 6) = true := by decide +kernel
theorem mj_cl6 : mj_cm code 9 (some .boolean) [] ((mj_c150.drop 6).take 6) = true := by decide +kernel
theorem mj_cl12 : mj_cm code 9 (some .boolean) [] ((mj_c150.drop 12).take 6) = true := by decide +kernel
theorem mj_cl18 : mj_cm code 9 (some .boolean) [] ((mj_c150.drop 18).take 6) = true := by decide +kernel
theorem mj_cl24 : mj_cm code 9 (some .boolean) [] ((mj_c150.drop 24).take 6) = true := by decide +kernel
theorem mj_cl30 : mj_cm code 9 (some .boolean) [] ((mj_c150.drop 30).take 6) = true := by decide +kernel
theorem mj_cl36 : mj_cm code 9 (some .boolean) [] ((mj_c150.drop 36).take 6) = true := by decide +kernel
theorem mj_cl42 : mj_cm code 9 (some .boolean) [] ((mj_c150.drop 42).take 6) = true := by decide +kernel
theorem mj_cl48 : mj_cm code 9 (some .boolean) [] ((mj_c150.drop 48).take 6) = true := by decide +kernel
theorem mj_cl54 : mj_cm code 9 (some .boolean) [] ((mj_c150.drop 54).take 6) = true := by decide +kernel
theorem mj_cl60 : mj_cm code 9 (some .boolean) [] ((mj_c150.drop 60).take 6) = true := by decide +kernel
theorem mj_cl66 : mj_cm code 9 (some .boolean) [] ((mj_c150.drop 66).take 6) = true := by decide +kernel
theorem mj_cl72 : mj_cm code 9 (some .boolean) [] ((mj_c150.drop 72).take 6) = true := by decide +kernel
theorem mj_cl78 : mj_cm code 9 (some .boolean) [] ((mj_c150.drop 78).take 6) = true := by decide +kernel
theorem mj_cl84 : mj_cm code 9 (some .boolean) [] ((mj_c150.drop 84).take 6) = true := by decide +kernel
theorem mj_cfL : mj_cm code 9 (some .boolean) [] mj_c150 = true := by
  have h : mj_c150 = (mj_c150.drop 0).take 6 ++ ((mj_c150.drop 6).take 6 ++ ((mj_c150.drop 12).take 6 ++ ((mj_c150.drop 18).take 6 ++ ((mj_c150.drop 24).take 6 ++ ((mj_c150.drop 30).take 6 ++ ((mj_c150.drop 36).take 6 ++ ((mj_c150.drop 42).take 6 ++ ((mj_c150.drop 48).take 6 ++ ((mj_c150.drop 54).take 6 ++ ((mj_c150.drop 60).take 6 ++ ((mj_c150.drop 66).take 6 ++ ((mj_c150.drop 72).take 6 ++ ((mj_c150.drop 78).take 6 ++ ((mj_c150.drop 84).take 6)))))))))))))) := rfl
  rw [h]
  simp only [mj_cm, List.all_append, Bool.and_eq_true]
  exact ⟨mj_cl0, ⟨mj_cl6, ⟨mj_cl12, ⟨mj_cl18, ⟨mj_cl24, ⟨mj_cl30, ⟨mj_cl36, ⟨mj_cl42, ⟨mj_cl48, ⟨mj_cl54, ⟨mj_cl60, ⟨mj_cl66, ⟨mj_cl72, ⟨mj_cl78, mj_cl84⟩⟩⟩⟩⟩⟩⟩⟩⟩⟩⟩⟩⟩⟩
