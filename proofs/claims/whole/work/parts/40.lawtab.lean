/-! the law's own table is good -/
def q_L_law : MI := (⟨RL, "law", "([I)Z"⟩, code, 9, some .boolean, [])
theorem lk_0 : k_L_law_0.all (okB q_L_law.1 code (some .boolean)) = true := by decide +kernel
theorem lk_1 : k_L_law_1.all (okB q_L_law.1 code (some .boolean)) = true := okW_all (δ := 349) (n := 166) (by decide +kernel)
theorem lk_2 : k_L_law_2.all (okB q_L_law.1 code (some .boolean)) = true := okW_all (δ := 515) (n := 159) (by decide +kernel)
theorem lk_3 : k_L_law_3.all (okB q_L_law.1 code (some .boolean)) = true := okW_all (δ := 674) (n := 148) (by decide +kernel)
theorem lk_4 : k_L_law_4.all (okB q_L_law.1 code (some .boolean)) = true := okW_all (δ := 822) (n := 151) (by decide +kernel)
theorem lk_5 : k_L_law_5.all (okB q_L_law.1 code (some .boolean)) = true := okW_all (δ := 973) (n := 145) (by decide +kernel)
theorem lk_6 : k_L_law_6.all (okB q_L_law.1 code (some .boolean)) = true := okW_all (δ := 1118) (n := 153) (by decide +kernel)
theorem lk_7 : k_L_law_7.all (okB q_L_law.1 code (some .boolean)) = true := okW_all (δ := 1271) (n := 171) (by decide +kernel)
theorem lk_8 : k_L_law_8.all (okB q_L_law.1 code (some .boolean)) = true := okW_all (δ := 1442) (n := 167) (by decide +kernel)
theorem lk_9 : k_L_law_9.all (okB q_L_law.1 code (some .boolean)) = true := okW_all (δ := 1609) (n := 163) (by decide +kernel)
theorem lk_10 : k_L_law_10.all (okB q_L_law.1 code (some .boolean)) = true := okW_all (δ := 1772) (n := 161) (by decide +kernel)
theorem lk_11 : k_L_law_11.all (okB q_L_law.1 code (some .boolean)) = true := okW_all (δ := 1933) (n := 149) (by decide +kernel)
theorem lk_12 : k_L_law_12.all (okB q_L_law.1 code (some .boolean)) = true := okW_all (δ := 2082) (n := 161) (by decide +kernel)
theorem lk_13 : k_L_law_13.all (okB q_L_law.1 code (some .boolean)) = true := okW_all (δ := 2243) (n := 163) (by decide +kernel)
theorem lk_14 : k_L_law_14.all (okB q_L_law.1 code (some .boolean)) = true := okW_all (δ := 2406) (n := 148) (by decide +kernel)
theorem lk_15 : k_L_law_15.all (okB q_L_law.1 code (some .boolean)) = true := okW_all (δ := 2554) (n := 161) (by decide +kernel)
theorem lk_16 : k_L_law_16.all (okB q_L_law.1 code (some .boolean)) = true := okW_all (δ := 2715) (n := 154) (by decide +kernel)
theorem lk_17 : k_L_law_17.all (okB q_L_law.1 code (some .boolean)) = true := okW_all (δ := 2869) (n := 158) (by decide +kernel)
theorem lk_18 : k_L_law_18.all (okB q_L_law.1 code (some .boolean)) = true := okW_all (δ := 3027) (n := 100) (by decide +kernel)
theorem lk_app {α : Type} {f : α → Bool} {a b : List α} (h1 : a.all f = true) (h2 : b.all f = true) : (a ++ b).all f = true := by
  rw [List.all_append, h1, h2]; rfl
theorem lk_all : k_L_law.all (okB q_L_law.1 code (some .boolean)) = true := lk_app lk_0 (lk_app lk_1 (lk_app lk_2 (lk_app lk_3 (lk_app lk_4 (lk_app lk_5 (lk_app lk_6 (lk_app lk_7 (lk_app lk_8 (lk_app lk_9 (lk_app lk_10 (lk_app lk_11 (lk_app lk_12 (lk_app lk_13 (lk_app lk_14 (lk_app lk_15 (lk_app lk_16 (lk_app lk_17 (lk_18))))))))))))))))))
theorem t_L_law : tabOK MTq BQ 338 q_L_law k_L_law [] := tabOK_of SI_L lk_all [44, 45, 46, 47, 48, 49, 50, 51, 52, 53, 54, 55, 56, 57, 58, 59, 60, 61, 62, 54, 63, 64, 54, 65, 66, 54, 67, 68, 54, 69, 70, 54, 71, 72, 54, 73, 74, 54, 75, 76, 54, 77, 78, 54, 79, 80, 54, 81, 82, 54, 83, 84, 54, 85, 86, 54, 87, 88, 54, 89, 90, 54, 91, 92, 54, 93, 94, 54, 95, 96, 54, 97, 98, 54, 99, 100, 54, 101, 102, 54, 103, 104, 54, 105, 106, 54, 107, 108, 54, 109, 110, 54, 111, 112, 54, 113, 114, 54, 115, 116, 54, 117, 118, 54, 119, 120, 54, 121, 122, 54, 123, 124, 54, 125, 126, 54, 127, 128, 54, 129, 130, 54, 131, 132, 54, 133, 134, 54, 135, 136, 54, 137, 138, 54, 139, 140, 54, 141, 142, 54, 143, 144, 145, 146, 54, 147, 148, 54] (by decide +kernel) (by decide +kernel) (by decide +kernel) (by decide +kernel) trivial
