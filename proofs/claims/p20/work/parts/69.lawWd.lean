/-! The words of the law's body are words of the tables (69.lawWd) -/
set_option maxRecDepth 20000 in
theorem lin12 : ∀ w ∈ wsL_law0_r12, w ∈ lw_tbl := fun w h => (goodIn_p wsL_law0_r12 [399, 172, 263, 326, 336, 356] (by decide +kernel) (by decide +kernel) w h).1
set_option maxRecDepth 20000 in
theorem lin13 : ∀ w ∈ wsL_law0_r13, w ∈ lw_tbl := fun w h => (goodIn_p wsL_law0_r13 [360, 581, 386, 391, 395] (by decide +kernel) (by decide +kernel) w h).1
set_option maxRecDepth 20000 in
theorem lin14 : ∀ w ∈ wsL_law0_r14, w ∈ lw_tbl := fun w h => (goodIn_p wsL_law0_r14 [423, 331] (by decide +kernel) (by decide +kernel) w h).1
theorem linX0 : ∀ w ∈ wsX00, w ∈ lw_tbl := by decide +kernel
theorem linX1 : ∀ w ∈ wsX10, w ∈ lw_tbl := by decide +kernel
theorem linX2 : ∀ w ∈ wsX20, w ∈ lw_tbl := by decide +kernel
theorem linX3 : ∀ w ∈ wsX30, w ∈ lw_tbl := by decide +kernel
theorem linX4 : ∀ w ∈ wsX40, w ∈ lw_tbl := by decide +kernel
theorem linE0 : ∀ w ∈ (vx_atS RX2 47 "java/lang/IllegalArgumentException" ["java/lang/RuntimeException", "java/lang/Exception"]).filter goodWord, w ∈ lw_tbl := by decide +kernel
theorem linE1 : ∀ w ∈ (vx_atS RX2 65 "java/lang/IllegalStateException" ["java/lang/RuntimeException", "java/lang/Exception"]).filter goodWord, w ∈ lw_tbl := by decide +kernel
theorem linE2 : ∀ w ∈ (vx_atS RX2 126 "java/lang/IndexOutOfBoundsException" ["java/lang/RuntimeException", "java/lang/Exception"]).filter goodWord, w ∈ lw_tbl := by decide +kernel
theorem app_in {a b : List Cond} {p : Cond → Prop} (ha : ∀ w ∈ a, p w) (hb : ∀ w ∈ b, p w) : ∀ w ∈ a ++ b, p w := List.forall_mem_append.mpr ⟨ha, hb⟩
theorem lin_law0 : ∀ w ∈ wsL_law0, w ∈ lw_tbl := (app_in (app_in (app_in (app_in (app_in (app_in (app_in lin1 (app_in lin2 (app_in lin3 (app_in lin4 (app_in lin5 (app_in lin6 (app_in lin7 (app_in lin8 (app_in lin9 (app_in lin10 (app_in lin11 (app_in lin12 (app_in lin13 lin14))))))))))))) linX2) linX3) linX4) linX1) linX0) (fun _ h => absurd h List.not_mem_nil))
theorem lin_law : ∀ w ∈ wsL_law, w ∈ lw_tbl := app_in (app_in (app_in lin_law0 linE0) linE1) linE2
