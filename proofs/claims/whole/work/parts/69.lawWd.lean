/-! The words of the law's body are words of the tables (69.lawWd) -/
set_option maxRecDepth 20000 in
theorem lin17 : ∀ w ∈ wsL_law0_r17, w ∈ lw_tbl := fun w h => (goodIn_p wsL_law0_r17 [504, 726, 513] (by decide +kernel) (by decide +kernel) w h).1
set_option maxRecDepth 20000 in
theorem lin18 : ∀ w ∈ wsL_law0_r18, w ∈ lw_tbl := fun w h => (goodIn_p wsL_law0_r18 [730, 524, 243, 247, 251, 734] (by decide +kernel) (by decide +kernel) w h).1
set_option maxRecDepth 20000 in
theorem lin19 : ∀ w ∈ wsL_law0_r19, w ∈ lw_tbl := fun w h => (goodIn_p wsL_law0_r19 [738, 742, 746, 532, 537] (by decide +kernel) (by decide +kernel) w h).1
set_option maxRecDepth 20000 in
theorem lin20 : ∀ w ∈ wsL_law0_r20, w ∈ lw_tbl := fun w h => (goodIn_p wsL_law0_r20 [541, 544, 548, 750, 555] (by decide +kernel) (by decide +kernel) w h).1
set_option maxRecDepth 20000 in
theorem lin21 : ∀ w ∈ wsL_law0_r21, w ∈ lw_tbl := fun w h => (goodIn_p wsL_law0_r21 [754, 200, 759, 204, 226] (by decide +kernel) (by decide +kernel) w h).1
set_option maxRecDepth 20000 in
theorem lin22 : ∀ w ∈ wsL_law0_r22, w ∈ lw_tbl := fun w h => (goodIn_p wsL_law0_r22 [763] (by decide +kernel) (by decide +kernel) w h).1
theorem linX2 : ∀ w ∈ wsX20, w ∈ lw_tbl := by decide +kernel
theorem linX3 : ∀ w ∈ wsX30, w ∈ lw_tbl := by decide +kernel
theorem linX1 : ∀ w ∈ wsX10, w ∈ lw_tbl := by decide +kernel
theorem linX0 : ∀ w ∈ wsX00, w ∈ lw_tbl := by decide +kernel
theorem linE0 : ∀ w ∈ (vx_atS RX2 47 "java/lang/IllegalArgumentException" ["java/lang/RuntimeException", "java/lang/Exception"]).filter goodWord, w ∈ lw_tbl := by decide +kernel
theorem linE1 : ∀ w ∈ (vx_atS RX2 65 "java/lang/IllegalStateException" ["java/lang/RuntimeException", "java/lang/Exception"]).filter goodWord, w ∈ lw_tbl := by decide +kernel
theorem linE2 : ∀ w ∈ (vx_atS RX2 126 "java/lang/IndexOutOfBoundsException" ["java/lang/RuntimeException", "java/lang/Exception"]).filter goodWord, w ∈ lw_tbl := by decide +kernel
theorem app_in {a b : List Cond} {p : Cond → Prop} (ha : ∀ w ∈ a, p w) (hb : ∀ w ∈ b, p w) : ∀ w ∈ a ++ b, p w := List.forall_mem_append.mpr ⟨ha, hb⟩
theorem lin_law0 : ∀ w ∈ wsL_law0, w ∈ lw_tbl := app_in (app_in (app_in (app_in (app_in (app_in lin1 (app_in lin2 (app_in lin3 (app_in lin4 (app_in lin5 (app_in lin6 (app_in lin7 (app_in lin8 (app_in lin9 (app_in lin10 (app_in lin11 (app_in lin12 (app_in lin13 (app_in lin14 (app_in lin15 (app_in lin16 (app_in lin17 (app_in lin18 (app_in lin19 (app_in lin20 (app_in lin21 lin22))))))))))))))))))))) linX2) linX3) linX1) linX0) (fun _ h => absurd h List.not_mem_nil)
theorem lin_law : ∀ w ∈ wsL_law, w ∈ lw_tbl := app_in (app_in (app_in lin_law0 linE0) linE1) linE2
