/-! the words of the law are words of the tables -/
theorem wl_app {a b c : List Cond} (ha : ∀ w ∈ a, w ∈ c) (hb : ∀ w ∈ b, w ∈ c) : ∀ w ∈ a ++ b, w ∈ c := fun w h => (List.mem_append.mp h).elim (ha w) (hb w)
set_option maxRecDepth 20000 in
theorem wlt_wsX10 : ∀ w ∈ wsX10, w ∈ lw_tbl := by decide +kernel
set_option maxRecDepth 20000 in
theorem wlt_wsX20 : ∀ w ∈ wsX20, w ∈ lw_tbl := by decide +kernel
theorem wsL_law_in0 : ∀ w ∈ wsL_law0, w ∈ lw_tbl := (wl_app (wl_app (wl_app (wl_app (wl_app (wl_app (wl_app (wl_app (wl_app (wl_app wlc_1 (wl_app wlc_2 (wl_app wlc_3 (wl_app wlc_4 (wl_app wlc_5 (wl_app wlc_6 (wl_app wlc_7 (wl_app wlc_8 (wl_app wlc_9 (wl_app wlc_10 (wl_app wlc_11 (wl_app wlc_12 (wl_app wlc_13 (wl_app wlc_14 (wl_app wlc_15 (wl_app wlc_16 (wl_app wlc_17 (wl_app wlc_18 (wl_app wlc_19 (wl_app wlc_20 (wl_app wlc_21 (wl_app wlc_22 (wl_app wlc_23 (wl_app wlc_24 (wl_app wlc_25 (wl_app wlc_26 (wl_app wlc_27 (wl_app wlc_28 (wl_app wlc_29 (wl_app wlc_30 (wl_app wlc_31 (wl_app wlc_32 (wl_app wlc_33 (wl_app wlc_34 (wl_app wlc_35 (wl_app wlc_36 (wl_app wlc_37 (wl_app wlc_38 (wl_app wlc_39 (wl_app wlc_40 (wl_app wlc_41 (wl_app wlc_42 (wl_app wlc_43 (wl_app wlc_44 (wl_app wlc_45 (wl_app wlc_46 (wl_app wlc_47 wlc_48))))))))))))))))))))))))))))))))))))))))))))))) wlt_wsX80) wlt_wsX90) wlt_wsX30) wlt_wsX50) wlt_wsX60) wlt_wsX40) wlt_wsX10) wlt_wsX20) (fun _ h => nomatch h))
set_option maxRecDepth 20000 in
theorem wsL_law_x0 : ∀ w ∈ (vx_at0 RX8 151 "java/util/NoSuchElementException" ["java/lang/RuntimeException", "java/lang/Exception"]).filter goodWord, w ∈ lw_tbl := by decide +kernel
theorem wsL_law_in : ∀ w ∈ wsL_law, w ∈ lw_tbl := fun w h => (List.mem_append.mp h).elim (fun h => wsL_law_in0 w h) (fun h => wsL_law_x0 w h)
