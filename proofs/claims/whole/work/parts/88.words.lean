set_option maxRecDepth 100000 in
theorem wlw_0 : Cond.initialized RX5 ∈ wsL_law := by decide +kernel
set_option maxRecDepth 100000 in
theorem wlw_1 : Cond.methodLink RL 9 yX5_init ∈ wsL_law := by decide +kernel
set_option maxRecDepth 100000 in
theorem wlw_2 : Cond.instanceMethod yX5_init ∈ wsL_law := by decide +kernel
set_option maxRecDepth 100000 in
theorem wlw_3 : Cond.classLink RL 7 RX5 ∈ wsL_law := by decide +kernel
set_option maxRecDepth 100000 in
theorem wlw_4 : Cond.instantiable RX5 9 ∈ wsL_law := by decide +kernel
set_option maxRecDepth 100000 in
theorem wlw_5 : Cond.initialized RX6 ∈ wsL_law := by decide +kernel
set_option maxRecDepth 100000 in
theorem wlw_6 : Cond.methodLink RL 12 yX6_init ∈ wsL_law := by decide +kernel
set_option maxRecDepth 100000 in
theorem wlw_7 : Cond.instanceMethod yX6_init ∈ wsL_law := by decide +kernel
set_option maxRecDepth 100000 in
theorem wlw_8 : Cond.classLink RL 10 RX6 ∈ wsL_law := by decide +kernel
set_option maxRecDepth 100000 in
theorem wlw_9 : Cond.instantiable RX6 17 ∈ wsL_law := by decide +kernel
set_option maxRecDepth 100000 in
theorem wnw_0 : Cond.methodLinkNest RX2 18 yX5_bit RX5 ∈ lw_tbl := by decide +kernel
set_option maxRecDepth 100000 in
theorem wnw_1 : Cond.methodLinkNest RX4 38 yX5_lowest RX5 ∈ lw_tbl := by decide +kernel
set_option maxRecDepth 100000 in
theorem wnw_2 : Cond.methodLinkNest RX4 42 yX5_bit RX5 ∈ lw_tbl := by decide +kernel
set_option maxRecDepth 100000 in
theorem wnw_3 : Cond.methodLinkNest RX3 25 yX5_bit RX5 ∈ lw_tbl := by decide +kernel
set_option maxRecDepth 100000 in
theorem wnw_4 : Cond.methodLinkNest RX1 110 yX5_bit RX5 ∈ lw_tbl := by decide +kernel
set_option maxRecDepth 100000 in
theorem wnw_5 : Cond.methodLinkNest RX5 11 yX2_init RX5 ∈ lw_tbl := by decide +kernel
set_option maxRecDepth 100000 in
theorem wnw_6 : Cond.methodLinkNest RX5 18 yX0_init RX5 ∈ lw_tbl := by decide +kernel
set_option maxRecDepth 100000 in
theorem wnw_7 : Cond.methodLinkNest RX5 25 yX4_init RX5 ∈ lw_tbl := by decide +kernel
set_option maxRecDepth 100000 in
theorem wnw_8 : Cond.methodLinkNest RX5 32 yX1_init RX5 ∈ lw_tbl := by decide +kernel
set_option maxRecDepth 100000 in
theorem wix_0 : Cond.instantiable RX0 3 ∈ lw_tbl := by decide +kernel
set_option maxRecDepth 100000 in
theorem wix_1 : Cond.instantiable RX1 15 ∈ lw_tbl := by decide +kernel
set_option maxRecDepth 100000 in
theorem wix_2 : Cond.instantiable RX2 7 ∈ lw_tbl := by decide +kernel
set_option maxRecDepth 100000 in
theorem wix_3 : Cond.instantiable RX3 1 ∈ lw_tbl := by decide +kernel
set_option maxRecDepth 100000 in
theorem wix_4 : Cond.instantiable RX4 3 ∈ lw_tbl := by decide +kernel
set_option maxRecDepth 100000 in
theorem wix_5 : Cond.instantiable RX5 9 ∈ lw_tbl := by decide +kernel
set_option maxRecDepth 100000 in
theorem wix_6 : Cond.instantiable RX6 17 ∈ lw_tbl := by decide +kernel
set_option maxRecDepth 100000 in
theorem war_int : Cond.arrayClass .int ∈ lw_tbl := by decide +kernel
set_option maxRecDepth 100000 in
theorem war_long : Cond.arrayClass .long ∈ lw_tbl := by decide +kernel
set_option maxRecDepth 100000 in
theorem war_boolean : Cond.arrayClass .boolean ∈ lw_tbl := by decide +kernel
