set_option maxRecDepth 20000 in
theorem ggX0_isInterval_X7_isBetween : GoodIn wsX0_isInterval wsX7_isBetween := goodIn_r _ [3] (by decide +kernel) (by decide +kernel)
set_option maxRecDepth 20000 in
theorem gX0_isInterval_X7_isBetween_n9 : GoodIn wsX0_isInterval (wsX7_isBetween) := ggX0_isInterval_X7_isBetween
