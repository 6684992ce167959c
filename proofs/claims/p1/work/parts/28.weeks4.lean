def wk_4_0 : List AI := [(32, 32), (33, 33), (34, 34), (35, 35)]
theorem run_weeks_4_0 : runsB (pr3 16 wk_4_0 [(-2147483648, 2147483647)] [(-2147483648, 2147483647)]) = true := by decide +kernel
def wk_4_1 : List AI := [(36, 36), (37, 37), (38, 38), (39, 39)]
theorem run_weeks_4_1 : runsB (pr3 16 wk_4_1 [(-2147483648, 2147483647)] [(-2147483648, 2147483647)]) = true := by decide +kernel
