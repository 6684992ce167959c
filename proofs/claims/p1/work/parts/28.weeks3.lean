def wk_3_0 : List AI := [(24, 24), (25, 25), (26, 26), (27, 27)]
theorem run_weeks_3_0 : runsB (pr3 16 wk_3_0 [(-2147483648, 2147483647)] [(-2147483648, 2147483647)]) = true := by decide +kernel
def wk_3_1 : List AI := [(28, 28), (29, 29), (30, 30), (31, 31)]
theorem run_weeks_3_1 : runsB (pr3 16 wk_3_1 [(-2147483648, 2147483647)] [(-2147483648, 2147483647)]) = true := by decide +kernel
