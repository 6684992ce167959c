def wk_6_0 : List AI := [(48, 48), (49, 49)]
theorem run_weeks_6_0 : runsB (pr3 16 wk_6_0 [(-2147483648, 2147483647)] [(-2147483648, 2147483647)]) = true := by decide +kernel
def wk_6_1 : List AI := [(50, 50), (51, 51)]
theorem run_weeks_6_1 : runsB (pr3 16 wk_6_1 [(-2147483648, 2147483647)] [(-2147483648, 2147483647)]) = true := by decide +kernel
def wk_6_2 : List AI := [(52, 52), (53, 53)]
theorem run_weeks_6_2 : runsB (pr3 16 wk_6_2 [(-2147483648, 2147483647)] [(-2147483648, 2147483647)]) = true := by decide +kernel
def wk_6_3 : List AI := [(54, 54), (55, 55)]
theorem run_weeks_6_3 : runsB (pr3 16 wk_6_3 [(-2147483648, 2147483647)] [(-2147483648, 2147483647)]) = true := by decide +kernel
