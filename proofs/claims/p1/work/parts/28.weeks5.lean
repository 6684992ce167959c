def wk_5_0 : List AI := [(40, 40), (41, 41)]
theorem run_weeks_5_0 : runsB (pr3 16 wk_5_0 [(-2147483648, 2147483647)] [(-2147483648, 2147483647)]) = true := by decide +kernel
def wk_5_1 : List AI := [(42, 42), (43, 43)]
theorem run_weeks_5_1 : runsB (pr3 16 wk_5_1 [(-2147483648, 2147483647)] [(-2147483648, 2147483647)]) = true := by decide +kernel
def wk_5_2 : List AI := [(44, 44), (45, 45)]
theorem run_weeks_5_2 : runsB (pr3 16 wk_5_2 [(-2147483648, 2147483647)] [(-2147483648, 2147483647)]) = true := by decide +kernel
def wk_5_3 : List AI := [(46, 46), (47, 47)]
theorem run_weeks_5_3 : runsB (pr3 16 wk_5_3 [(-2147483648, 2147483647)] [(-2147483648, 2147483647)]) = true := by decide +kernel
