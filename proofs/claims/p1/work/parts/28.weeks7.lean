def wk_7_0 : List AI := [(56, 56), (57, 57)]
theorem run_weeks_7_0 : runsB (pr3 16 wk_7_0 [(-2147483648, 2147483647)] [(-2147483648, 2147483647)]) = true := by decide +kernel
def wk_7_1 : List AI := [(58, 58), (59, 59)]
theorem run_weeks_7_1 : runsB (pr3 16 wk_7_1 [(-2147483648, 2147483647)] [(-2147483648, 2147483647)]) = true := by decide +kernel
def wk_7_2 : List AI := [(60, 60), (61, 2147483647)]
theorem run_weeks_7_2 : runsB (pr3 16 wk_7_2 [(-2147483648, 2147483647)] [(-2147483648, 2147483647)]) = true := by decide +kernel
