theorem run_duchy : runsB (pr3 2 bx_duchy.1 bx_duchy.2.1 bx_duchy.2.2) = true := by decide +kernel
theorem run_now : runsB (pr3 10 bx_now.1 bx_now.2.1 bx_now.2.2) = true := by decide +kernel
theorem run_book : runsB (pr3 35 bx_book.1 bx_book.2.1 bx_book.2.2) = true := by decide +kernel
theorem run_image : runsB (pr3 39 bx_image.1 bx_image.2.1 bx_image.2.2) = true := by decide +kernel
