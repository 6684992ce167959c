def bx_feed : List AI × (List AI × List AI) := ([(-2147483648, 2147483647)], ([(-2147483648, 2147483647)], [(-2147483648, 2147483647)]))
theorem cv_feed : covF (-2147483648) bx_feed.1 = true ∧ covF (-2147483648) bx_feed.2.1 = true ∧ covF (-2147483648) bx_feed.2.2 = true := by decide +kernel
def bx_end : List AI × (List AI × List AI) := ([(-2147483648, -1), (0, 0), (1, 2147483647)], ([(-2147483648, 2147483647)], [(-2147483648, 2147483647)]))
theorem cv_end : covF (-2147483648) bx_end.1 = true ∧ covF (-2147483648) bx_end.2.1 = true ∧ covF (-2147483648) bx_end.2.2 = true := by decide +kernel
def bx_duchy : List AI × (List AI × List AI) := ([(-2147483648, 2147483647)], ([(-2147483648, 2147483647)], [(-2147483648, 2147483647)]))
theorem cv_duchy : covF (-2147483648) bx_duchy.1 = true ∧ covF (-2147483648) bx_duchy.2.1 = true ∧ covF (-2147483648) bx_duchy.2.2 = true := by decide +kernel
def bx_fault : List AI × (List AI × List AI) := ([(-2147483648, 2147483647)], ([(-2147483648, 2147483647)], [(-2147483648, 2147483647)]))
theorem cv_fault : covF (-2147483648) bx_fault.1 = true ∧ covF (-2147483648) bx_fault.2.1 = true ∧ covF (-2147483648) bx_fault.2.2 = true := by decide +kernel
def bx_cost : List AI × (List AI × List AI) := ([(-2147483648, -1), (0, 2147483647)], ([(-2147483648, 2147483647)], [(-2147483648, 2147483647)]))
theorem cv_cost : covF (-2147483648) bx_cost.1 = true ∧ covF (-2147483648) bx_cost.2.1 = true ∧ covF (-2147483648) bx_cost.2.2 = true := by decide +kernel
def bx_times : List AI × (List AI × List AI) := ([(-2147483648, -1), (0, 2147483647)], ([(-2147483648, 2147483647)], [(-2147483648, 2147483647)]))
theorem cv_times : covF (-2147483648) bx_times.1 = true ∧ covF (-2147483648) bx_times.2.1 = true ∧ covF (-2147483648) bx_times.2.2 = true := by decide +kernel
def bx_bought : List AI × (List AI × List AI) := ([(-2147483648, -1), (0, 2147483647)], ([(-2147483648, 2147483647)], [(-2147483648, 2147483647)]))
theorem cv_bought : covF (-2147483648) bx_bought.1 = true ∧ covF (-2147483648) bx_bought.2.1 = true ∧ covF (-2147483648) bx_bought.2.2 = true := by decide +kernel
def bx_good : List AI × (List AI × List AI) := ([(-2147483648, -1), (0, 2147483647)], ([(-2147483648, 2147483647)], [(-2147483648, 2147483647)]))
theorem cv_good : covF (-2147483648) bx_good.1 = true ∧ covF (-2147483648) bx_good.2.1 = true ∧ covF (-2147483648) bx_good.2.2 = true := by decide +kernel
def bx_owes : List AI × (List AI × List AI) := ([(-2147483648, -1), (0, 2147483647)], ([(-2147483648, 2147483647)], [(-2147483648, 2147483647)]))
theorem cv_owes : covF (-2147483648) bx_owes.1 = true ∧ covF (-2147483648) bx_owes.2.1 = true ∧ covF (-2147483648) bx_owes.2.2 = true := by decide +kernel
def bx_now : List AI × (List AI × List AI) := ([(-2147483648, -1), (0, 0), (1, 1), (2, 2), (3, 3), (4, 4), (5, 5), (6, 2147483647)], ([(-2147483648, 2147483647)], [(-2147483648, 2147483647)]))
theorem cv_now : covF (-2147483648) bx_now.1 = true ∧ covF (-2147483648) bx_now.2.1 = true ∧ covF (-2147483648) bx_now.2.2 = true := by decide +kernel
def bx_forfeit : List AI × (List AI × List AI) := ([(-2147483648, -1), (0, 2147483647)], ([(-2147483648, 2147483647)], [(-2147483648, 2147483647)]))
theorem cv_forfeit : covF (-2147483648) bx_forfeit.1 = true ∧ covF (-2147483648) bx_forfeit.2.1 = true ∧ covF (-2147483648) bx_forfeit.2.2 = true := by decide +kernel
def bx_buy : List AI × (List AI × List AI) := ([(-2147483648, -1), (0, 2147483647)], ([(-2147483648, 2147483647)], [(-2147483648, 2147483647)]))
theorem cv_buy : covF (-2147483648) bx_buy.1 = true ∧ covF (-2147483648) bx_buy.2.1 = true ∧ covF (-2147483648) bx_buy.2.2 = true := by decide +kernel
def bx_lend : List AI × (List AI × List AI) := ([(-2147483648, -1), (0, 2147483647)], ([(-2147483648, 2147483647)], [(-2147483648, 2147483647)]))
theorem cv_lend : covF (-2147483648) bx_lend.1 = true ∧ covF (-2147483648) bx_lend.2.1 = true ∧ covF (-2147483648) bx_lend.2.2 = true := by decide +kernel
def bx_repay : List AI × (List AI × List AI) := ([(-2147483648, -1), (0, 2147483647)], ([(-2147483648, 2147483647)], [(-2147483648, 2147483647)]))
theorem cv_repay : covF (-2147483648) bx_repay.1 = true ∧ covF (-2147483648) bx_repay.2.1 = true ∧ covF (-2147483648) bx_repay.2.2 = true := by decide +kernel
def bx_strike : List AI × (List AI × List AI) := ([(-2147483648, 2147483647)], ([(-2147483648, 2147483647)], [(-2147483648, 2147483647)]))
theorem cv_strike : covF (-2147483648) bx_strike.1 = true ∧ covF (-2147483648) bx_strike.2.1 = true ∧ covF (-2147483648) bx_strike.2.2 = true := by decide +kernel
def bx_weeks : List AI × (List AI × List AI) := ([(-2147483648, 0), (1, 1), (2, 2), (3, 3), (4, 4), (5, 5), (6, 6), (7, 7), (8, 8), (9, 9), (10, 10), (11, 11), (12, 12), (13, 13), (14, 14), (15, 15), (16, 16), (17, 17), (18, 18), (19, 19), (20, 20), (21, 21), (22, 22), (23, 23), (24, 24), (25, 25), (26, 26), (27, 27), (28, 28), (29, 29), (30, 30), (31, 31), (32, 32), (33, 33), (34, 34), (35, 35), (36, 36), (37, 37), (38, 38), (39, 39), (40, 40), (41, 41), (42, 42), (43, 43), (44, 44), (45, 45), (46, 46), (47, 47), (48, 48), (49, 49), (50, 50), (51, 51), (52, 52), (53, 53), (54, 54), (55, 55), (56, 56), (57, 57), (58, 58), (59, 59), (60, 60), (61, 2147483647)], ([(-2147483648, 2147483647)], [(-2147483648, 2147483647)]))
theorem cv_weeks : covF (-2147483648) bx_weeks.1 = true ∧ covF (-2147483648) bx_weeks.2.1 = true ∧ covF (-2147483648) bx_weeks.2.2 = true := by decide +kernel
def bx_undo : List AI × (List AI × List AI) := ([(-2147483648, 2147483647)], ([(-2147483648, 2147483647)], [(-2147483648, 2147483647)]))
theorem cv_undo : covF (-2147483648) bx_undo.1 = true ∧ covF (-2147483648) bx_undo.2.1 = true ∧ covF (-2147483648) bx_undo.2.2 = true := by decide +kernel
def bx_ring : List AI × (List AI × List AI) := ([(-2147483648, 2147483647)], ([(-2147483648, 2147483647)], [(-2147483648, 2147483647)]))
theorem cv_ring : covF (-2147483648) bx_ring.1 = true ∧ covF (-2147483648) bx_ring.2.1 = true ∧ covF (-2147483648) bx_ring.2.2 = true := by decide +kernel
def bx_ringAt : List AI × (List AI × List AI) := ([(-2147483648, -1), (0, 2147483647)], ([(-2147483648, 2147483647)], [(-2147483648, 2147483647)]))
theorem cv_ringAt : covF (-2147483648) bx_ringAt.1 = true ∧ covF (-2147483648) bx_ringAt.2.1 = true ∧ covF (-2147483648) bx_ringAt.2.2 = true := by decide +kernel
def bx_plan : List AI × (List AI × List AI) := ([(-2147483648, -1), (0, 2147483647)], ([(-2147483648, 2147483647)], [(-2147483648, 2147483647)]))
theorem cv_plan : covF (-2147483648) bx_plan.1 = true ∧ covF (-2147483648) bx_plan.2.1 = true ∧ covF (-2147483648) bx_plan.2.2 = true := by decide +kernel
def bx_planned : List AI × (List AI × List AI) := ([(-2147483648, -1), (0, 2147483647)], ([(-2147483648, 2147483647)], [(-2147483648, 2147483647)]))
theorem cv_planned : covF (-2147483648) bx_planned.1 = true ∧ covF (-2147483648) bx_planned.2.1 = true ∧ covF (-2147483648) bx_planned.2.2 = true := by decide +kernel
def bx_lasts : List AI × (List AI × List AI) := ([(-2147483648, -1), (0, 2147483647)], ([(-2147483648, 2147483647)], [(-2147483648, 2147483647)]))
theorem cv_lasts : covF (-2147483648) bx_lasts.1 = true ∧ covF (-2147483648) bx_lasts.2.1 = true ∧ covF (-2147483648) bx_lasts.2.2 = true := by decide +kernel
def bx_worth : List AI × (List AI × List AI) := ([(-2147483648, -1), (0, 2147483647)], ([(-2147483648, 2147483647)], [(-2147483648, 2147483647)]))
theorem cv_worth : covF (-2147483648) bx_worth.1 = true ∧ covF (-2147483648) bx_worth.2.1 = true ∧ covF (-2147483648) bx_worth.2.2 = true := by decide +kernel
def bx_even : List AI × (List AI × List AI) := ([(-2147483648, 2147483647)], ([(-2147483648, 2147483647)], [(-2147483648, 2147483647)]))
theorem cv_even : covF (-2147483648) bx_even.1 = true ∧ covF (-2147483648) bx_even.2.1 = true ∧ covF (-2147483648) bx_even.2.2 = true := by decide +kernel
def bx_fits : List AI × (List AI × List AI) := ([(-2147483648, 2147483647)], ([(-2147483648, 2147483647)], [(-2147483648, 2147483647)]))
theorem cv_fits : covF (-2147483648) bx_fits.1 = true ∧ covF (-2147483648) bx_fits.2.1 = true ∧ covF (-2147483648) bx_fits.2.2 = true := by decide +kernel
def bx_tells : List AI × (List AI × List AI) := ([(-2147483648, 2147483647)], ([(-2147483648, 2147483647)], [(-2147483648, 2147483647)]))
theorem cv_tells : covF (-2147483648) bx_tells.1 = true ∧ covF (-2147483648) bx_tells.2.1 = true ∧ covF (-2147483648) bx_tells.2.2 = true := by decide +kernel
def bx_share : List AI × (List AI × List AI) := ([(-2147483648, -1), (0, 999), (1000, 2147483647)], ([(-2147483648, -1), (0, 0), (1, 2147483647)], [(-2147483648, -1), (0, 2147483647)]))
theorem cv_share : covF (-2147483648) bx_share.1 = true ∧ covF (-2147483648) bx_share.2.1 = true ∧ covF (-2147483648) bx_share.2.2 = true := by decide +kernel
def bx_tax : List AI × (List AI × List AI) := ([(-2147483648, -1), (0, 0), (1, 120), (121, 200), (201, 2147483647)], ([(-2147483648, 2147483647)], [(-2147483648, 2147483647)]))
theorem cv_tax : covF (-2147483648) bx_tax.1 = true ∧ covF (-2147483648) bx_tax.2.1 = true ∧ covF (-2147483648) bx_tax.2.2 = true := by decide +kernel
def bx_taxOf : List AI × (List AI × List AI) := ([(-2147483648, -1), (0, 2147483647)], ([(-2147483648, 2147483647)], [(-2147483648, 2147483647)]))
theorem cv_taxOf : covF (-2147483648) bx_taxOf.1 = true ∧ covF (-2147483648) bx_taxOf.2.1 = true ∧ covF (-2147483648) bx_taxOf.2.2 = true := by decide +kernel
def bx_proudest : List AI × (List AI × List AI) := ([(-2147483648, 2147483647)], ([(-2147483648, 2147483647)], [(-2147483648, 2147483647)]))
theorem cv_proudest : covF (-2147483648) bx_proudest.1 = true ∧ covF (-2147483648) bx_proudest.2.1 = true ∧ covF (-2147483648) bx_proudest.2.2 = true := by decide +kernel
def bx_list : List AI × (List AI × List AI) := ([(-2147483648, -1), (0, 2147483647)], ([(-2147483648, 2147483647)], [(-2147483648, 2147483647)]))
theorem cv_list : covF (-2147483648) bx_list.1 = true ∧ covF (-2147483648) bx_list.2.1 = true ∧ covF (-2147483648) bx_list.2.2 = true := by decide +kernel
def bx_byteAt : List AI × (List AI × List AI) := ([(-2147483648, -1), (0, 2147483647)], ([(-2147483648, 2147483647)], [(-2147483648, 2147483647)]))
theorem cv_byteAt : covF (-2147483648) bx_byteAt.1 = true ∧ covF (-2147483648) bx_byteAt.2.1 = true ∧ covF (-2147483648) bx_byteAt.2.2 = true := by decide +kernel
def bx_drawn : List AI × (List AI × List AI) := ([(-2147483648, 0), (1, 60), (61, 2147483647)], ([(-2147483648, 2147483647)], [(-2147483648, 2147483647)]))
theorem cv_drawn : covF (-2147483648) bx_drawn.1 = true ∧ covF (-2147483648) bx_drawn.2.1 = true ∧ covF (-2147483648) bx_drawn.2.2 = true := by decide +kernel
def bx_odds : List AI × (List AI × List AI) := ([(-2147483648, -1), (0, 2147483647)], ([(-2147483648, 2147483647)], [(-2147483648, 2147483647)]))
theorem cv_odds : covF (-2147483648) bx_odds.1 = true ∧ covF (-2147483648) bx_odds.2.1 = true ∧ covF (-2147483648) bx_odds.2.2 = true := by decide +kernel
def bx_book : List AI × (List AI × List AI) := ([(-2147483648, -1), (0, 0), (1, 1), (2, 2147483647)], ([(-2147483648, 2147483647)], [(-2147483648, 2147483647)]))
theorem cv_book : covF (-2147483648) bx_book.1 = true ∧ covF (-2147483648) bx_book.2.1 = true ∧ covF (-2147483648) bx_book.2.2 = true := by decide +kernel
def bx_told : List AI × (List AI × List AI) := ([(-2147483648, -1), (0, 2147483647)], ([(-2147483648, 2147483647)], [(-2147483648, 2147483647)]))
theorem cv_told : covF (-2147483648) bx_told.1 = true ∧ covF (-2147483648) bx_told.2.1 = true ∧ covF (-2147483648) bx_told.2.2 = true := by decide +kernel
def bx_sentence : List AI × (List AI × List AI) := ([(-2147483648, 2147483647)], ([(-2147483648, 2147483647)], [(-2147483648, 2147483647)]))
theorem cv_sentence : covF (-2147483648) bx_sentence.1 = true ∧ covF (-2147483648) bx_sentence.2.1 = true ∧ covF (-2147483648) bx_sentence.2.2 = true := by decide +kernel
def bx_said : List AI × (List AI × List AI) := ([(-2147483648, 2147483647)], ([(-2147483648, 2147483647)], [(-2147483648, 2147483647)]))
theorem cv_said : covF (-2147483648) bx_said.1 = true ∧ covF (-2147483648) bx_said.2.1 = true ∧ covF (-2147483648) bx_said.2.2 = true := by decide +kernel
def bx_image : List AI × (List AI × List AI) := ([(-2147483648, -1), (0, 0), (1, 1), (2, 2147483647)], ([(-2147483648, 2147483647)], [(-2147483648, 2147483647)]))
theorem cv_image : covF (-2147483648) bx_image.1 = true ∧ covF (-2147483648) bx_image.2.1 = true ∧ covF (-2147483648) bx_image.2.2 = true := by decide +kernel
def bx_restore : List AI × (List AI × List AI) := ([(-2147483648, -1), (0, 0), (1, 1), (2, 2147483647)], ([(-2147483648, 2147483647)], [(-2147483648, 2147483647)]))
theorem cv_restore : covF (-2147483648) bx_restore.1 = true ∧ covF (-2147483648) bx_restore.2.1 = true ∧ covF (-2147483648) bx_restore.2.2 = true := by decide +kernel
def bx_count : List AI × (List AI × List AI) := ([(-2147483648, -1), (0, 0), (1, 1), (2, 2), (3, 3), (4, 4), (5, 5), (6, 2147483647)], ([(-2147483648, 2147483647)], [(-2147483648, 2147483647)]))
theorem cv_count : covF (-2147483648) bx_count.1 = true ∧ covF (-2147483648) bx_count.2.1 = true ∧ covF (-2147483648) bx_count.2.2 = true := by decide +kernel
def bx_default : List AI × (List AI × List AI) := ([(-2147483648, 2147483647)], ([(-2147483648, 2147483647)], [(-2147483648, 2147483647)]))
theorem cv_default : covF (-2147483648) bx_default.1 = true ∧ covF (-2147483648) bx_default.2.1 = true ∧ covF (-2147483648) bx_default.2.2 = true := by decide +kernel
def rsA : List (Nat × (AI × (AI × AI))) := pr3 0 bx_feed.1 bx_feed.2.1 bx_feed.2.2 ++ (pr3 1 bx_end.1 bx_end.2.1 bx_end.2.2 ++ (pr3 3 bx_fault.1 bx_fault.2.1 bx_fault.2.2 ++ (pr3 5 bx_cost.1 bx_cost.2.1 bx_cost.2.2 ++ (pr3 6 bx_times.1 bx_times.2.1 bx_times.2.2 ++ (pr3 7 bx_bought.1 bx_bought.2.1 bx_bought.2.2 ++ (pr3 8 bx_good.1 bx_good.2.1 bx_good.2.2 ++ (pr3 9 bx_owes.1 bx_owes.2.1 bx_owes.2.2 ++ (pr3 11 bx_forfeit.1 bx_forfeit.2.1 bx_forfeit.2.2 ++ (pr3 12 bx_buy.1 bx_buy.2.1 bx_buy.2.2 ++ (pr3 13 bx_lend.1 bx_lend.2.1 bx_lend.2.2 ++ (pr3 14 bx_repay.1 bx_repay.2.1 bx_repay.2.2 ++ (pr3 15 bx_strike.1 bx_strike.2.1 bx_strike.2.2 ++ (pr3 17 bx_undo.1 bx_undo.2.1 bx_undo.2.2 ++ (pr3 18 bx_ring.1 bx_ring.2.1 bx_ring.2.2 ++ (pr3 19 bx_ringAt.1 bx_ringAt.2.1 bx_ringAt.2.2 ++ (pr3 20 bx_plan.1 bx_plan.2.1 bx_plan.2.2 ++ (pr3 21 bx_planned.1 bx_planned.2.1 bx_planned.2.2 ++ (pr3 22 bx_lasts.1 bx_lasts.2.1 bx_lasts.2.2 ++ (pr3 23 bx_worth.1 bx_worth.2.1 bx_worth.2.2 ++ (pr3 24 bx_even.1 bx_even.2.1 bx_even.2.2 ++ (pr3 25 bx_fits.1 bx_fits.2.1 bx_fits.2.2 ++ (pr3 26 bx_tells.1 bx_tells.2.1 bx_tells.2.2 ++ (pr3 27 bx_share.1 bx_share.2.1 bx_share.2.2 ++ (pr3 29 bx_taxOf.1 bx_taxOf.2.1 bx_taxOf.2.2 ++ (pr3 30 bx_proudest.1 bx_proudest.2.1 bx_proudest.2.2 ++ (pr3 31 bx_list.1 bx_list.2.1 bx_list.2.2 ++ (pr3 32 bx_byteAt.1 bx_byteAt.2.1 bx_byteAt.2.2 ++ (pr3 33 bx_drawn.1 bx_drawn.2.1 bx_drawn.2.2 ++ (pr3 34 bx_odds.1 bx_odds.2.1 bx_odds.2.2 ++ (pr3 36 bx_told.1 bx_told.2.1 bx_told.2.2 ++ (pr3 37 bx_sentence.1 bx_sentence.2.1 bx_sentence.2.2 ++ (pr3 38 bx_said.1 bx_said.2.1 bx_said.2.2 ++ (pr3 40 bx_restore.1 bx_restore.2.1 bx_restore.2.2 ++ (pr3 41 bx_count.1 bx_count.2.1 bx_count.2.2 ++ (pr3 42 bx_default.1 bx_default.2.1 bx_default.2.2)))))))))))))))))))))))))))))))))))
theorem run_A : runsB rsA = true := by decide +kernel
