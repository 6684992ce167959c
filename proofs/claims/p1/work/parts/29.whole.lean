theorem run_taxb : runsB (pr3 28 [(-2147483648, -1), (0, 0), (121, 200), (201, 2147483647)] [(-2147483648, 2147483647)] [(-2147483648, 2147483647)]) = true := by decide +kernel
theorem sr_feed : ∀ i ∈ bx_feed.1, ∀ j ∈ bx_feed.2.1, ∀ q ∈ bx_feed.2.2, chk 0 (fb (i, (j, q))) hS = true := fun i hi j hj q hq => runs_get run_A (r := (0, (i, (j, q)))) (List.mem_append_left _ (pr3_mem hi hj hq))
theorem sr_end : ∀ i ∈ bx_end.1, ∀ j ∈ bx_end.2.1, ∀ q ∈ bx_end.2.2, chk 1 (fb (i, (j, q))) hS = true := fun i hi j hj q hq => runs_get run_A (r := (1, (i, (j, q)))) (List.mem_append_right _ (List.mem_append_left _ (pr3_mem hi hj hq)))
theorem sr_fault : ∀ i ∈ bx_fault.1, ∀ j ∈ bx_fault.2.1, ∀ q ∈ bx_fault.2.2, chk 3 (fb (i, (j, q))) hS = true := fun i hi j hj q hq => runs_get run_A (r := (3, (i, (j, q)))) (List.mem_append_right _ (List.mem_append_right _ (List.mem_append_left _ (pr3_mem hi hj hq))))
theorem sr_cost : ∀ i ∈ bx_cost.1, ∀ j ∈ bx_cost.2.1, ∀ q ∈ bx_cost.2.2, chk 5 (fb (i, (j, q))) hS = true := fun i hi j hj q hq => runs_get run_A (r := (5, (i, (j, q)))) (List.mem_append_right _ (List.mem_append_right _ (List.mem_append_right _ (List.mem_append_left _ (pr3_mem hi hj hq)))))
theorem sr_times : ∀ i ∈ bx_times.1, ∀ j ∈ bx_times.2.1, ∀ q ∈ bx_times.2.2, chk 6 (fb (i, (j, q))) hS = true := fun i hi j hj q hq => runs_get run_A (r := (6, (i, (j, q)))) (List.mem_append_right _ (List.mem_append_right _ (List.mem_append_right _ (List.mem_append_right _ (List.mem_append_left _ (pr3_mem hi hj hq))))))
theorem sr_bought : ∀ i ∈ bx_bought.1, ∀ j ∈ bx_bought.2.1, ∀ q ∈ bx_bought.2.2, chk 7 (fb (i, (j, q))) hS = true := fun i hi j hj q hq => runs_get run_A (r := (7, (i, (j, q)))) (List.mem_append_right _ (List.mem_append_right _ (List.mem_append_right _ (List.mem_append_right _ (List.mem_append_right _ (List.mem_append_left _ (pr3_mem hi hj hq)))))))
theorem sr_good : ∀ i ∈ bx_good.1, ∀ j ∈ bx_good.2.1, ∀ q ∈ bx_good.2.2, chk 8 (fb (i, (j, q))) hS = true := fun i hi j hj q hq => runs_get run_A (r := (8, (i, (j, q)))) (List.mem_append_right _ (List.mem_append_right _ (List.mem_append_right _ (List.mem_append_right _ (List.mem_append_right _ (List.mem_append_right _ (List.mem_append_left _ (pr3_mem hi hj hq))))))))
theorem sr_owes : ∀ i ∈ bx_owes.1, ∀ j ∈ bx_owes.2.1, ∀ q ∈ bx_owes.2.2, chk 9 (fb (i, (j, q))) hS = true := fun i hi j hj q hq => runs_get run_A (r := (9, (i, (j, q)))) (List.mem_append_right _ (List.mem_append_right _ (List.mem_append_right _ (List.mem_append_right _ (List.mem_append_right _ (List.mem_append_right _ (List.mem_append_right _ (List.mem_append_left _ (pr3_mem hi hj hq)))))))))
theorem sr_forfeit : ∀ i ∈ bx_forfeit.1, ∀ j ∈ bx_forfeit.2.1, ∀ q ∈ bx_forfeit.2.2, chk 11 (fb (i, (j, q))) hS = true := fun i hi j hj q hq => runs_get run_A (r := (11, (i, (j, q)))) (List.mem_append_right _ (List.mem_append_right _ (List.mem_append_right _ (List.mem_append_right _ (List.mem_append_right _ (List.mem_append_right _ (List.mem_append_right _ (List.mem_append_right _ (List.mem_append_left _ (pr3_mem hi hj hq))))))))))
theorem sr_buy : ∀ i ∈ bx_buy.1, ∀ j ∈ bx_buy.2.1, ∀ q ∈ bx_buy.2.2, chk 12 (fb (i, (j, q))) hS = true := fun i hi j hj q hq => runs_get run_A (r := (12, (i, (j, q)))) (List.mem_append_right _ (List.mem_append_right _ (List.mem_append_right _ (List.mem_append_right _ (List.mem_append_right _ (List.mem_append_right _ (List.mem_append_right _ (List.mem_append_right _ (List.mem_append_right _ (List.mem_append_left _ (pr3_mem hi hj hq)))))))))))
theorem sr_lend : ∀ i ∈ bx_lend.1, ∀ j ∈ bx_lend.2.1, ∀ q ∈ bx_lend.2.2, chk 13 (fb (i, (j, q))) hS = true := fun i hi j hj q hq => runs_get run_A (r := (13, (i, (j, q)))) (List.mem_append_right _ (List.mem_append_right _ (List.mem_append_right _ (List.mem_append_right _ (List.mem_append_right _ (List.mem_append_right _ (List.mem_append_right _ (List.mem_append_right _ (List.mem_append_right _ (List.mem_append_right _ (List.mem_append_left _ (pr3_mem hi hj hq))))))))))))
theorem sr_repay : ∀ i ∈ bx_repay.1, ∀ j ∈ bx_repay.2.1, ∀ q ∈ bx_repay.2.2, chk 14 (fb (i, (j, q))) hS = true := fun i hi j hj q hq => runs_get run_A (r := (14, (i, (j, q)))) (List.mem_append_right _ (List.mem_append_right _ (List.mem_append_right _ (List.mem_append_right _ (List.mem_append_right _ (List.mem_append_right _ (List.mem_append_right _ (List.mem_append_right _ (List.mem_append_right _ (List.mem_append_right _ (List.mem_append_right _ (List.mem_append_left _ (pr3_mem hi hj hq)))))))))))))
theorem sr_strike : ∀ i ∈ bx_strike.1, ∀ j ∈ bx_strike.2.1, ∀ q ∈ bx_strike.2.2, chk 15 (fb (i, (j, q))) hS = true := fun i hi j hj q hq => runs_get run_A (r := (15, (i, (j, q)))) (List.mem_append_right _ (List.mem_append_right _ (List.mem_append_right _ (List.mem_append_right _ (List.mem_append_right _ (List.mem_append_right _ (List.mem_append_right _ (List.mem_append_right _ (List.mem_append_right _ (List.mem_append_right _ (List.mem_append_right _ (List.mem_append_right _ (List.mem_append_left _ (pr3_mem hi hj hq))))))))))))))
theorem sr_undo : ∀ i ∈ bx_undo.1, ∀ j ∈ bx_undo.2.1, ∀ q ∈ bx_undo.2.2, chk 17 (fb (i, (j, q))) hS = true := fun i hi j hj q hq => runs_get run_A (r := (17, (i, (j, q)))) (List.mem_append_right _ (List.mem_append_right _ (List.mem_append_right _ (List.mem_append_right _ (List.mem_append_right _ (List.mem_append_right _ (List.mem_append_right _ (List.mem_append_right _ (List.mem_append_right _ (List.mem_append_right _ (List.mem_append_right _ (List.mem_append_right _ (List.mem_append_right _ (List.mem_append_left _ (pr3_mem hi hj hq)))))))))))))))
theorem sr_ring : ∀ i ∈ bx_ring.1, ∀ j ∈ bx_ring.2.1, ∀ q ∈ bx_ring.2.2, chk 18 (fb (i, (j, q))) hS = true := fun i hi j hj q hq => runs_get run_A (r := (18, (i, (j, q)))) (List.mem_append_right _ (List.mem_append_right _ (List.mem_append_right _ (List.mem_append_right _ (List.mem_append_right _ (List.mem_append_right _ (List.mem_append_right _ (List.mem_append_right _ (List.mem_append_right _ (List.mem_append_right _ (List.mem_append_right _ (List.mem_append_right _ (List.mem_append_right _ (List.mem_append_right _ (List.mem_append_left _ (pr3_mem hi hj hq))))))))))))))))
theorem sr_ringAt : ∀ i ∈ bx_ringAt.1, ∀ j ∈ bx_ringAt.2.1, ∀ q ∈ bx_ringAt.2.2, chk 19 (fb (i, (j, q))) hS = true := fun i hi j hj q hq => runs_get run_A (r := (19, (i, (j, q)))) (List.mem_append_right _ (List.mem_append_right _ (List.mem_append_right _ (List.mem_append_right _ (List.mem_append_right _ (List.mem_append_right _ (List.mem_append_right _ (List.mem_append_right _ (List.mem_append_right _ (List.mem_append_right _ (List.mem_append_right _ (List.mem_append_right _ (List.mem_append_right _ (List.mem_append_right _ (List.mem_append_right _ (List.mem_append_left _ (pr3_mem hi hj hq)))))))))))))))))
theorem sr_plan : ∀ i ∈ bx_plan.1, ∀ j ∈ bx_plan.2.1, ∀ q ∈ bx_plan.2.2, chk 20 (fb (i, (j, q))) hS = true := fun i hi j hj q hq => runs_get run_A (r := (20, (i, (j, q)))) (List.mem_append_right _ (List.mem_append_right _ (List.mem_append_right _ (List.mem_append_right _ (List.mem_append_right _ (List.mem_append_right _ (List.mem_append_right _ (List.mem_append_right _ (List.mem_append_right _ (List.mem_append_right _ (List.mem_append_right _ (List.mem_append_right _ (List.mem_append_right _ (List.mem_append_right _ (List.mem_append_right _ (List.mem_append_right _ (List.mem_append_left _ (pr3_mem hi hj hq))))))))))))))))))
theorem sr_planned : ∀ i ∈ bx_planned.1, ∀ j ∈ bx_planned.2.1, ∀ q ∈ bx_planned.2.2, chk 21 (fb (i, (j, q))) hS = true := fun i hi j hj q hq => runs_get run_A (r := (21, (i, (j, q)))) (List.mem_append_right _ (List.mem_append_right _ (List.mem_append_right _ (List.mem_append_right _ (List.mem_append_right _ (List.mem_append_right _ (List.mem_append_right _ (List.mem_append_right _ (List.mem_append_right _ (List.mem_append_right _ (List.mem_append_right _ (List.mem_append_right _ (List.mem_append_right _ (List.mem_append_right _ (List.mem_append_right _ (List.mem_append_right _ (List.mem_append_right _ (List.mem_append_left _ (pr3_mem hi hj hq)))))))))))))))))))
theorem sr_lasts : ∀ i ∈ bx_lasts.1, ∀ j ∈ bx_lasts.2.1, ∀ q ∈ bx_lasts.2.2, chk 22 (fb (i, (j, q))) hS = true := fun i hi j hj q hq => runs_get run_A (r := (22, (i, (j, q)))) (List.mem_append_right _ (List.mem_append_right _ (List.mem_append_right _ (List.mem_append_right _ (List.mem_append_right _ (List.mem_append_right _ (List.mem_append_right _ (List.mem_append_right _ (List.mem_append_right _ (List.mem_append_right _ (List.mem_append_right _ (List.mem_append_right _ (List.mem_append_right _ (List.mem_append_right _ (List.mem_append_right _ (List.mem_append_right _ (List.mem_append_right _ (List.mem_append_right _ (List.mem_append_left _ (pr3_mem hi hj hq))))))))))))))))))))
theorem sr_worth : ∀ i ∈ bx_worth.1, ∀ j ∈ bx_worth.2.1, ∀ q ∈ bx_worth.2.2, chk 23 (fb (i, (j, q))) hS = true := fun i hi j hj q hq => runs_get run_A (r := (23, (i, (j, q)))) (List.mem_append_right _ (List.mem_append_right _ (List.mem_append_right _ (List.mem_append_right _ (List.mem_append_right _ (List.mem_append_right _ (List.mem_append_right _ (List.mem_append_right _ (List.mem_append_right _ (List.mem_append_right _ (List.mem_append_right _ (List.mem_append_right _ (List.mem_append_right _ (List.mem_append_right _ (List.mem_append_right _ (List.mem_append_right _ (List.mem_append_right _ (List.mem_append_right _ (List.mem_append_right _ (List.mem_append_left _ (pr3_mem hi hj hq)))))))))))))))))))))
theorem sr_even : ∀ i ∈ bx_even.1, ∀ j ∈ bx_even.2.1, ∀ q ∈ bx_even.2.2, chk 24 (fb (i, (j, q))) hS = true := fun i hi j hj q hq => runs_get run_A (r := (24, (i, (j, q)))) (List.mem_append_right _ (List.mem_append_right _ (List.mem_append_right _ (List.mem_append_right _ (List.mem_append_right _ (List.mem_append_right _ (List.mem_append_right _ (List.mem_append_right _ (List.mem_append_right _ (List.mem_append_right _ (List.mem_append_right _ (List.mem_append_right _ (List.mem_append_right _ (List.mem_append_right _ (List.mem_append_right _ (List.mem_append_right _ (List.mem_append_right _ (List.mem_append_right _ (List.mem_append_right _ (List.mem_append_right _ (List.mem_append_left _ (pr3_mem hi hj hq))))))))))))))))))))))
theorem sr_fits : ∀ i ∈ bx_fits.1, ∀ j ∈ bx_fits.2.1, ∀ q ∈ bx_fits.2.2, chk 25 (fb (i, (j, q))) hS = true := fun i hi j hj q hq => runs_get run_A (r := (25, (i, (j, q)))) (List.mem_append_right _ (List.mem_append_right _ (List.mem_append_right _ (List.mem_append_right _ (List.mem_append_right _ (List.mem_append_right _ (List.mem_append_right _ (List.mem_append_right _ (List.mem_append_right _ (List.mem_append_right _ (List.mem_append_right _ (List.mem_append_right _ (List.mem_append_right _ (List.mem_append_right _ (List.mem_append_right _ (List.mem_append_right _ (List.mem_append_right _ (List.mem_append_right _ (List.mem_append_right _ (List.mem_append_right _ (List.mem_append_right _ (List.mem_append_left _ (pr3_mem hi hj hq)))))))))))))))))))))))
theorem sr_tells : ∀ i ∈ bx_tells.1, ∀ j ∈ bx_tells.2.1, ∀ q ∈ bx_tells.2.2, chk 26 (fb (i, (j, q))) hS = true := fun i hi j hj q hq => runs_get run_A (r := (26, (i, (j, q)))) (List.mem_append_right _ (List.mem_append_right _ (List.mem_append_right _ (List.mem_append_right _ (List.mem_append_right _ (List.mem_append_right _ (List.mem_append_right _ (List.mem_append_right _ (List.mem_append_right _ (List.mem_append_right _ (List.mem_append_right _ (List.mem_append_right _ (List.mem_append_right _ (List.mem_append_right _ (List.mem_append_right _ (List.mem_append_right _ (List.mem_append_right _ (List.mem_append_right _ (List.mem_append_right _ (List.mem_append_right _ (List.mem_append_right _ (List.mem_append_right _ (List.mem_append_left _ (pr3_mem hi hj hq))))))))))))))))))))))))
theorem sr_share : ∀ i ∈ bx_share.1, ∀ j ∈ bx_share.2.1, ∀ q ∈ bx_share.2.2, chk 27 (fb (i, (j, q))) hS = true := fun i hi j hj q hq => runs_get run_A (r := (27, (i, (j, q)))) (List.mem_append_right _ (List.mem_append_right _ (List.mem_append_right _ (List.mem_append_right _ (List.mem_append_right _ (List.mem_append_right _ (List.mem_append_right _ (List.mem_append_right _ (List.mem_append_right _ (List.mem_append_right _ (List.mem_append_right _ (List.mem_append_right _ (List.mem_append_right _ (List.mem_append_right _ (List.mem_append_right _ (List.mem_append_right _ (List.mem_append_right _ (List.mem_append_right _ (List.mem_append_right _ (List.mem_append_right _ (List.mem_append_right _ (List.mem_append_right _ (List.mem_append_right _ (List.mem_append_left _ (pr3_mem hi hj hq)))))))))))))))))))))))))
theorem sr_taxOf : ∀ i ∈ bx_taxOf.1, ∀ j ∈ bx_taxOf.2.1, ∀ q ∈ bx_taxOf.2.2, chk 29 (fb (i, (j, q))) hS = true := fun i hi j hj q hq => runs_get run_A (r := (29, (i, (j, q)))) (List.mem_append_right _ (List.mem_append_right _ (List.mem_append_right _ (List.mem_append_right _ (List.mem_append_right _ (List.mem_append_right _ (List.mem_append_right _ (List.mem_append_right _ (List.mem_append_right _ (List.mem_append_right _ (List.mem_append_right _ (List.mem_append_right _ (List.mem_append_right _ (List.mem_append_right _ (List.mem_append_right _ (List.mem_append_right _ (List.mem_append_right _ (List.mem_append_right _ (List.mem_append_right _ (List.mem_append_right _ (List.mem_append_right _ (List.mem_append_right _ (List.mem_append_right _ (List.mem_append_right _ (List.mem_append_left _ (pr3_mem hi hj hq))))))))))))))))))))))))))
theorem sr_proudest : ∀ i ∈ bx_proudest.1, ∀ j ∈ bx_proudest.2.1, ∀ q ∈ bx_proudest.2.2, chk 30 (fb (i, (j, q))) hS = true := fun i hi j hj q hq => runs_get run_A (r := (30, (i, (j, q)))) (List.mem_append_right _ (List.mem_append_right _ (List.mem_append_right _ (List.mem_append_right _ (List.mem_append_right _ (List.mem_append_right _ (List.mem_append_right _ (List.mem_append_right _ (List.mem_append_right _ (List.mem_append_right _ (List.mem_append_right _ (List.mem_append_right _ (List.mem_append_right _ (List.mem_append_right _ (List.mem_append_right _ (List.mem_append_right _ (List.mem_append_right _ (List.mem_append_right _ (List.mem_append_right _ (List.mem_append_right _ (List.mem_append_right _ (List.mem_append_right _ (List.mem_append_right _ (List.mem_append_right _ (List.mem_append_right _ (List.mem_append_left _ (pr3_mem hi hj hq)))))))))))))))))))))))))))
theorem sr_list : ∀ i ∈ bx_list.1, ∀ j ∈ bx_list.2.1, ∀ q ∈ bx_list.2.2, chk 31 (fb (i, (j, q))) hS = true := fun i hi j hj q hq => runs_get run_A (r := (31, (i, (j, q)))) (List.mem_append_right _ (List.mem_append_right _ (List.mem_append_right _ (List.mem_append_right _ (List.mem_append_right _ (List.mem_append_right _ (List.mem_append_right _ (List.mem_append_right _ (List.mem_append_right _ (List.mem_append_right _ (List.mem_append_right _ (List.mem_append_right _ (List.mem_append_right _ (List.mem_append_right _ (List.mem_append_right _ (List.mem_append_right _ (List.mem_append_right _ (List.mem_append_right _ (List.mem_append_right _ (List.mem_append_right _ (List.mem_append_right _ (List.mem_append_right _ (List.mem_append_right _ (List.mem_append_right _ (List.mem_append_right _ (List.mem_append_right _ (List.mem_append_left _ (pr3_mem hi hj hq))))))))))))))))))))))))))))
theorem sr_byteAt : ∀ i ∈ bx_byteAt.1, ∀ j ∈ bx_byteAt.2.1, ∀ q ∈ bx_byteAt.2.2, chk 32 (fb (i, (j, q))) hS = true := fun i hi j hj q hq => runs_get run_A (r := (32, (i, (j, q)))) (List.mem_append_right _ (List.mem_append_right _ (List.mem_append_right _ (List.mem_append_right _ (List.mem_append_right _ (List.mem_append_right _ (List.mem_append_right _ (List.mem_append_right _ (List.mem_append_right _ (List.mem_append_right _ (List.mem_append_right _ (List.mem_append_right _ (List.mem_append_right _ (List.mem_append_right _ (List.mem_append_right _ (List.mem_append_right _ (List.mem_append_right _ (List.mem_append_right _ (List.mem_append_right _ (List.mem_append_right _ (List.mem_append_right _ (List.mem_append_right _ (List.mem_append_right _ (List.mem_append_right _ (List.mem_append_right _ (List.mem_append_right _ (List.mem_append_right _ (List.mem_append_left _ (pr3_mem hi hj hq)))))))))))))))))))))))))))))
theorem sr_drawn : ∀ i ∈ bx_drawn.1, ∀ j ∈ bx_drawn.2.1, ∀ q ∈ bx_drawn.2.2, chk 33 (fb (i, (j, q))) hS = true := fun i hi j hj q hq => runs_get run_A (r := (33, (i, (j, q)))) (List.mem_append_right _ (List.mem_append_right _ (List.mem_append_right _ (List.mem_append_right _ (List.mem_append_right _ (List.mem_append_right _ (List.mem_append_right _ (List.mem_append_right _ (List.mem_append_right _ (List.mem_append_right _ (List.mem_append_right _ (List.mem_append_right _ (List.mem_append_right _ (List.mem_append_right _ (List.mem_append_right _ (List.mem_append_right _ (List.mem_append_right _ (List.mem_append_right _ (List.mem_append_right _ (List.mem_append_right _ (List.mem_append_right _ (List.mem_append_right _ (List.mem_append_right _ (List.mem_append_right _ (List.mem_append_right _ (List.mem_append_right _ (List.mem_append_right _ (List.mem_append_right _ (List.mem_append_left _ (pr3_mem hi hj hq))))))))))))))))))))))))))))))
theorem sr_odds : ∀ i ∈ bx_odds.1, ∀ j ∈ bx_odds.2.1, ∀ q ∈ bx_odds.2.2, chk 34 (fb (i, (j, q))) hS = true := fun i hi j hj q hq => runs_get run_A (r := (34, (i, (j, q)))) (List.mem_append_right _ (List.mem_append_right _ (List.mem_append_right _ (List.mem_append_right _ (List.mem_append_right _ (List.mem_append_right _ (List.mem_append_right _ (List.mem_append_right _ (List.mem_append_right _ (List.mem_append_right _ (List.mem_append_right _ (List.mem_append_right _ (List.mem_append_right _ (List.mem_append_right _ (List.mem_append_right _ (List.mem_append_right _ (List.mem_append_right _ (List.mem_append_right _ (List.mem_append_right _ (List.mem_append_right _ (List.mem_append_right _ (List.mem_append_right _ (List.mem_append_right _ (List.mem_append_right _ (List.mem_append_right _ (List.mem_append_right _ (List.mem_append_right _ (List.mem_append_right _ (List.mem_append_right _ (List.mem_append_left _ (pr3_mem hi hj hq)))))))))))))))))))))))))))))))
theorem sr_told : ∀ i ∈ bx_told.1, ∀ j ∈ bx_told.2.1, ∀ q ∈ bx_told.2.2, chk 36 (fb (i, (j, q))) hS = true := fun i hi j hj q hq => runs_get run_A (r := (36, (i, (j, q)))) (List.mem_append_right _ (List.mem_append_right _ (List.mem_append_right _ (List.mem_append_right _ (List.mem_append_right _ (List.mem_append_right _ (List.mem_append_right _ (List.mem_append_right _ (List.mem_append_right _ (List.mem_append_right _ (List.mem_append_right _ (List.mem_append_right _ (List.mem_append_right _ (List.mem_append_right _ (List.mem_append_right _ (List.mem_append_right _ (List.mem_append_right _ (List.mem_append_right _ (List.mem_append_right _ (List.mem_append_right _ (List.mem_append_right _ (List.mem_append_right _ (List.mem_append_right _ (List.mem_append_right _ (List.mem_append_right _ (List.mem_append_right _ (List.mem_append_right _ (List.mem_append_right _ (List.mem_append_right _ (List.mem_append_right _ (List.mem_append_left _ (pr3_mem hi hj hq))))))))))))))))))))))))))))))))
theorem sr_sentence : ∀ i ∈ bx_sentence.1, ∀ j ∈ bx_sentence.2.1, ∀ q ∈ bx_sentence.2.2, chk 37 (fb (i, (j, q))) hS = true := fun i hi j hj q hq => runs_get run_A (r := (37, (i, (j, q)))) (List.mem_append_right _ (List.mem_append_right _ (List.mem_append_right _ (List.mem_append_right _ (List.mem_append_right _ (List.mem_append_right _ (List.mem_append_right _ (List.mem_append_right _ (List.mem_append_right _ (List.mem_append_right _ (List.mem_append_right _ (List.mem_append_right _ (List.mem_append_right _ (List.mem_append_right _ (List.mem_append_right _ (List.mem_append_right _ (List.mem_append_right _ (List.mem_append_right _ (List.mem_append_right _ (List.mem_append_right _ (List.mem_append_right _ (List.mem_append_right _ (List.mem_append_right _ (List.mem_append_right _ (List.mem_append_right _ (List.mem_append_right _ (List.mem_append_right _ (List.mem_append_right _ (List.mem_append_right _ (List.mem_append_right _ (List.mem_append_right _ (List.mem_append_left _ (pr3_mem hi hj hq)))))))))))))))))))))))))))))))))
theorem sr_said : ∀ i ∈ bx_said.1, ∀ j ∈ bx_said.2.1, ∀ q ∈ bx_said.2.2, chk 38 (fb (i, (j, q))) hS = true := fun i hi j hj q hq => runs_get run_A (r := (38, (i, (j, q)))) (List.mem_append_right _ (List.mem_append_right _ (List.mem_append_right _ (List.mem_append_right _ (List.mem_append_right _ (List.mem_append_right _ (List.mem_append_right _ (List.mem_append_right _ (List.mem_append_right _ (List.mem_append_right _ (List.mem_append_right _ (List.mem_append_right _ (List.mem_append_right _ (List.mem_append_right _ (List.mem_append_right _ (List.mem_append_right _ (List.mem_append_right _ (List.mem_append_right _ (List.mem_append_right _ (List.mem_append_right _ (List.mem_append_right _ (List.mem_append_right _ (List.mem_append_right _ (List.mem_append_right _ (List.mem_append_right _ (List.mem_append_right _ (List.mem_append_right _ (List.mem_append_right _ (List.mem_append_right _ (List.mem_append_right _ (List.mem_append_right _ (List.mem_append_right _ (List.mem_append_left _ (pr3_mem hi hj hq))))))))))))))))))))))))))))))))))
theorem sr_restore : ∀ i ∈ bx_restore.1, ∀ j ∈ bx_restore.2.1, ∀ q ∈ bx_restore.2.2, chk 40 (fb (i, (j, q))) hS = true := fun i hi j hj q hq => runs_get run_A (r := (40, (i, (j, q)))) (List.mem_append_right _ (List.mem_append_right _ (List.mem_append_right _ (List.mem_append_right _ (List.mem_append_right _ (List.mem_append_right _ (List.mem_append_right _ (List.mem_append_right _ (List.mem_append_right _ (List.mem_append_right _ (List.mem_append_right _ (List.mem_append_right _ (List.mem_append_right _ (List.mem_append_right _ (List.mem_append_right _ (List.mem_append_right _ (List.mem_append_right _ (List.mem_append_right _ (List.mem_append_right _ (List.mem_append_right _ (List.mem_append_right _ (List.mem_append_right _ (List.mem_append_right _ (List.mem_append_right _ (List.mem_append_right _ (List.mem_append_right _ (List.mem_append_right _ (List.mem_append_right _ (List.mem_append_right _ (List.mem_append_right _ (List.mem_append_right _ (List.mem_append_right _ (List.mem_append_right _ (List.mem_append_left _ (pr3_mem hi hj hq)))))))))))))))))))))))))))))))))))
theorem sr_count : ∀ i ∈ bx_count.1, ∀ j ∈ bx_count.2.1, ∀ q ∈ bx_count.2.2, chk 41 (fb (i, (j, q))) hS = true := fun i hi j hj q hq => runs_get run_A (r := (41, (i, (j, q)))) (List.mem_append_right _ (List.mem_append_right _ (List.mem_append_right _ (List.mem_append_right _ (List.mem_append_right _ (List.mem_append_right _ (List.mem_append_right _ (List.mem_append_right _ (List.mem_append_right _ (List.mem_append_right _ (List.mem_append_right _ (List.mem_append_right _ (List.mem_append_right _ (List.mem_append_right _ (List.mem_append_right _ (List.mem_append_right _ (List.mem_append_right _ (List.mem_append_right _ (List.mem_append_right _ (List.mem_append_right _ (List.mem_append_right _ (List.mem_append_right _ (List.mem_append_right _ (List.mem_append_right _ (List.mem_append_right _ (List.mem_append_right _ (List.mem_append_right _ (List.mem_append_right _ (List.mem_append_right _ (List.mem_append_right _ (List.mem_append_right _ (List.mem_append_right _ (List.mem_append_right _ (List.mem_append_right _ (List.mem_append_left _ (pr3_mem hi hj hq))))))))))))))))))))))))))))))))))))
theorem sr_default : ∀ i ∈ bx_default.1, ∀ j ∈ bx_default.2.1, ∀ q ∈ bx_default.2.2, chk 42 (fb (i, (j, q))) hS = true := fun i hi j hj q hq => runs_get run_A (r := (42, (i, (j, q)))) (List.mem_append_right _ (List.mem_append_right _ (List.mem_append_right _ (List.mem_append_right _ (List.mem_append_right _ (List.mem_append_right _ (List.mem_append_right _ (List.mem_append_right _ (List.mem_append_right _ (List.mem_append_right _ (List.mem_append_right _ (List.mem_append_right _ (List.mem_append_right _ (List.mem_append_right _ (List.mem_append_right _ (List.mem_append_right _ (List.mem_append_right _ (List.mem_append_right _ (List.mem_append_right _ (List.mem_append_right _ (List.mem_append_right _ (List.mem_append_right _ (List.mem_append_right _ (List.mem_append_right _ (List.mem_append_right _ (List.mem_append_right _ (List.mem_append_right _ (List.mem_append_right _ (List.mem_append_right _ (List.mem_append_right _ (List.mem_append_right _ (List.mem_append_right _ (List.mem_append_right _ (List.mem_append_right _ (List.mem_append_right _ (pr3_mem hi hj hq))))))))))))))))))))))))))))))))))))
theorem sr_duchy : ∀ i ∈ bx_duchy.1, ∀ j ∈ bx_duchy.2.1, ∀ q ∈ bx_duchy.2.2, chk 2 (fb (i, (j, q))) hS = true := fun i hi j hj q hq => runs_get run_duchy (r := (2, (i, (j, q)))) (pr3_mem hi hj hq)
theorem sr_now : ∀ i ∈ bx_now.1, ∀ j ∈ bx_now.2.1, ∀ q ∈ bx_now.2.2, chk 10 (fb (i, (j, q))) hS = true := fun i hi j hj q hq => runs_get run_now (r := (10, (i, (j, q)))) (pr3_mem hi hj hq)
theorem sr_book : ∀ i ∈ bx_book.1, ∀ j ∈ bx_book.2.1, ∀ q ∈ bx_book.2.2, chk 35 (fb (i, (j, q))) hS = true := fun i hi j hj q hq => runs_get run_book (r := (35, (i, (j, q)))) (pr3_mem hi hj hq)
theorem sr_image : ∀ i ∈ bx_image.1, ∀ j ∈ bx_image.2.1, ∀ q ∈ bx_image.2.2, chk 39 (fb (i, (j, q))) hS = true := fun i hi j hj q hq => runs_get run_image (r := (39, (i, (j, q)))) (pr3_mem hi hj hq)
theorem wk_all : bx_weeks.1 = wk_0 ++ (wk_1 ++ (wk_2 ++ (wk_3_0 ++ (wk_3_1 ++ (wk_4_0 ++ (wk_4_1 ++ (wk_5_0 ++ (wk_5_1 ++ (wk_5_2 ++ (wk_5_3 ++ (wk_6_0 ++ (wk_6_1 ++ (wk_6_2 ++ (wk_6_3 ++ (wk_7_0 ++ (wk_7_1 ++ (wk_7_2))))))))))))))))) := by decide +kernel
theorem sr_weeks : ∀ i ∈ bx_weeks.1, ∀ j ∈ bx_weeks.2.1, ∀ q ∈ bx_weeks.2.2, chk 16 (fb (i, (j, q))) hS = true := by
  intro i hi j hj q hq
  rw [wk_all] at hi
  simp only [List.mem_append] at hi
  rcases hi with hi | hi | hi | hi | hi | hi | hi | hi | hi | hi | hi | hi | hi | hi | hi | hi | hi | hi
  · exact runs_get run_weeks_0 (r := (16, (i, (j, q)))) (pr3_mem hi hj hq)
  · exact runs_get run_weeks_1 (r := (16, (i, (j, q)))) (pr3_mem hi hj hq)
  · exact runs_get run_weeks_2 (r := (16, (i, (j, q)))) (pr3_mem hi hj hq)
  · exact runs_get run_weeks_3_0 (r := (16, (i, (j, q)))) (pr3_mem hi hj hq)
  · exact runs_get run_weeks_3_1 (r := (16, (i, (j, q)))) (pr3_mem hi hj hq)
  · exact runs_get run_weeks_4_0 (r := (16, (i, (j, q)))) (pr3_mem hi hj hq)
  · exact runs_get run_weeks_4_1 (r := (16, (i, (j, q)))) (pr3_mem hi hj hq)
  · exact runs_get run_weeks_5_0 (r := (16, (i, (j, q)))) (pr3_mem hi hj hq)
  · exact runs_get run_weeks_5_1 (r := (16, (i, (j, q)))) (pr3_mem hi hj hq)
  · exact runs_get run_weeks_5_2 (r := (16, (i, (j, q)))) (pr3_mem hi hj hq)
  · exact runs_get run_weeks_5_3 (r := (16, (i, (j, q)))) (pr3_mem hi hj hq)
  · exact runs_get run_weeks_6_0 (r := (16, (i, (j, q)))) (pr3_mem hi hj hq)
  · exact runs_get run_weeks_6_1 (r := (16, (i, (j, q)))) (pr3_mem hi hj hq)
  · exact runs_get run_weeks_6_2 (r := (16, (i, (j, q)))) (pr3_mem hi hj hq)
  · exact runs_get run_weeks_6_3 (r := (16, (i, (j, q)))) (pr3_mem hi hj hq)
  · exact runs_get run_weeks_7_0 (r := (16, (i, (j, q)))) (pr3_mem hi hj hq)
  · exact runs_get run_weeks_7_1 (r := (16, (i, (j, q)))) (pr3_mem hi hj hq)
  · exact runs_get run_weeks_7_2 (r := (16, (i, (j, q)))) (pr3_mem hi hj hq)
section WHOLE
variable {p : Program} {l : Launch} {e : Env} {s : State} {m : MethodId} {below : List Frame} {meth : Method} {c : Code} {b : Nat}
variable {G : va_G} {cy : Nat → ClassId}
theorem sel_run (C : CxL p c m s b meth G cy) (hr : meth.sig.returnType = ret) (hlocks : meth.locks = false) {xs : Nat → Int32} (hX : va_X b 6 xs s s.heap) (hbl : b < s.heap.size) {k : Nat} {bx : List AI × (List AI × List AI)} (cv : covF (-2147483648) bx.1 = true ∧ covF (-2147483648) bx.2.1 = true ∧ covF (-2147483648) bx.2.2 = true) (h : ∀ i ∈ bx.1, ∀ j ∈ bx.2.1, ∀ q ∈ bx.2.2, chk k (fb (i, (j, q))) hS = true) : WkL p l e s m b below meth c G cy 1 (tg k) Lw [] hS := by
  obtain ⟨i, hi, hi2⟩ := cov_ok cv.1 (xs 1)
  obtain ⟨j, hj, hj2⟩ := cov_ok cv.2.1 (xs 2)
  obtain ⟨q, hq, hq2⟩ := cov_ok cv.2.2 (xs 3)
  exact law_run C hr hlocks (sc_of hX hbl hi2 hj2 hq2) (h i hi j hj q hq)
theorem tax_sel (C : CxL p c m s b meth G cy) (hr : meth.sig.returnType = ret) (hlocks : meth.locks = false) {xs : Nat → Int32} (hX : va_X b 6 xs s s.heap) (hbl : b < s.heap.size) : WkL p l e s m b below meth c G cy 1 (tg 28) Lw [] hS := by
  have t1 := i32_lo (xs 1)
  have t2 := i32_hi (xs 1)
  have u2 : ((-2147483648, 2147483647) : AI).1 ≤ (xs 2).toInt ∧ (xs 2).toInt ≤ ((-2147483648, 2147483647) : AI).2 := ⟨i32_lo _, i32_hi _⟩
  have u3 : ((-2147483648, 2147483647) : AI).1 ≤ (xs 3).toInt ∧ (xs 3).toInt ≤ ((-2147483648, 2147483647) : AI).2 := ⟨i32_lo _, i32_hi _⟩
  by_cases h1 : (xs 1).toInt ≤ -1
  · exact law_run C hr hlocks (sc_of (i := (-2147483648, -1)) hX hbl ⟨t1, h1⟩ u2 u3) (runs_get run_taxb (r := (28, ((-2147483648, -1), ((-2147483648, 2147483647), (-2147483648, 2147483647))))) (pr3_mem (by decide) (by decide) (by decide)))
  by_cases h2 : (xs 1).toInt ≤ 0
  · exact law_run C hr hlocks (sc_of (i := (0, 0)) hX hbl ⟨by show (0 : Int) ≤ _; omega, h2⟩ u2 u3) (runs_get run_taxb (r := (28, ((0, 0), ((-2147483648, 2147483647), (-2147483648, 2147483647))))) (pr3_mem (by decide) (by decide) (by decide)))
  by_cases h3 : (xs 1).toInt ≤ 120
  · exact law_runG C hr hlocks cal1_ok (Nat.le_refl _) (sc_of (i := (1, 120)) hX hbl ⟨by show (1 : Int) ≤ _; omega, h3⟩ u2 u3) tax_get
  by_cases h4 : (xs 1).toInt ≤ 200
  · exact law_run C hr hlocks (sc_of (i := (121, 200)) hX hbl ⟨by show (121 : Int) ≤ _; omega, h4⟩ u2 u3) (runs_get run_taxb (r := (28, ((121, 200), ((-2147483648, 2147483647), (-2147483648, 2147483647))))) (pr3_mem (by decide) (by decide) (by decide)))
  · exact law_run C hr hlocks (sc_of (i := (201, 2147483647)) hX hbl ⟨by show (201 : Int) ≤ _; omega, t2⟩ u2 u3) (runs_get run_taxb (r := (28, ((201, 2147483647), ((-2147483648, 2147483647), (-2147483648, 2147483647))))) (pr3_mem (by decide) (by decide) (by decide)))
theorem man_sel (C : CxL p c m s b meth G cy) (hr : meth.sig.returnType = ret) (hlocks : meth.locks = false) (hl : l.stackTraces = false) (hN : NXD s) {xs : Nat → Int32} (hX : va_X b 6 xs s s.heap) (hbl : b < s.heap.size) : WkL p l e s m b below meth c G cy 1 (tg 4) Lw [] hS := by
  have t1 := i32_lo (xs 1)
  have t2 := i32_hi (xs 1)
  have u2 : ((-2147483648, 2147483647) : AI).1 ≤ (xs 2).toInt ∧ (xs 2).toInt ≤ ((-2147483648, 2147483647) : AI).2 := ⟨i32_lo _, i32_hi _⟩
  have u3 : ((-2147483648, 2147483647) : AI).1 ≤ (xs 3).toInt ∧ (xs 3).toInt ≤ ((-2147483648, 2147483647) : AI).2 := ⟨i32_lo _, i32_hi _⟩
  by_cases h1 : (xs 1).toInt ≤ -1
  · exact law_man C hr hlocks hl hN (sc_of (i := (-2147483648, -1)) hX hbl ⟨t1, h1⟩ u2 u3) man_get.1
  · exact law_man C hr hlocks hl hN (sc_of (i := (0, 2147483647)) hX hbl ⟨by show (0 : Int) ≤ _; omega, t2⟩ u2 u3) man_get.2
theorem all_sel (C : CxL p c m s b meth G cy) (hr : meth.sig.returnType = ret) (hlocks : meth.locks = false) (hl : l.stackTraces = false) (hN : NXD s) {xs : Nat → Int32} (hX : va_X b 6 xs s s.heap) (hbl : b < s.heap.size) : ∀ j : Nat, j < 43 → WkL p l e s m b below meth c G cy 1 (tg j) Lw [] hS
  | 0, _ => sel_run C hr hlocks hX hbl cv_feed sr_feed
  | 1, _ => sel_run C hr hlocks hX hbl cv_end sr_end
  | 2, _ => sel_run C hr hlocks hX hbl cv_duchy sr_duchy
  | 3, _ => sel_run C hr hlocks hX hbl cv_fault sr_fault
  | 4, _ => man_sel C hr hlocks hl hN hX hbl
  | 5, _ => sel_run C hr hlocks hX hbl cv_cost sr_cost
  | 6, _ => sel_run C hr hlocks hX hbl cv_times sr_times
  | 7, _ => sel_run C hr hlocks hX hbl cv_bought sr_bought
  | 8, _ => sel_run C hr hlocks hX hbl cv_good sr_good
  | 9, _ => sel_run C hr hlocks hX hbl cv_owes sr_owes
  | 10, _ => sel_run C hr hlocks hX hbl cv_now sr_now
  | 11, _ => sel_run C hr hlocks hX hbl cv_forfeit sr_forfeit
  | 12, _ => sel_run C hr hlocks hX hbl cv_buy sr_buy
  | 13, _ => sel_run C hr hlocks hX hbl cv_lend sr_lend
  | 14, _ => sel_run C hr hlocks hX hbl cv_repay sr_repay
  | 15, _ => sel_run C hr hlocks hX hbl cv_strike sr_strike
  | 16, _ => sel_run C hr hlocks hX hbl cv_weeks sr_weeks
  | 17, _ => sel_run C hr hlocks hX hbl cv_undo sr_undo
  | 18, _ => sel_run C hr hlocks hX hbl cv_ring sr_ring
  | 19, _ => sel_run C hr hlocks hX hbl cv_ringAt sr_ringAt
  | 20, _ => sel_run C hr hlocks hX hbl cv_plan sr_plan
  | 21, _ => sel_run C hr hlocks hX hbl cv_planned sr_planned
  | 22, _ => sel_run C hr hlocks hX hbl cv_lasts sr_lasts
  | 23, _ => sel_run C hr hlocks hX hbl cv_worth sr_worth
  | 24, _ => sel_run C hr hlocks hX hbl cv_even sr_even
  | 25, _ => sel_run C hr hlocks hX hbl cv_fits sr_fits
  | 26, _ => sel_run C hr hlocks hX hbl cv_tells sr_tells
  | 27, _ => sel_run C hr hlocks hX hbl cv_share sr_share
  | 28, _ => tax_sel C hr hlocks hX hbl
  | 29, _ => sel_run C hr hlocks hX hbl cv_taxOf sr_taxOf
  | 30, _ => sel_run C hr hlocks hX hbl cv_proudest sr_proudest
  | 31, _ => sel_run C hr hlocks hX hbl cv_list sr_list
  | 32, _ => sel_run C hr hlocks hX hbl cv_byteAt sr_byteAt
  | 33, _ => sel_run C hr hlocks hX hbl cv_drawn sr_drawn
  | 34, _ => sel_run C hr hlocks hX hbl cv_odds sr_odds
  | 35, _ => sel_run C hr hlocks hX hbl cv_book sr_book
  | 36, _ => sel_run C hr hlocks hX hbl cv_told sr_told
  | 37, _ => sel_run C hr hlocks hX hbl cv_sentence sr_sentence
  | 38, _ => sel_run C hr hlocks hX hbl cv_said sr_said
  | 39, _ => sel_run C hr hlocks hX hbl cv_image sr_image
  | 40, _ => sel_run C hr hlocks hX hbl cv_restore sr_restore
  | 41, _ => sel_run C hr hlocks hX hbl cv_count sr_count
  | 42, _ => sel_run C hr hlocks hX hbl cv_default sr_default
  | n + 43, h => absurd h (by omega)
end WHOLE
/-- YOUR PART: from the entry, for every script of at most 6 ints, the law comes to its end with true ('hflags': the launch's flags, for a law that throws: no stack traces) -/
theorem whole_start {p : Program} {e : Env} {s : State} {m : MethodId} {below : List Frame} {meth : Method} {c : Code} (l : Launch) (hflags : l.flags = flags0) {b L : Nat} {xs : Nat → Int32} (hL : L ≤ 6) (C0 : lw_At p s m meth c b L xs) : W p l e room_1 s m #[Value.ref b] below meth c s.heap [] 0 0 (lw_Z below #[Value.ref b] s) (entryFrame m ([Value.ref b] : List Value).toArray 7) := by
  obtain ⟨hx, hb, hr, hml, hown, hts, hX, hbl, hlocks, hgv⟩ := C0
  obtain ⟨G, cy, hK⟩ := start_KK hts
  have hE := start_EX hts hgv
  have C : CxL p c m s b meth G cy := ⟨hx, hb, hml, hown, fun w hw => hts w (List.mem_filter.mp hw).1, hK, fun q hq => hq, rfl, hE⟩
  have hN : NXD s := fun w hw => va_Nw.of (dc_ot (List.all_eq_true.mp BW_dc w hw)) (hts w (BW_in w hw))
  have hl : l.stackTraces = false := by
    unfold Launch.stackTraces
    rw [hflags]
    decide +kernel
  have hk : WkL p l e s m b below meth c G cy 1 23 Lw [] hS := by
    by_cases h6 : L < 6
    · exact law_short C hr hlocks hX hbl h6
    · obtain rfl : L = 6 := by omega
      exact law_go C hX hbl (all_sel C hr hlocks hl hN hX hbl)
  rw [lg_entry_eq]
  have w0 := law_head C hk
  exact w0 [] _ [] s.heap [] ⟨⟨rfl, fun i cc h => absurd h (hp0_none i cc)⟩, gL_entry (b := b) (ws := []) (As := [.inr (.inr (.inr 1))]) (mL := 7) (na := 1) ⟨⟨rfl, rfl⟩, trivial⟩ rfl rfl (by decide), trivial, fun k q h => by simp at h, ⟨fun i j p q h => by simp at h, fun k q h => by simp at h⟩, va_S.rf⟩
set_option maxHeartbeats 4000000 in
theorem lw_walk (l : Launch) (hflags : l.flags = flags0) (b : Addr) (xs : List Int32) : MetFree l x (headSpec (Jvm.Cond.code x code maxLocals ret :: tables_1) room_1) (lw_P b xs) (fun _ _ _ _ _ => True) lw_Q := by
  refine MetFree.of_bodyS (code := code) (maxLocals := maxLocals) (ret := ret) (by decide) ?_ ?_
  · intro args s m h hn
    obtain ⟨meth, c, h1, h2, h3, h4, h5, h6, -, -⟩ := Cond.code_spec hn (atoms_spec (ws := Jvm.Cond.code x code maxLocals ret :: tables_1) h _ List.mem_cons_self)
    exact ⟨meth, c, h1, h2, h3, h4, h5, h6⟩
  · intro p e s m args below meth c s₁ B hml0 hP _
    obtain ⟨rfl, hx, hbd, hgv⟩ := hP
    obtain ⟨scr, harrAt, hlist, hof, hsmall⟩ := hx
    obtain ⟨hcb, hkn, -, -⟩ := State.arrayAt?_spec harrAt
    have hown : s.vm.findClass R_law = some m.cls := findClass_of_methodNamed B.named
    have hts0 : ∀ c ∈ (Jvm.Cond.code x code maxLocals ret :: tables_1), c.before #[Value.ref b] s = true := atoms_spec (ws := Jvm.Cond.code x code maxLocals ret :: tables_1) B.pre
    have hts : ∀ w ∈ lw_tbl, w.before #[Value.ref b] s = true := k2_hts_sels lw_privs (fun w hw => hts0 w (List.mem_cons_of_mem _ hw)) lw_privs_ok
    have hml : c.maxLocals = 7 := B.maxLocals_eq (hts0 _ List.mem_cons_self)
    have X₀ : Stand p l e room_1 s m #[Value.ref b] below meth c s₁ [] 0 0 := Stand.of_body B
    have hh0 : s₁.heap = s.heap := by rw [B.state]; rfl
    have hsz : scr.slots.size = xs.length := by rw [← Array.length_toList, hlist, List.length_map]
    have hval : ∀ j : Nat, j < xs.length → scr.slots[j]? = some (.int (xs.getD j 0)) := fun j hj => by
      rw [← Array.getElem?_toList, hlist]
      simp [hj]
    have hbl : b < s.heap.size := (Array.getElem?_eq_some_iff.mp hcb).1
    have hX : va_X b xs.length (fun j => xs.getD j 0) s s.heap := ⟨scr, hcb, hof, hkn, hsz, hval⟩
    have K : W p l e room_1 s m #[Value.ref b] below meth c s₁.heap [] 0 0 (lw_Z below #[Value.ref b] s) (entryFrame m ([Value.ref b] : List Value).toArray 7) := by
      rw [hh0]
      exact whole_start l hflags hbd ⟨B.exec, B.bytes, B.returns, hml, hown, hts, hX, hbl, B.notSynchronized, hgv⟩
    obtain ⟨t, a1, o, b1, b2, b3⟩ := K s₁ rfl X₀
    exact ⟨t, o, a1, b1, b2, b3⟩
theorem lw_pre_spec {args : Array Value} {s : State} (h : (Jvm.Cond.and given_1 narrow_1).before args s = true) (hr : rest_1_c.before args s = true) : ∃ (b : Addr) (xs : List Int32), lw_P b xs args s := by
  have hs := flat_of_before _ h
  have hq := flat_of_before _ hr
  have hc : (Cond.count 1).before args s = true := hs _ (by decide +kernel)
  have harr : (Cond.arrayOf (.arg 0) .int).before args s = true := hs _ (by decide +kernel)
  have hle : (Cond.le (.length (.arg 0)) (.int 6)).before args s = true := hs _ (by decide +kernel)
  have hlen : (Cond.isInt (.length (.arg 0))).before args s = true := hq _ (by decide +kernel)
  have hall : (Cond.all (.arg 0) (.isInt (.elem (.arg 0) (.index 0)))).before args s = true := hq _ (by decide +kernel)
  obtain ⟨b, xs, hb, hx⟩ := State.ints_of_pre rfl harr hlen hall
  have hsm : xs.length < 2 ^ 31 := hx.choose_spec.2.2.2
  have hev : (Term.length (.arg 0)).eval args s none [] s = some (.int xs.length.toInt32) := hx.length_eval hb
  have hv := Cond.le_ints hev (show (Term.int 6).eval args s none [] s = some (.int 6) from rfl)
  have hd : xs.length.toInt32 ≤ 6 := by
    simpa [Cond.before, Cond.holds, hv] using hle
  have hN : xs.length ≤ 6 := (Int32.ofNat_le_ofNat hsm (by decide)).mp (show Int32.ofNat xs.length ≤ Int32.ofNat 6 from hd)
  exact ⟨b, xs, Cond.one_arg hc (show args[0]? = some (.ref b) from hb), hx, hN, h⟩
theorem lw_comes (l : Launch) (hflags : l.flags = flags0) : Comes l x (Jvm.Cond.code x code maxLocals ret :: tables_1) room_1 (fun tb e args s => Calls_1 tb e args s ∧ rest_1 tb e args s ∧ Pre_1 tb e args s)
    (fun _ _ args s o t => lw_Q args s o t) := by
  intro p e ha hc hk s m args below hf hfit hheap happ hpre
  obtain ⟨b, xs, hP⟩ := lw_pre_spec hpre.2.2 hpre.2.1
  obtain ⟨k, o, h1, h2, h3, hQ⟩ := lw_walk l hflags b xs p e ha hc hk s m args below hf ((Spec.applies_iff_loose hf).mp happ).1 hP trivial
  exact ⟨k, o, h1, h2, h3, hQ⟩
theorem lw_frame {s t : State} {o : Outcome} {args : Array Value} (h : Framed s o t [] 600002 7302232) :
    Framed s o t (fieldLocs frame_1_writes args s ++ arrayLocs frame_1_arrays args s ++ staticLocs frame_1_statics s) 600002 7302232 := h
theorem lw_limb (L : Cond) (hL : ∀ (args : Array Value) (s t : State), L.after args s (.returned (some (.int 1))) t = true) :
    ArmFor flags0 classFile x code maxLocals ret World_1 tables_1 room_1 Calls_1 rest_1 Pre_1
      (fun tb e a s o t => postC L tb e a s o t ∧ Framed s o t (fieldLocs frame_1_writes a s ++ arrayLocs frame_1_arrays a s ++ staticLocs frame_1_statics s) 600002 7302232) := by
  intro l hflags _ _ p e ha hc hk s m args below hf hfit hheap happ hpre
  obtain ⟨k, o, h1, h2, h3, rfl, hF⟩ := lw_comes l hflags p e ha hc hk s m args below hf hfit hheap happ hpre
  exact ⟨k, _, h1, h2, h3, hL args s _, lw_frame hF⟩
theorem i_vc : Claimed_1_1 ∧ Claimed_1_2 := ⟨lw_limb limb_1_1 (fun args s t => by simp [limb_1_1, Cond.after, Cond.holds, Cond.value]), lw_limb limb_1_2 (fun args s t => Cond.after_iff.mpr (by
  first | (rw [show limb_1_2 = Cond.eq .result (.int 1) from rfl, Cond.eq_ints (x := 1) (y := 1) rfl rfl]; simp; done) | (simp [limb_1_2, Cond.value, Term.eval]; done)))⟩
