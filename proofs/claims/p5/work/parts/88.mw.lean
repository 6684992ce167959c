theorem jMw_ok : jMw := ⟨gw_min, ⟨(gm 993 (by decide +kernel) (by decide +kernel)), (gm 150 (by decide +kernel) (by decide +kernel)), (gm 994 (by decide +kernel) (by decide +kernel))⟩, gw_copy⟩
