theorem xk_Integer_bitCount : xv_mok xv_mt xm_Integer_bitCount := xv_mokB_use (w1 := 573) (w2 := 86) (w3 := 572) (w4 := 0) (by decide +kernel)
