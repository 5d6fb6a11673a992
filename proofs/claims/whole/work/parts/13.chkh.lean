theorem xk_Integer_bitCount : xv_mok xv_mt xm_Integer_bitCount := xv_mokB_use (w1 := 575) (w2 := 88) (w3 := 574) (w4 := 0) (by decide +kernel)
