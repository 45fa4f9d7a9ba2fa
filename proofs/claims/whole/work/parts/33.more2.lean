theorem zz_1 {M : MT} : bd (sp_X5_draw M 0 11).1 11 := (draw_bd (n := 11) (show bd 11 12 from bd_lit (by decide)) (show ¬ (11 : Int32) = 0 by decide)).1
theorem zz_2 {M : MT} (h : OKs M 0) : OKs (u1 (sdN M 0) 0 3 0 (sp_X5_draw M 0 11).1) 0 := OKs_wind (OKs_sd h) zz_1
