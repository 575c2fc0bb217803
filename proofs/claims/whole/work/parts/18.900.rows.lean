set_option maxRecDepth 200000 in
set_option maxHeartbeats 4000000 in
theorem zr_0 : cd_0.all (bd_row 0) = true := by decide +kernel
set_option maxRecDepth 200000 in
theorem zm_0 : bd_mw 0 = true := by decide +kernel
set_option maxRecDepth 200000 in
theorem zc_0 : lw_tbl[(mpM 0).1]? = some (.code (mtM 0).1 (mtM 0).2.1 (mtM 0).2.2.1 (mtM 0).2.2.2.1) := rfl
set_option maxRecDepth 200000 in
set_option maxHeartbeats 4000000 in
theorem zr_1 : cd_1.all (bd_row 1) = true := by decide +kernel
set_option maxRecDepth 200000 in
theorem zm_1 : bd_mw 1 = true := by decide +kernel
set_option maxRecDepth 200000 in
theorem zc_1 : lw_tbl[(mpM 1).1]? = some (.code (mtM 1).1 (mtM 1).2.1 (mtM 1).2.2.1 (mtM 1).2.2.2.1) := rfl
set_option maxRecDepth 200000 in
set_option maxHeartbeats 4000000 in
theorem zr_2 : cd_2.all (bd_row 2) = true := by decide +kernel
set_option maxRecDepth 200000 in
theorem zm_2 : bd_mw 2 = true := by decide +kernel
set_option maxRecDepth 200000 in
theorem zc_2 : lw_tbl[(mpM 2).1]? = some (.code (mtM 2).1 (mtM 2).2.1 (mtM 2).2.2.1 (mtM 2).2.2.2.1) := rfl
set_option maxRecDepth 200000 in
set_option maxHeartbeats 4000000 in
theorem zr_3 : cd_3.all (bd_row 3) = true := by decide +kernel
set_option maxRecDepth 200000 in
theorem zm_3 : bd_mw 3 = true := by decide +kernel
set_option maxRecDepth 200000 in
theorem zc_3 : lw_tbl[(mpM 3).1]? = some (.code (mtM 3).1 (mtM 3).2.1 (mtM 3).2.2.1 (mtM 3).2.2.2.1) := rfl
set_option maxRecDepth 200000 in
set_option maxHeartbeats 4000000 in
theorem zr_4 : cd_4.all (bd_row 4) = true := by decide +kernel
set_option maxRecDepth 200000 in
theorem zm_4 : bd_mw 4 = true := by decide +kernel
set_option maxRecDepth 200000 in
theorem zc_4 : lw_tbl[(mpM 4).1]? = some (.code (mtM 4).1 (mtM 4).2.1 (mtM 4).2.2.1 (mtM 4).2.2.2.1) := rfl
set_option maxRecDepth 200000 in
set_option maxHeartbeats 4000000 in
theorem zr_5 : cd_5.all (bd_row 5) = true := by decide +kernel
set_option maxRecDepth 200000 in
theorem zm_5 : bd_mw 5 = true := by decide +kernel
set_option maxRecDepth 200000 in
theorem zc_5 : lw_tbl[(mpM 5).1]? = some (.code (mtM 5).1 (mtM 5).2.1 (mtM 5).2.2.1 (mtM 5).2.2.2.1) := rfl
set_option maxRecDepth 200000 in
set_option maxHeartbeats 4000000 in
theorem zr_6 : cd_6.all (bd_row 6) = true := by decide +kernel
set_option maxRecDepth 200000 in
theorem zm_6 : bd_mw 6 = true := by decide +kernel
set_option maxRecDepth 200000 in
theorem zc_6 : lw_tbl[(mpM 6).1]? = some (.code (mtM 6).1 (mtM 6).2.1 (mtM 6).2.2.1 (mtM 6).2.2.2.1) := rfl
set_option maxRecDepth 200000 in
set_option maxHeartbeats 4000000 in
theorem zr_7 : cd_7.all (bd_row 7) = true := by decide +kernel
set_option maxRecDepth 200000 in
theorem zm_7 : bd_mw 7 = true := by decide +kernel
set_option maxRecDepth 200000 in
theorem zc_7 : lw_tbl[(mpM 7).1]? = some (.code (mtM 7).1 (mtM 7).2.1 (mtM 7).2.2.1 (mtM 7).2.2.2.1) := rfl
set_option maxRecDepth 200000 in
set_option maxHeartbeats 4000000 in
theorem zr_8 : cd_8.all (bd_row 8) = true := by decide +kernel
set_option maxRecDepth 200000 in
theorem zm_8 : bd_mw 8 = true := by decide +kernel
set_option maxRecDepth 200000 in
theorem zc_8 : lw_tbl[(mpM 8).1]? = some (.code (mtM 8).1 (mtM 8).2.1 (mtM 8).2.2.1 (mtM 8).2.2.2.1) := rfl
set_option maxRecDepth 200000 in
set_option maxHeartbeats 4000000 in
theorem zr_9 : cd_9.all (bd_row 9) = true := by decide +kernel
set_option maxRecDepth 200000 in
theorem zm_9 : bd_mw 9 = true := by decide +kernel
set_option maxRecDepth 200000 in
theorem zc_9 : lw_tbl[(mpM 9).1]? = some (.code (mtM 9).1 (mtM 9).2.1 (mtM 9).2.2.1 (mtM 9).2.2.2.1) := rfl
set_option maxRecDepth 200000 in
set_option maxHeartbeats 4000000 in
theorem zr_10 : cd_10.all (bd_row 10) = true := by decide +kernel
set_option maxRecDepth 200000 in
theorem zm_10 : bd_mw 10 = true := by decide +kernel
set_option maxRecDepth 200000 in
theorem zc_10 : lw_tbl[(mpM 10).1]? = some (.code (mtM 10).1 (mtM 10).2.1 (mtM 10).2.2.1 (mtM 10).2.2.2.1) := rfl
set_option maxRecDepth 200000 in
set_option maxHeartbeats 4000000 in
theorem zr_11 : cd_11.all (bd_row 11) = true := by decide +kernel
set_option maxRecDepth 200000 in
theorem zm_11 : bd_mw 11 = true := by decide +kernel
set_option maxRecDepth 200000 in
theorem zc_11 : lw_tbl[(mpM 11).1]? = some (.code (mtM 11).1 (mtM 11).2.1 (mtM 11).2.2.1 (mtM 11).2.2.2.1) := rfl
set_option maxRecDepth 200000 in
set_option maxHeartbeats 4000000 in
theorem zr_12 : cd_12.all (bd_row 12) = true := by decide +kernel
set_option maxRecDepth 200000 in
theorem zm_12 : bd_mw 12 = true := by decide +kernel
set_option maxRecDepth 200000 in
theorem zc_12 : lw_tbl[(mpM 12).1]? = some (.code (mtM 12).1 (mtM 12).2.1 (mtM 12).2.2.1 (mtM 12).2.2.2.1) := rfl
set_option maxRecDepth 200000 in
set_option maxHeartbeats 4000000 in
theorem zr_13 : cd_13.all (bd_row 13) = true := by decide +kernel
set_option maxRecDepth 200000 in
theorem zm_13 : bd_mw 13 = true := by decide +kernel
set_option maxRecDepth 200000 in
theorem zc_13 : lw_tbl[(mpM 13).1]? = some (.code (mtM 13).1 (mtM 13).2.1 (mtM 13).2.2.1 (mtM 13).2.2.2.1) := rfl
set_option maxRecDepth 200000 in
set_option maxHeartbeats 4000000 in
theorem zr_14 : cd_14.all (bd_row 14) = true := by decide +kernel
set_option maxRecDepth 200000 in
theorem zm_14 : bd_mw 14 = true := by decide +kernel
set_option maxRecDepth 200000 in
theorem zc_14 : lw_tbl[(mpM 14).1]? = some (.code (mtM 14).1 (mtM 14).2.1 (mtM 14).2.2.1 (mtM 14).2.2.2.1) := rfl
set_option maxRecDepth 200000 in
set_option maxHeartbeats 4000000 in
theorem zr_15 : cd_15.all (bd_row 15) = true := by decide +kernel
set_option maxRecDepth 200000 in
theorem zm_15 : bd_mw 15 = true := by decide +kernel
set_option maxRecDepth 200000 in
theorem zc_15 : lw_tbl[(mpM 15).1]? = some (.code (mtM 15).1 (mtM 15).2.1 (mtM 15).2.2.1 (mtM 15).2.2.2.1) := rfl
set_option maxRecDepth 200000 in
set_option maxHeartbeats 4000000 in
theorem zr_16 : cd_16.all (bd_row 16) = true := by decide +kernel
set_option maxRecDepth 200000 in
theorem zm_16 : bd_mw 16 = true := by decide +kernel
set_option maxRecDepth 200000 in
theorem zc_16 : lw_tbl[(mpM 16).1]? = some (.code (mtM 16).1 (mtM 16).2.1 (mtM 16).2.2.1 (mtM 16).2.2.2.1) := rfl
set_option maxRecDepth 200000 in
set_option maxHeartbeats 4000000 in
theorem zr_17 : cd_17.all (bd_row 17) = true := by decide +kernel
set_option maxRecDepth 200000 in
theorem zm_17 : bd_mw 17 = true := by decide +kernel
set_option maxRecDepth 200000 in
theorem zc_17 : lw_tbl[(mpM 17).1]? = some (.code (mtM 17).1 (mtM 17).2.1 (mtM 17).2.2.1 (mtM 17).2.2.2.1) := rfl
set_option maxRecDepth 200000 in
set_option maxHeartbeats 4000000 in
theorem zr_18 : cd_18.all (bd_row 18) = true := by decide +kernel
set_option maxRecDepth 200000 in
theorem zm_18 : bd_mw 18 = true := by decide +kernel
set_option maxRecDepth 200000 in
theorem zc_18 : lw_tbl[(mpM 18).1]? = some (.code (mtM 18).1 (mtM 18).2.1 (mtM 18).2.2.1 (mtM 18).2.2.2.1) := rfl
set_option maxRecDepth 200000 in
set_option maxHeartbeats 4000000 in
theorem zr_19 : cd_19.all (bd_row 19) = true := by decide +kernel
set_option maxRecDepth 200000 in
theorem zm_19 : bd_mw 19 = true := by decide +kernel
set_option maxRecDepth 200000 in
theorem zc_19 : lw_tbl[(mpM 19).1]? = some (.code (mtM 19).1 (mtM 19).2.1 (mtM 19).2.2.1 (mtM 19).2.2.2.1) := rfl
set_option maxRecDepth 200000 in
set_option maxHeartbeats 4000000 in
theorem zr_20 : cd_20.all (bd_row 20) = true := by decide +kernel
set_option maxRecDepth 200000 in
theorem zm_20 : bd_mw 20 = true := by decide +kernel
set_option maxRecDepth 200000 in
theorem zc_20 : lw_tbl[(mpM 20).1]? = some (.code (mtM 20).1 (mtM 20).2.1 (mtM 20).2.2.1 (mtM 20).2.2.2.1) := rfl
set_option maxRecDepth 200000 in
set_option maxHeartbeats 4000000 in
theorem zr_21 : cd_21.all (bd_row 21) = true := by decide +kernel
set_option maxRecDepth 200000 in
theorem zm_21 : bd_mw 21 = true := by decide +kernel
set_option maxRecDepth 200000 in
theorem zc_21 : lw_tbl[(mpM 21).1]? = some (.code (mtM 21).1 (mtM 21).2.1 (mtM 21).2.2.1 (mtM 21).2.2.2.1) := rfl
set_option maxRecDepth 200000 in
set_option maxHeartbeats 4000000 in
theorem zr_22 : cd_22.all (bd_row 22) = true := by decide +kernel
set_option maxRecDepth 200000 in
theorem zm_22 : bd_mw 22 = true := by decide +kernel
set_option maxRecDepth 200000 in
theorem zc_22 : lw_tbl[(mpM 22).1]? = some (.code (mtM 22).1 (mtM 22).2.1 (mtM 22).2.2.1 (mtM 22).2.2.2.1) := rfl
set_option maxRecDepth 200000 in
set_option maxHeartbeats 4000000 in
theorem zr_23 : cd_23.all (bd_row 23) = true := by decide +kernel
set_option maxRecDepth 200000 in
theorem zm_23 : bd_mw 23 = true := by decide +kernel
set_option maxRecDepth 200000 in
theorem zc_23 : lw_tbl[(mpM 23).1]? = some (.code (mtM 23).1 (mtM 23).2.1 (mtM 23).2.2.1 (mtM 23).2.2.2.1) := rfl
set_option maxRecDepth 200000 in
set_option maxHeartbeats 4000000 in
theorem zr_24 : cd_24.all (bd_row 24) = true := by decide +kernel
set_option maxRecDepth 200000 in
theorem zm_24 : bd_mw 24 = true := by decide +kernel
set_option maxRecDepth 200000 in
theorem zc_24 : lw_tbl[(mpM 24).1]? = some (.code (mtM 24).1 (mtM 24).2.1 (mtM 24).2.2.1 (mtM 24).2.2.2.1) := rfl
set_option maxRecDepth 200000 in
set_option maxHeartbeats 4000000 in
theorem zr_25 : cd_25.all (bd_row 25) = true := by decide +kernel
set_option maxRecDepth 200000 in
theorem zm_25 : bd_mw 25 = true := by decide +kernel
set_option maxRecDepth 200000 in
theorem zc_25 : lw_tbl[(mpM 25).1]? = some (.code (mtM 25).1 (mtM 25).2.1 (mtM 25).2.2.1 (mtM 25).2.2.2.1) := rfl
set_option maxRecDepth 200000 in
set_option maxHeartbeats 4000000 in
theorem zr_26 : cd_26.all (bd_row 26) = true := by decide +kernel
set_option maxRecDepth 200000 in
theorem zm_26 : bd_mw 26 = true := by decide +kernel
set_option maxRecDepth 200000 in
theorem zc_26 : lw_tbl[(mpM 26).1]? = some (.code (mtM 26).1 (mtM 26).2.1 (mtM 26).2.2.1 (mtM 26).2.2.2.1) := rfl
set_option maxRecDepth 200000 in
set_option maxHeartbeats 4000000 in
theorem zr_27 : cd_27.all (bd_row 27) = true := by decide +kernel
set_option maxRecDepth 200000 in
theorem zm_27 : bd_mw 27 = true := by decide +kernel
set_option maxRecDepth 200000 in
theorem zc_27 : lw_tbl[(mpM 27).1]? = some (.code (mtM 27).1 (mtM 27).2.1 (mtM 27).2.2.1 (mtM 27).2.2.2.1) := rfl
set_option maxRecDepth 200000 in
set_option maxHeartbeats 4000000 in
theorem zr_28 : cd_28.all (bd_row 28) = true := by decide +kernel
set_option maxRecDepth 200000 in
theorem zm_28 : bd_mw 28 = true := by decide +kernel
set_option maxRecDepth 200000 in
theorem zc_28 : lw_tbl[(mpM 28).1]? = some (.code (mtM 28).1 (mtM 28).2.1 (mtM 28).2.2.1 (mtM 28).2.2.2.1) := rfl
set_option maxRecDepth 200000 in
set_option maxHeartbeats 4000000 in
theorem zr_29 : cd_29.all (bd_row 29) = true := by decide +kernel
set_option maxRecDepth 200000 in
theorem zm_29 : bd_mw 29 = true := by decide +kernel
set_option maxRecDepth 200000 in
theorem zc_29 : lw_tbl[(mpM 29).1]? = some (.code (mtM 29).1 (mtM 29).2.1 (mtM 29).2.2.1 (mtM 29).2.2.2.1) := rfl
set_option maxRecDepth 200000 in
set_option maxHeartbeats 4000000 in
theorem zr_30 : cd_30.all (bd_row 30) = true := by decide +kernel
set_option maxRecDepth 200000 in
theorem zm_30 : bd_mw 30 = true := by decide +kernel
set_option maxRecDepth 200000 in
theorem zc_30 : lw_tbl[(mpM 30).1]? = some (.code (mtM 30).1 (mtM 30).2.1 (mtM 30).2.2.1 (mtM 30).2.2.2.1) := rfl
set_option maxRecDepth 200000 in
set_option maxHeartbeats 4000000 in
theorem zr_31 : cd_31.all (bd_row 31) = true := by decide +kernel
set_option maxRecDepth 200000 in
theorem zm_31 : bd_mw 31 = true := by decide +kernel
set_option maxRecDepth 200000 in
theorem zc_31 : lw_tbl[(mpM 31).1]? = some (.code (mtM 31).1 (mtM 31).2.1 (mtM 31).2.2.1 (mtM 31).2.2.2.1) := rfl
set_option maxRecDepth 200000 in
set_option maxHeartbeats 4000000 in
theorem zr_32 : cd_32.all (bd_row 32) = true := by decide +kernel
set_option maxRecDepth 200000 in
theorem zm_32 : bd_mw 32 = true := by decide +kernel
set_option maxRecDepth 200000 in
theorem zc_32 : lw_tbl[(mpM 32).1]? = some (.code (mtM 32).1 (mtM 32).2.1 (mtM 32).2.2.1 (mtM 32).2.2.2.1) := rfl
set_option maxRecDepth 200000 in
set_option maxHeartbeats 4000000 in
theorem zr_33 : cd_33.all (bd_row 33) = true := by decide +kernel
set_option maxRecDepth 200000 in
theorem zm_33 : bd_mw 33 = true := by decide +kernel
set_option maxRecDepth 200000 in
theorem zc_33 : lw_tbl[(mpM 33).1]? = some (.code (mtM 33).1 (mtM 33).2.1 (mtM 33).2.2.1 (mtM 33).2.2.2.1) := rfl
set_option maxRecDepth 200000 in
set_option maxHeartbeats 4000000 in
theorem zr_34 : cd_34.all (bd_row 34) = true := by decide +kernel
set_option maxRecDepth 200000 in
theorem zm_34 : bd_mw 34 = true := by decide +kernel
set_option maxRecDepth 200000 in
theorem zc_34 : lw_tbl[(mpM 34).1]? = some (.code (mtM 34).1 (mtM 34).2.1 (mtM 34).2.2.1 (mtM 34).2.2.2.1) := rfl
set_option maxRecDepth 200000 in
set_option maxHeartbeats 4000000 in
theorem zr_35 : cd_35.all (bd_row 35) = true := by decide +kernel
set_option maxRecDepth 200000 in
theorem zm_35 : bd_mw 35 = true := by decide +kernel
set_option maxRecDepth 200000 in
theorem zc_35 : lw_tbl[(mpM 35).1]? = some (.code (mtM 35).1 (mtM 35).2.1 (mtM 35).2.2.1 (mtM 35).2.2.2.1) := rfl
set_option maxRecDepth 200000 in
set_option maxHeartbeats 4000000 in
theorem zr_36 : cd_36.all (bd_row 36) = true := by decide +kernel
set_option maxRecDepth 200000 in
theorem zm_36 : bd_mw 36 = true := by decide +kernel
set_option maxRecDepth 200000 in
theorem zc_36 : lw_tbl[(mpM 36).1]? = some (.code (mtM 36).1 (mtM 36).2.1 (mtM 36).2.2.1 (mtM 36).2.2.2.1) := rfl
set_option maxRecDepth 200000 in
set_option maxHeartbeats 4000000 in
theorem zr_37 : cd_37.all (bd_row 37) = true := by decide +kernel
set_option maxRecDepth 200000 in
theorem zm_37 : bd_mw 37 = true := by decide +kernel
set_option maxRecDepth 200000 in
theorem zc_37 : lw_tbl[(mpM 37).1]? = some (.code (mtM 37).1 (mtM 37).2.1 (mtM 37).2.2.1 (mtM 37).2.2.2.1) := rfl
set_option maxRecDepth 200000 in
set_option maxHeartbeats 4000000 in
theorem zr_38 : cd_38.all (bd_row 38) = true := by decide +kernel
set_option maxRecDepth 200000 in
theorem zm_38 : bd_mw 38 = true := by decide +kernel
set_option maxRecDepth 200000 in
theorem zc_38 : lw_tbl[(mpM 38).1]? = some (.code (mtM 38).1 (mtM 38).2.1 (mtM 38).2.2.1 (mtM 38).2.2.2.1) := rfl
set_option maxRecDepth 200000 in
set_option maxHeartbeats 4000000 in
theorem zr_39 : cd_39.all (bd_row 39) = true := by decide +kernel
set_option maxRecDepth 200000 in
theorem zm_39 : bd_mw 39 = true := by decide +kernel
set_option maxRecDepth 200000 in
theorem zc_39 : lw_tbl[(mpM 39).1]? = some (.code (mtM 39).1 (mtM 39).2.1 (mtM 39).2.2.1 (mtM 39).2.2.2.1) := rfl
set_option maxRecDepth 200000 in
set_option maxHeartbeats 4000000 in
theorem zr_40 : cd_40.all (bd_row 40) = true := by decide +kernel
set_option maxRecDepth 200000 in
theorem zm_40 : bd_mw 40 = true := by decide +kernel
set_option maxRecDepth 200000 in
theorem zc_40 : lw_tbl[(mpM 40).1]? = some (.code (mtM 40).1 (mtM 40).2.1 (mtM 40).2.2.1 (mtM 40).2.2.2.1) := rfl
set_option maxRecDepth 200000 in
set_option maxHeartbeats 4000000 in
theorem zr_41 : cd_41.all (bd_row 41) = true := by decide +kernel
set_option maxRecDepth 200000 in
theorem zm_41 : bd_mw 41 = true := by decide +kernel
set_option maxRecDepth 200000 in
theorem zc_41 : lw_tbl[(mpM 41).1]? = some (.code (mtM 41).1 (mtM 41).2.1 (mtM 41).2.2.1 (mtM 41).2.2.2.1) := rfl
set_option maxRecDepth 200000 in
set_option maxHeartbeats 4000000 in
theorem zr_42 : cd_42.all (bd_row 42) = true := by decide +kernel
set_option maxRecDepth 200000 in
theorem zm_42 : bd_mw 42 = true := by decide +kernel
set_option maxRecDepth 200000 in
theorem zc_42 : lw_tbl[(mpM 42).1]? = some (.code (mtM 42).1 (mtM 42).2.1 (mtM 42).2.2.1 (mtM 42).2.2.2.1) := rfl
set_option maxRecDepth 200000 in
set_option maxHeartbeats 4000000 in
theorem zr_43 : cd_43.all (bd_row 43) = true := by decide +kernel
set_option maxRecDepth 200000 in
theorem zm_43 : bd_mw 43 = true := by decide +kernel
set_option maxRecDepth 200000 in
theorem zc_43 : lw_tbl[(mpM 43).1]? = some (.code (mtM 43).1 (mtM 43).2.1 (mtM 43).2.2.1 (mtM 43).2.2.2.1) := rfl
set_option maxRecDepth 200000 in
set_option maxHeartbeats 4000000 in
theorem zr_44 : cd_44.all (bd_row 44) = true := by decide +kernel
set_option maxRecDepth 200000 in
theorem zm_44 : bd_mw 44 = true := by decide +kernel
set_option maxRecDepth 200000 in
theorem zc_44 : lw_tbl[(mpM 44).1]? = some (.code (mtM 44).1 (mtM 44).2.1 (mtM 44).2.2.1 (mtM 44).2.2.2.1) := rfl
set_option maxRecDepth 200000 in
set_option maxHeartbeats 4000000 in
theorem zr_45 : cd_45.all (bd_row 45) = true := by decide +kernel
set_option maxRecDepth 200000 in
theorem zm_45 : bd_mw 45 = true := by decide +kernel
set_option maxRecDepth 200000 in
theorem zc_45 : lw_tbl[(mpM 45).1]? = some (.code (mtM 45).1 (mtM 45).2.1 (mtM 45).2.2.1 (mtM 45).2.2.2.1) := rfl
set_option maxRecDepth 200000 in
set_option maxHeartbeats 4000000 in
theorem zr_46 : cd_46.all (bd_row 46) = true := by decide +kernel
set_option maxRecDepth 200000 in
theorem zm_46 : bd_mw 46 = true := by decide +kernel
set_option maxRecDepth 200000 in
theorem zc_46 : lw_tbl[(mpM 46).1]? = some (.code (mtM 46).1 (mtM 46).2.1 (mtM 46).2.2.1 (mtM 46).2.2.2.1) := rfl
set_option maxRecDepth 200000 in
set_option maxHeartbeats 4000000 in
theorem zr_47 : cd_47.all (bd_row 47) = true := by decide +kernel
set_option maxRecDepth 200000 in
theorem zm_47 : bd_mw 47 = true := by decide +kernel
set_option maxRecDepth 200000 in
theorem zc_47 : lw_tbl[(mpM 47).1]? = some (.code (mtM 47).1 (mtM 47).2.1 (mtM 47).2.2.1 (mtM 47).2.2.2.1) := rfl
set_option maxRecDepth 200000 in
set_option maxHeartbeats 4000000 in
theorem zr_48 : cd_48.all (bd_row 48) = true := by decide +kernel
set_option maxRecDepth 200000 in
theorem zm_48 : bd_mw 48 = true := by decide +kernel
set_option maxRecDepth 200000 in
theorem zc_48 : lw_tbl[(mpM 48).1]? = some (.code (mtM 48).1 (mtM 48).2.1 (mtM 48).2.2.1 (mtM 48).2.2.2.1) := rfl
set_option maxRecDepth 200000 in
set_option maxHeartbeats 4000000 in
theorem zr_49 : cd_49.all (bd_row 49) = true := by decide +kernel
set_option maxRecDepth 200000 in
theorem zm_49 : bd_mw 49 = true := by decide +kernel
set_option maxRecDepth 200000 in
theorem zc_49 : lw_tbl[(mpM 49).1]? = some (.code (mtM 49).1 (mtM 49).2.1 (mtM 49).2.2.1 (mtM 49).2.2.2.1) := rfl
set_option maxRecDepth 200000 in
set_option maxHeartbeats 4000000 in
theorem zr_50 : cd_50.all (bd_row 50) = true := by decide +kernel
set_option maxRecDepth 200000 in
theorem zm_50 : bd_mw 50 = true := by decide +kernel
set_option maxRecDepth 200000 in
theorem zc_50 : lw_tbl[(mpM 50).1]? = some (.code (mtM 50).1 (mtM 50).2.1 (mtM 50).2.2.1 (mtM 50).2.2.2.1) := rfl
set_option maxRecDepth 200000 in
set_option maxHeartbeats 4000000 in
theorem zr_51 : cd_51.all (bd_row 51) = true := by decide +kernel
set_option maxRecDepth 200000 in
theorem zm_51 : bd_mw 51 = true := by decide +kernel
set_option maxRecDepth 200000 in
theorem zc_51 : lw_tbl[(mpM 51).1]? = some (.code (mtM 51).1 (mtM 51).2.1 (mtM 51).2.2.1 (mtM 51).2.2.2.1) := rfl
set_option maxRecDepth 200000 in
set_option maxHeartbeats 4000000 in
theorem zr_52 : cd_52.all (bd_row 52) = true := by decide +kernel
set_option maxRecDepth 200000 in
theorem zm_52 : bd_mw 52 = true := by decide +kernel
set_option maxRecDepth 200000 in
theorem zc_52 : lw_tbl[(mpM 52).1]? = some (.code (mtM 52).1 (mtM 52).2.1 (mtM 52).2.2.1 (mtM 52).2.2.2.1) := rfl
set_option maxRecDepth 200000 in
set_option maxHeartbeats 4000000 in
theorem zr_53 : cd_53.all (bd_row 53) = true := by decide +kernel
set_option maxRecDepth 200000 in
theorem zm_53 : bd_mw 53 = true := by decide +kernel
set_option maxRecDepth 200000 in
theorem zc_53 : lw_tbl[(mpM 53).1]? = some (.code (mtM 53).1 (mtM 53).2.1 (mtM 53).2.2.1 (mtM 53).2.2.2.1) := rfl
set_option maxRecDepth 200000 in
set_option maxHeartbeats 4000000 in
theorem zr_54 : cd_54.all (bd_row 54) = true := by decide +kernel
set_option maxRecDepth 200000 in
theorem zm_54 : bd_mw 54 = true := by decide +kernel
set_option maxRecDepth 200000 in
theorem zc_54 : lw_tbl[(mpM 54).1]? = some (.code (mtM 54).1 (mtM 54).2.1 (mtM 54).2.2.1 (mtM 54).2.2.2.1) := rfl
set_option maxRecDepth 200000 in
set_option maxHeartbeats 4000000 in
theorem zr_55 : cd_55.all (bd_row 55) = true := by decide +kernel
set_option maxRecDepth 200000 in
theorem zm_55 : bd_mw 55 = true := by decide +kernel
set_option maxRecDepth 200000 in
theorem zc_55 : lw_tbl[(mpM 55).1]? = some (.code (mtM 55).1 (mtM 55).2.1 (mtM 55).2.2.1 (mtM 55).2.2.2.1) := rfl
set_option maxRecDepth 200000 in
set_option maxHeartbeats 4000000 in
theorem zr_56 : cd_56.all (bd_row 56) = true := by decide +kernel
set_option maxRecDepth 200000 in
theorem zm_56 : bd_mw 56 = true := by decide +kernel
set_option maxRecDepth 200000 in
theorem zc_56 : lw_tbl[(mpM 56).1]? = some (.code (mtM 56).1 (mtM 56).2.1 (mtM 56).2.2.1 (mtM 56).2.2.2.1) := rfl
set_option maxRecDepth 200000 in
set_option maxHeartbeats 4000000 in
theorem zr_57 : cd_57.all (bd_row 57) = true := by decide +kernel
set_option maxRecDepth 200000 in
theorem zm_57 : bd_mw 57 = true := by decide +kernel
set_option maxRecDepth 200000 in
theorem zc_57 : lw_tbl[(mpM 57).1]? = some (.code (mtM 57).1 (mtM 57).2.1 (mtM 57).2.2.1 (mtM 57).2.2.2.1) := rfl
set_option maxRecDepth 200000 in
set_option maxHeartbeats 4000000 in
theorem zr_58 : cd_58.all (bd_row 58) = true := by decide +kernel
set_option maxRecDepth 200000 in
theorem zm_58 : bd_mw 58 = true := by decide +kernel
set_option maxRecDepth 200000 in
theorem zc_58 : lw_tbl[(mpM 58).1]? = some (.code (mtM 58).1 (mtM 58).2.1 (mtM 58).2.2.1 (mtM 58).2.2.2.1) := rfl
set_option maxRecDepth 200000 in
set_option maxHeartbeats 4000000 in
theorem zr_59 : cd_59.all (bd_row 59) = true := by decide +kernel
set_option maxRecDepth 200000 in
theorem zm_59 : bd_mw 59 = true := by decide +kernel
set_option maxRecDepth 200000 in
theorem zc_59 : lw_tbl[(mpM 59).1]? = some (.code (mtM 59).1 (mtM 59).2.1 (mtM 59).2.2.1 (mtM 59).2.2.2.1) := rfl
set_option maxRecDepth 200000 in
set_option maxHeartbeats 4000000 in
theorem zr_60 : cd_60.all (bd_row 60) = true := by decide +kernel
set_option maxRecDepth 200000 in
theorem zm_60 : bd_mw 60 = true := by decide +kernel
set_option maxRecDepth 200000 in
theorem zc_60 : lw_tbl[(mpM 60).1]? = some (.code (mtM 60).1 (mtM 60).2.1 (mtM 60).2.2.1 (mtM 60).2.2.2.1) := rfl
set_option maxRecDepth 200000 in
set_option maxHeartbeats 4000000 in
theorem zr_61 : cd_61.all (bd_row 61) = true := by decide +kernel
set_option maxRecDepth 200000 in
theorem zm_61 : bd_mw 61 = true := by decide +kernel
set_option maxRecDepth 200000 in
theorem zc_61 : lw_tbl[(mpM 61).1]? = some (.code (mtM 61).1 (mtM 61).2.1 (mtM 61).2.2.1 (mtM 61).2.2.2.1) := rfl
set_option maxRecDepth 200000 in
set_option maxHeartbeats 4000000 in
theorem zr_62 : cd_62.all (bd_row 62) = true := by decide +kernel
set_option maxRecDepth 200000 in
theorem zm_62 : bd_mw 62 = true := by decide +kernel
set_option maxRecDepth 200000 in
theorem zc_62 : lw_tbl[(mpM 62).1]? = some (.code (mtM 62).1 (mtM 62).2.1 (mtM 62).2.2.1 (mtM 62).2.2.2.1) := rfl
set_option maxRecDepth 200000 in
set_option maxHeartbeats 4000000 in
theorem zr_63 : cd_63.all (bd_row 63) = true := by decide +kernel
set_option maxRecDepth 200000 in
theorem zm_63 : bd_mw 63 = true := by decide +kernel
set_option maxRecDepth 200000 in
theorem zc_63 : lw_tbl[(mpM 63).1]? = some (.code (mtM 63).1 (mtM 63).2.1 (mtM 63).2.2.1 (mtM 63).2.2.2.1) := rfl
set_option maxRecDepth 200000 in
set_option maxHeartbeats 4000000 in
theorem zr_64 : cd_64.all (bd_row 64) = true := by decide +kernel
set_option maxRecDepth 200000 in
theorem zm_64 : bd_mw 64 = true := by decide +kernel
set_option maxRecDepth 200000 in
theorem zc_64 : lw_tbl[(mpM 64).1]? = some (.code (mtM 64).1 (mtM 64).2.1 (mtM 64).2.2.1 (mtM 64).2.2.2.1) := rfl
set_option maxRecDepth 200000 in
set_option maxHeartbeats 4000000 in
theorem zr_65 : cd_65.all (bd_row 65) = true := by decide +kernel
set_option maxRecDepth 200000 in
theorem zm_65 : bd_mw 65 = true := by decide +kernel
set_option maxRecDepth 200000 in
theorem zc_65 : lw_tbl[(mpM 65).1]? = some (.code (mtM 65).1 (mtM 65).2.1 (mtM 65).2.2.1 (mtM 65).2.2.2.1) := rfl
set_option maxRecDepth 200000 in
set_option maxHeartbeats 4000000 in
theorem zr_66 : cd_66.all (bd_row 66) = true := by decide +kernel
set_option maxRecDepth 200000 in
theorem zm_66 : bd_mw 66 = true := by decide +kernel
set_option maxRecDepth 200000 in
theorem zc_66 : lw_tbl[(mpM 66).1]? = some (.code (mtM 66).1 (mtM 66).2.1 (mtM 66).2.2.1 (mtM 66).2.2.2.1) := rfl
set_option maxRecDepth 200000 in
set_option maxHeartbeats 4000000 in
theorem zr_67 : cd_67.all (bd_row 67) = true := by decide +kernel
set_option maxRecDepth 200000 in
theorem zm_67 : bd_mw 67 = true := by decide +kernel
set_option maxRecDepth 200000 in
theorem zc_67 : lw_tbl[(mpM 67).1]? = some (.code (mtM 67).1 (mtM 67).2.1 (mtM 67).2.2.1 (mtM 67).2.2.2.1) := rfl
set_option maxRecDepth 200000 in
set_option maxHeartbeats 4000000 in
theorem zr_68 : cd_68.all (bd_row 68) = true := by decide +kernel
set_option maxRecDepth 200000 in
theorem zm_68 : bd_mw 68 = true := by decide +kernel
set_option maxRecDepth 200000 in
theorem zc_68 : lw_tbl[(mpM 68).1]? = some (.code (mtM 68).1 (mtM 68).2.1 (mtM 68).2.2.1 (mtM 68).2.2.2.1) := rfl
set_option maxRecDepth 200000 in
set_option maxHeartbeats 4000000 in
theorem zr_69 : cd_69.all (bd_row 69) = true := by decide +kernel
set_option maxRecDepth 200000 in
theorem zm_69 : bd_mw 69 = true := by decide +kernel
set_option maxRecDepth 200000 in
theorem zc_69 : lw_tbl[(mpM 69).1]? = some (.code (mtM 69).1 (mtM 69).2.1 (mtM 69).2.2.1 (mtM 69).2.2.2.1) := rfl
set_option maxRecDepth 200000 in
set_option maxHeartbeats 4000000 in
theorem zr_70 : cd_70.all (bd_row 70) = true := by decide +kernel
set_option maxRecDepth 200000 in
theorem zm_70 : bd_mw 70 = true := by decide +kernel
set_option maxRecDepth 200000 in
theorem zc_70 : lw_tbl[(mpM 70).1]? = some (.code (mtM 70).1 (mtM 70).2.1 (mtM 70).2.2.1 (mtM 70).2.2.2.1) := rfl
set_option maxRecDepth 200000 in
set_option maxHeartbeats 4000000 in
theorem zr_71 : cd_71.all (bd_row 71) = true := by decide +kernel
set_option maxRecDepth 200000 in
theorem zm_71 : bd_mw 71 = true := by decide +kernel
set_option maxRecDepth 200000 in
theorem zc_71 : lw_tbl[(mpM 71).1]? = some (.code (mtM 71).1 (mtM 71).2.1 (mtM 71).2.2.1 (mtM 71).2.2.2.1) := rfl
set_option maxRecDepth 200000 in
set_option maxHeartbeats 4000000 in
theorem zr_72 : cd_72.all (bd_row 72) = true := by decide +kernel
set_option maxRecDepth 200000 in
theorem zm_72 : bd_mw 72 = true := by decide +kernel
set_option maxRecDepth 200000 in
theorem zc_72 : lw_tbl[(mpM 72).1]? = some (.code (mtM 72).1 (mtM 72).2.1 (mtM 72).2.2.1 (mtM 72).2.2.2.1) := rfl
set_option maxRecDepth 200000 in
set_option maxHeartbeats 4000000 in
theorem zr_73 : cd_73.all (bd_row 73) = true := by decide +kernel
set_option maxRecDepth 200000 in
theorem zm_73 : bd_mw 73 = true := by decide +kernel
set_option maxRecDepth 200000 in
theorem zc_73 : lw_tbl[(mpM 73).1]? = some (.code (mtM 73).1 (mtM 73).2.1 (mtM 73).2.2.1 (mtM 73).2.2.2.1) := rfl
