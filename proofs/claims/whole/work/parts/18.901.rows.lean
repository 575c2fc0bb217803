set_option maxRecDepth 200000 in
set_option maxHeartbeats 4000000 in
theorem zr_74 : cd_74.all (bd_row 74) = true := by decide +kernel
set_option maxRecDepth 200000 in
theorem zm_74 : bd_mw 74 = true := by decide +kernel
set_option maxRecDepth 200000 in
theorem zc_74 : lw_tbl[(mpM 74).1]? = some (.code (mtM 74).1 (mtM 74).2.1 (mtM 74).2.2.1 (mtM 74).2.2.2.1) := rfl
set_option maxRecDepth 200000 in
set_option maxHeartbeats 4000000 in
theorem zr_75 : cd_75.all (bd_row 75) = true := by decide +kernel
set_option maxRecDepth 200000 in
theorem zm_75 : bd_mw 75 = true := by decide +kernel
set_option maxRecDepth 200000 in
theorem zc_75 : lw_tbl[(mpM 75).1]? = some (.code (mtM 75).1 (mtM 75).2.1 (mtM 75).2.2.1 (mtM 75).2.2.2.1) := rfl
set_option maxRecDepth 200000 in
set_option maxHeartbeats 4000000 in
theorem zr_76 : cd_76.all (bd_row 76) = true := by decide +kernel
set_option maxRecDepth 200000 in
theorem zm_76 : bd_mw 76 = true := by decide +kernel
set_option maxRecDepth 200000 in
theorem zc_76 : lw_tbl[(mpM 76).1]? = some (.code (mtM 76).1 (mtM 76).2.1 (mtM 76).2.2.1 (mtM 76).2.2.2.1) := rfl
set_option maxRecDepth 200000 in
set_option maxHeartbeats 4000000 in
theorem zr_77 : cd_77.all (bd_row 77) = true := by decide +kernel
set_option maxRecDepth 200000 in
theorem zm_77 : bd_mw 77 = true := by decide +kernel
set_option maxRecDepth 200000 in
theorem zc_77 : lw_tbl[(mpM 77).1]? = some (.code (mtM 77).1 (mtM 77).2.1 (mtM 77).2.2.1 (mtM 77).2.2.2.1) := rfl
set_option maxRecDepth 200000 in
set_option maxHeartbeats 4000000 in
theorem zr_78 : cd_78.all (bd_row 78) = true := by decide +kernel
set_option maxRecDepth 200000 in
theorem zm_78 : bd_mw 78 = true := by decide +kernel
set_option maxRecDepth 200000 in
theorem zc_78 : lw_tbl[(mpM 78).1]? = some (.code (mtM 78).1 (mtM 78).2.1 (mtM 78).2.2.1 (mtM 78).2.2.2.1) := rfl
set_option maxRecDepth 200000 in
set_option maxHeartbeats 4000000 in
theorem zr_79 : cd_79.all (bd_row 79) = true := by decide +kernel
set_option maxRecDepth 200000 in
theorem zm_79 : bd_mw 79 = true := by decide +kernel
set_option maxRecDepth 200000 in
theorem zc_79 : lw_tbl[(mpM 79).1]? = some (.code (mtM 79).1 (mtM 79).2.1 (mtM 79).2.2.1 (mtM 79).2.2.2.1) := rfl
set_option maxRecDepth 200000 in
set_option maxHeartbeats 4000000 in
theorem zr_80 : cd_80.all (bd_row 80) = true := by decide +kernel
set_option maxRecDepth 200000 in
theorem zm_80 : bd_mw 80 = true := by decide +kernel
set_option maxRecDepth 200000 in
theorem zc_80 : lw_tbl[(mpM 80).1]? = some (.code (mtM 80).1 (mtM 80).2.1 (mtM 80).2.2.1 (mtM 80).2.2.2.1) := rfl
set_option maxRecDepth 200000 in
set_option maxHeartbeats 4000000 in
theorem zr_81 : cd_81.all (bd_row 81) = true := by decide +kernel
set_option maxRecDepth 200000 in
theorem zm_81 : bd_mw 81 = true := by decide +kernel
set_option maxRecDepth 200000 in
theorem zc_81 : lw_tbl[(mpM 81).1]? = some (.code (mtM 81).1 (mtM 81).2.1 (mtM 81).2.2.1 (mtM 81).2.2.2.1) := rfl
set_option maxRecDepth 200000 in
set_option maxHeartbeats 4000000 in
theorem zr_82 : cd_82.all (bd_row 82) = true := by decide +kernel
set_option maxRecDepth 200000 in
theorem zm_82 : bd_mw 82 = true := by decide +kernel
set_option maxRecDepth 200000 in
theorem zc_82 : lw_tbl[(mpM 82).1]? = some (.code (mtM 82).1 (mtM 82).2.1 (mtM 82).2.2.1 (mtM 82).2.2.2.1) := rfl
set_option maxRecDepth 200000 in
set_option maxHeartbeats 4000000 in
theorem zr_83 : cd_83.all (bd_row 83) = true := by decide +kernel
set_option maxRecDepth 200000 in
theorem zm_83 : bd_mw 83 = true := by decide +kernel
set_option maxRecDepth 200000 in
theorem zc_83 : lw_tbl[(mpM 83).1]? = some (.code (mtM 83).1 (mtM 83).2.1 (mtM 83).2.2.1 (mtM 83).2.2.2.1) := rfl
set_option maxRecDepth 200000 in
set_option maxHeartbeats 4000000 in
theorem zr_84 : cd_84.all (bd_row 84) = true := by decide +kernel
set_option maxRecDepth 200000 in
theorem zm_84 : bd_mw 84 = true := by decide +kernel
set_option maxRecDepth 200000 in
theorem zc_84 : lw_tbl[(mpM 84).1]? = some (.code (mtM 84).1 (mtM 84).2.1 (mtM 84).2.2.1 (mtM 84).2.2.2.1) := rfl
set_option maxRecDepth 200000 in
set_option maxHeartbeats 4000000 in
theorem zr_85 : cd_85.all (bd_row 85) = true := by decide +kernel
set_option maxRecDepth 200000 in
theorem zm_85 : bd_mw 85 = true := by decide +kernel
set_option maxRecDepth 200000 in
theorem zc_85 : lw_tbl[(mpM 85).1]? = some (.code (mtM 85).1 (mtM 85).2.1 (mtM 85).2.2.1 (mtM 85).2.2.2.1) := rfl
set_option maxRecDepth 200000 in
set_option maxHeartbeats 4000000 in
theorem zr_86 : cd_86.all (bd_row 86) = true := by decide +kernel
set_option maxRecDepth 200000 in
theorem zm_86 : bd_mw 86 = true := by decide +kernel
set_option maxRecDepth 200000 in
theorem zc_86 : lw_tbl[(mpM 86).1]? = some (.code (mtM 86).1 (mtM 86).2.1 (mtM 86).2.2.1 (mtM 86).2.2.2.1) := rfl
set_option maxRecDepth 200000 in
set_option maxHeartbeats 4000000 in
theorem zr_87 : cd_87.all (bd_row 87) = true := by decide +kernel
set_option maxRecDepth 200000 in
theorem zm_87 : bd_mw 87 = true := by decide +kernel
set_option maxRecDepth 200000 in
theorem zc_87 : lw_tbl[(mpM 87).1]? = some (.code (mtM 87).1 (mtM 87).2.1 (mtM 87).2.2.1 (mtM 87).2.2.2.1) := rfl
set_option maxRecDepth 200000 in
set_option maxHeartbeats 4000000 in
theorem zr_88 : cd_88.all (bd_row 88) = true := by decide +kernel
set_option maxRecDepth 200000 in
theorem zm_88 : bd_mw 88 = true := by decide +kernel
set_option maxRecDepth 200000 in
theorem zc_88 : lw_tbl[(mpM 88).1]? = some (.code (mtM 88).1 (mtM 88).2.1 (mtM 88).2.2.1 (mtM 88).2.2.2.1) := rfl
set_option maxRecDepth 200000 in
set_option maxHeartbeats 4000000 in
theorem zr_89 : cd_89.all (bd_row 89) = true := by decide +kernel
set_option maxRecDepth 200000 in
theorem zm_89 : bd_mw 89 = true := by decide +kernel
set_option maxRecDepth 200000 in
theorem zc_89 : lw_tbl[(mpM 89).1]? = some (.code (mtM 89).1 (mtM 89).2.1 (mtM 89).2.2.1 (mtM 89).2.2.2.1) := rfl
set_option maxRecDepth 200000 in
set_option maxHeartbeats 4000000 in
theorem zr_90 : cd_90.all (bd_row 90) = true := by decide +kernel
set_option maxRecDepth 200000 in
theorem zm_90 : bd_mw 90 = true := by decide +kernel
set_option maxRecDepth 200000 in
theorem zc_90 : lw_tbl[(mpM 90).1]? = some (.code (mtM 90).1 (mtM 90).2.1 (mtM 90).2.2.1 (mtM 90).2.2.2.1) := rfl
set_option maxRecDepth 200000 in
set_option maxHeartbeats 4000000 in
theorem zr_91 : cd_91.all (bd_row 91) = true := by decide +kernel
set_option maxRecDepth 200000 in
theorem zm_91 : bd_mw 91 = true := by decide +kernel
set_option maxRecDepth 200000 in
theorem zc_91 : lw_tbl[(mpM 91).1]? = some (.code (mtM 91).1 (mtM 91).2.1 (mtM 91).2.2.1 (mtM 91).2.2.2.1) := rfl
set_option maxRecDepth 200000 in
set_option maxHeartbeats 4000000 in
theorem zr_92 : cd_92.all (bd_row 92) = true := by decide +kernel
set_option maxRecDepth 200000 in
theorem zm_92 : bd_mw 92 = true := by decide +kernel
set_option maxRecDepth 200000 in
theorem zc_92 : lw_tbl[(mpM 92).1]? = some (.code (mtM 92).1 (mtM 92).2.1 (mtM 92).2.2.1 (mtM 92).2.2.2.1) := rfl
set_option maxRecDepth 200000 in
set_option maxHeartbeats 4000000 in
theorem zr_93 : cd_93.all (bd_row 93) = true := by decide +kernel
set_option maxRecDepth 200000 in
theorem zm_93 : bd_mw 93 = true := by decide +kernel
set_option maxRecDepth 200000 in
theorem zc_93 : lw_tbl[(mpM 93).1]? = some (.code (mtM 93).1 (mtM 93).2.1 (mtM 93).2.2.1 (mtM 93).2.2.2.1) := rfl
set_option maxRecDepth 200000 in
set_option maxHeartbeats 4000000 in
theorem zr_94 : cd_94.all (bd_row 94) = true := by decide +kernel
set_option maxRecDepth 200000 in
theorem zm_94 : bd_mw 94 = true := by decide +kernel
set_option maxRecDepth 200000 in
theorem zc_94 : lw_tbl[(mpM 94).1]? = some (.code (mtM 94).1 (mtM 94).2.1 (mtM 94).2.2.1 (mtM 94).2.2.2.1) := rfl
set_option maxRecDepth 200000 in
set_option maxHeartbeats 4000000 in
theorem zr_95 : cd_95.all (bd_row 95) = true := by decide +kernel
set_option maxRecDepth 200000 in
theorem zm_95 : bd_mw 95 = true := by decide +kernel
set_option maxRecDepth 200000 in
theorem zc_95 : lw_tbl[(mpM 95).1]? = some (.code (mtM 95).1 (mtM 95).2.1 (mtM 95).2.2.1 (mtM 95).2.2.2.1) := rfl
set_option maxRecDepth 200000 in
set_option maxHeartbeats 4000000 in
theorem zr_96 : cd_96.all (bd_row 96) = true := by decide +kernel
set_option maxRecDepth 200000 in
theorem zm_96 : bd_mw 96 = true := by decide +kernel
set_option maxRecDepth 200000 in
theorem zc_96 : lw_tbl[(mpM 96).1]? = some (.code (mtM 96).1 (mtM 96).2.1 (mtM 96).2.2.1 (mtM 96).2.2.2.1) := rfl
set_option maxRecDepth 200000 in
set_option maxHeartbeats 4000000 in
theorem zr_97 : cd_97.all (bd_row 97) = true := by decide +kernel
set_option maxRecDepth 200000 in
theorem zm_97 : bd_mw 97 = true := by decide +kernel
set_option maxRecDepth 200000 in
theorem zc_97 : lw_tbl[(mpM 97).1]? = some (.code (mtM 97).1 (mtM 97).2.1 (mtM 97).2.2.1 (mtM 97).2.2.2.1) := rfl
set_option maxRecDepth 200000 in
set_option maxHeartbeats 4000000 in
theorem zr_98 : cd_98.all (bd_row 98) = true := by decide +kernel
set_option maxRecDepth 200000 in
theorem zm_98 : bd_mw 98 = true := by decide +kernel
set_option maxRecDepth 200000 in
theorem zc_98 : lw_tbl[(mpM 98).1]? = some (.code (mtM 98).1 (mtM 98).2.1 (mtM 98).2.2.1 (mtM 98).2.2.2.1) := rfl
set_option maxRecDepth 200000 in
set_option maxHeartbeats 4000000 in
theorem zr_99 : cd_99.all (bd_row 99) = true := by decide +kernel
set_option maxRecDepth 200000 in
theorem zm_99 : bd_mw 99 = true := by decide +kernel
set_option maxRecDepth 200000 in
theorem zc_99 : lw_tbl[(mpM 99).1]? = some (.code (mtM 99).1 (mtM 99).2.1 (mtM 99).2.2.1 (mtM 99).2.2.2.1) := rfl
set_option maxRecDepth 200000 in
set_option maxHeartbeats 4000000 in
theorem zr_100 : cd_100.all (bd_row 100) = true := by decide +kernel
set_option maxRecDepth 200000 in
theorem zm_100 : bd_mw 100 = true := by decide +kernel
set_option maxRecDepth 200000 in
theorem zc_100 : lw_tbl[(mpM 100).1]? = some (.code (mtM 100).1 (mtM 100).2.1 (mtM 100).2.2.1 (mtM 100).2.2.2.1) := rfl
set_option maxRecDepth 200000 in
set_option maxHeartbeats 4000000 in
theorem zr_101 : cd_101.all (bd_row 101) = true := by decide +kernel
set_option maxRecDepth 200000 in
theorem zm_101 : bd_mw 101 = true := by decide +kernel
set_option maxRecDepth 200000 in
theorem zc_101 : lw_tbl[(mpM 101).1]? = some (.code (mtM 101).1 (mtM 101).2.1 (mtM 101).2.2.1 (mtM 101).2.2.2.1) := rfl
set_option maxRecDepth 200000 in
set_option maxHeartbeats 4000000 in
theorem zr_102 : cd_102.all (bd_row 102) = true := by decide +kernel
set_option maxRecDepth 200000 in
theorem zm_102 : bd_mw 102 = true := by decide +kernel
set_option maxRecDepth 200000 in
theorem zc_102 : lw_tbl[(mpM 102).1]? = some (.code (mtM 102).1 (mtM 102).2.1 (mtM 102).2.2.1 (mtM 102).2.2.2.1) := rfl
set_option maxRecDepth 200000 in
set_option maxHeartbeats 4000000 in
theorem zr_103 : cd_103.all (bd_row 103) = true := by decide +kernel
set_option maxRecDepth 200000 in
theorem zm_103 : bd_mw 103 = true := by decide +kernel
set_option maxRecDepth 200000 in
theorem zc_103 : lw_tbl[(mpM 103).1]? = some (.code (mtM 103).1 (mtM 103).2.1 (mtM 103).2.2.1 (mtM 103).2.2.2.1) := rfl
set_option maxRecDepth 200000 in
set_option maxHeartbeats 4000000 in
theorem zr_104 : cd_104.all (bd_row 104) = true := by decide +kernel
set_option maxRecDepth 200000 in
theorem zm_104 : bd_mw 104 = true := by decide +kernel
set_option maxRecDepth 200000 in
theorem zc_104 : lw_tbl[(mpM 104).1]? = some (.code (mtM 104).1 (mtM 104).2.1 (mtM 104).2.2.1 (mtM 104).2.2.2.1) := rfl
set_option maxRecDepth 200000 in
set_option maxHeartbeats 4000000 in
theorem zr_105 : cd_105.all (bd_row 105) = true := by decide +kernel
set_option maxRecDepth 200000 in
theorem zm_105 : bd_mw 105 = true := by decide +kernel
set_option maxRecDepth 200000 in
theorem zc_105 : lw_tbl[(mpM 105).1]? = some (.code (mtM 105).1 (mtM 105).2.1 (mtM 105).2.2.1 (mtM 105).2.2.2.1) := rfl
set_option maxRecDepth 200000 in
set_option maxHeartbeats 4000000 in
theorem zr_106 : cd_106.all (bd_row 106) = true := by decide +kernel
set_option maxRecDepth 200000 in
theorem zm_106 : bd_mw 106 = true := by decide +kernel
set_option maxRecDepth 200000 in
theorem zc_106 : lw_tbl[(mpM 106).1]? = some (.code (mtM 106).1 (mtM 106).2.1 (mtM 106).2.2.1 (mtM 106).2.2.2.1) := rfl
set_option maxRecDepth 200000 in
set_option maxHeartbeats 4000000 in
theorem zr_107 : cd_107.all (bd_row 107) = true := by decide +kernel
set_option maxRecDepth 200000 in
theorem zm_107 : bd_mw 107 = true := by decide +kernel
set_option maxRecDepth 200000 in
theorem zc_107 : lw_tbl[(mpM 107).1]? = some (.code (mtM 107).1 (mtM 107).2.1 (mtM 107).2.2.1 (mtM 107).2.2.2.1) := rfl
set_option maxRecDepth 200000 in
set_option maxHeartbeats 4000000 in
theorem zr_108 : cd_108.all (bd_row 108) = true := by decide +kernel
set_option maxRecDepth 200000 in
theorem zm_108 : bd_mw 108 = true := by decide +kernel
set_option maxRecDepth 200000 in
theorem zc_108 : lw_tbl[(mpM 108).1]? = some (.code (mtM 108).1 (mtM 108).2.1 (mtM 108).2.2.1 (mtM 108).2.2.2.1) := rfl
set_option maxRecDepth 200000 in
set_option maxHeartbeats 4000000 in
theorem zr_109 : cd_109.all (bd_row 109) = true := by decide +kernel
set_option maxRecDepth 200000 in
theorem zm_109 : bd_mw 109 = true := by decide +kernel
set_option maxRecDepth 200000 in
theorem zc_109 : lw_tbl[(mpM 109).1]? = some (.code (mtM 109).1 (mtM 109).2.1 (mtM 109).2.2.1 (mtM 109).2.2.2.1) := rfl
set_option maxRecDepth 200000 in
set_option maxHeartbeats 4000000 in
theorem zr_110 : cd_110.all (bd_row 110) = true := by decide +kernel
set_option maxRecDepth 200000 in
theorem zm_110 : bd_mw 110 = true := by decide +kernel
set_option maxRecDepth 200000 in
theorem zc_110 : lw_tbl[(mpM 110).1]? = some (.code (mtM 110).1 (mtM 110).2.1 (mtM 110).2.2.1 (mtM 110).2.2.2.1) := rfl
set_option maxRecDepth 200000 in
set_option maxHeartbeats 4000000 in
theorem zr_111 : cd_111.all (bd_row 111) = true := by decide +kernel
set_option maxRecDepth 200000 in
theorem zm_111 : bd_mw 111 = true := by decide +kernel
set_option maxRecDepth 200000 in
theorem zc_111 : lw_tbl[(mpM 111).1]? = some (.code (mtM 111).1 (mtM 111).2.1 (mtM 111).2.2.1 (mtM 111).2.2.2.1) := rfl
set_option maxRecDepth 200000 in
set_option maxHeartbeats 4000000 in
theorem zr_112 : cd_112.all (bd_row 112) = true := by decide +kernel
set_option maxRecDepth 200000 in
theorem zm_112 : bd_mw 112 = true := by decide +kernel
set_option maxRecDepth 200000 in
theorem zc_112 : lw_tbl[(mpM 112).1]? = some (.code (mtM 112).1 (mtM 112).2.1 (mtM 112).2.2.1 (mtM 112).2.2.2.1) := rfl
set_option maxRecDepth 200000 in
set_option maxHeartbeats 4000000 in
theorem zr_113 : cd_113.all (bd_row 113) = true := by decide +kernel
set_option maxRecDepth 200000 in
theorem zm_113 : bd_mw 113 = true := by decide +kernel
set_option maxRecDepth 200000 in
theorem zc_113 : lw_tbl[(mpM 113).1]? = some (.code (mtM 113).1 (mtM 113).2.1 (mtM 113).2.2.1 (mtM 113).2.2.2.1) := rfl
set_option maxRecDepth 200000 in
set_option maxHeartbeats 4000000 in
theorem zr_114 : cd_114.all (bd_row 114) = true := by decide +kernel
set_option maxRecDepth 200000 in
theorem zm_114 : bd_mw 114 = true := by decide +kernel
set_option maxRecDepth 200000 in
theorem zc_114 : lw_tbl[(mpM 114).1]? = some (.code (mtM 114).1 (mtM 114).2.1 (mtM 114).2.2.1 (mtM 114).2.2.2.1) := rfl
set_option maxRecDepth 200000 in
set_option maxHeartbeats 4000000 in
theorem zr_115 : cd_115.all (bd_row 115) = true := by decide +kernel
set_option maxRecDepth 200000 in
theorem zm_115 : bd_mw 115 = true := by decide +kernel
set_option maxRecDepth 200000 in
theorem zc_115 : lw_tbl[(mpM 115).1]? = some (.code (mtM 115).1 (mtM 115).2.1 (mtM 115).2.2.1 (mtM 115).2.2.2.1) := rfl
set_option maxRecDepth 200000 in
set_option maxHeartbeats 4000000 in
theorem zr_116 : cd_116.all (bd_row 116) = true := by decide +kernel
set_option maxRecDepth 200000 in
theorem zm_116 : bd_mw 116 = true := by decide +kernel
set_option maxRecDepth 200000 in
theorem zc_116 : lw_tbl[(mpM 116).1]? = some (.code (mtM 116).1 (mtM 116).2.1 (mtM 116).2.2.1 (mtM 116).2.2.2.1) := rfl
set_option maxRecDepth 200000 in
set_option maxHeartbeats 4000000 in
theorem zr_117 : cd_117.all (bd_row 117) = true := by decide +kernel
set_option maxRecDepth 200000 in
theorem zm_117 : bd_mw 117 = true := by decide +kernel
set_option maxRecDepth 200000 in
theorem zc_117 : lw_tbl[(mpM 117).1]? = some (.code (mtM 117).1 (mtM 117).2.1 (mtM 117).2.2.1 (mtM 117).2.2.2.1) := rfl
set_option maxRecDepth 200000 in
set_option maxHeartbeats 4000000 in
theorem zr_118 : cd_118.all (bd_row 118) = true := by decide +kernel
set_option maxRecDepth 200000 in
theorem zm_118 : bd_mw 118 = true := by decide +kernel
set_option maxRecDepth 200000 in
theorem zc_118 : lw_tbl[(mpM 118).1]? = some (.code (mtM 118).1 (mtM 118).2.1 (mtM 118).2.2.1 (mtM 118).2.2.2.1) := rfl
set_option maxRecDepth 200000 in
set_option maxHeartbeats 4000000 in
theorem zr_119 : cd_119.all (bd_row 119) = true := by decide +kernel
set_option maxRecDepth 200000 in
theorem zm_119 : bd_mw 119 = true := by decide +kernel
set_option maxRecDepth 200000 in
theorem zc_119 : lw_tbl[(mpM 119).1]? = some (.code (mtM 119).1 (mtM 119).2.1 (mtM 119).2.2.1 (mtM 119).2.2.2.1) := rfl
set_option maxRecDepth 200000 in
set_option maxHeartbeats 4000000 in
theorem zr_120 : cd_120.all (bd_row 120) = true := by decide +kernel
set_option maxRecDepth 200000 in
theorem zm_120 : bd_mw 120 = true := by decide +kernel
set_option maxRecDepth 200000 in
theorem zc_120 : lw_tbl[(mpM 120).1]? = some (.code (mtM 120).1 (mtM 120).2.1 (mtM 120).2.2.1 (mtM 120).2.2.2.1) := rfl
set_option maxRecDepth 200000 in
set_option maxHeartbeats 4000000 in
theorem zr_121 : cd_121.all (bd_row 121) = true := by decide +kernel
set_option maxRecDepth 200000 in
theorem zm_121 : bd_mw 121 = true := by decide +kernel
set_option maxRecDepth 200000 in
theorem zc_121 : lw_tbl[(mpM 121).1]? = some (.code (mtM 121).1 (mtM 121).2.1 (mtM 121).2.2.1 (mtM 121).2.2.2.1) := rfl
set_option maxRecDepth 200000 in
set_option maxHeartbeats 4000000 in
theorem zr_122 : cd_122.all (bd_row 122) = true := by decide +kernel
set_option maxRecDepth 200000 in
theorem zm_122 : bd_mw 122 = true := by decide +kernel
set_option maxRecDepth 200000 in
theorem zc_122 : lw_tbl[(mpM 122).1]? = some (.code (mtM 122).1 (mtM 122).2.1 (mtM 122).2.2.1 (mtM 122).2.2.2.1) := rfl
set_option maxRecDepth 200000 in
set_option maxHeartbeats 4000000 in
theorem zr_123 : cd_123.all (bd_row 123) = true := by decide +kernel
set_option maxRecDepth 200000 in
theorem zm_123 : bd_mw 123 = true := by decide +kernel
set_option maxRecDepth 200000 in
theorem zc_123 : lw_tbl[(mpM 123).1]? = some (.code (mtM 123).1 (mtM 123).2.1 (mtM 123).2.2.1 (mtM 123).2.2.2.1) := rfl
set_option maxRecDepth 200000 in
set_option maxHeartbeats 4000000 in
theorem zr_124 : cd_124.all (bd_row 124) = true := by decide +kernel
set_option maxRecDepth 200000 in
theorem zm_124 : bd_mw 124 = true := by decide +kernel
set_option maxRecDepth 200000 in
theorem zc_124 : lw_tbl[(mpM 124).1]? = some (.code (mtM 124).1 (mtM 124).2.1 (mtM 124).2.2.1 (mtM 124).2.2.2.1) := rfl
set_option maxRecDepth 200000 in
set_option maxHeartbeats 4000000 in
theorem zr_125 : cd_125.all (bd_row 125) = true := by decide +kernel
set_option maxRecDepth 200000 in
theorem zm_125 : bd_mw 125 = true := by decide +kernel
set_option maxRecDepth 200000 in
theorem zc_125 : lw_tbl[(mpM 125).1]? = some (.code (mtM 125).1 (mtM 125).2.1 (mtM 125).2.2.1 (mtM 125).2.2.2.1) := rfl
set_option maxRecDepth 200000 in
set_option maxHeartbeats 4000000 in
theorem zr_126 : cd_126.all (bd_row 126) = true := by decide +kernel
set_option maxRecDepth 200000 in
theorem zm_126 : bd_mw 126 = true := by decide +kernel
set_option maxRecDepth 200000 in
theorem zc_126 : lw_tbl[(mpM 126).1]? = some (.code (mtM 126).1 (mtM 126).2.1 (mtM 126).2.2.1 (mtM 126).2.2.2.1) := rfl
set_option maxRecDepth 200000 in
set_option maxHeartbeats 4000000 in
theorem zr_127 : cd_127.all (bd_row 127) = true := by decide +kernel
set_option maxRecDepth 200000 in
theorem zm_127 : bd_mw 127 = true := by decide +kernel
set_option maxRecDepth 200000 in
theorem zc_127 : lw_tbl[(mpM 127).1]? = some (.code (mtM 127).1 (mtM 127).2.1 (mtM 127).2.2.1 (mtM 127).2.2.2.1) := rfl
set_option maxRecDepth 200000 in
set_option maxHeartbeats 4000000 in
theorem zr_128 : cd_128.all (bd_row 128) = true := by decide +kernel
set_option maxRecDepth 200000 in
theorem zm_128 : bd_mw 128 = true := by decide +kernel
set_option maxRecDepth 200000 in
theorem zc_128 : lw_tbl[(mpM 128).1]? = some (.code (mtM 128).1 (mtM 128).2.1 (mtM 128).2.2.1 (mtM 128).2.2.2.1) := rfl
set_option maxRecDepth 200000 in
set_option maxHeartbeats 4000000 in
theorem zr_129 : cd_129.all (bd_row 129) = true := by decide +kernel
set_option maxRecDepth 200000 in
theorem zm_129 : bd_mw 129 = true := by decide +kernel
set_option maxRecDepth 200000 in
theorem zc_129 : lw_tbl[(mpM 129).1]? = some (.code (mtM 129).1 (mtM 129).2.1 (mtM 129).2.2.1 (mtM 129).2.2.2.1) := rfl
set_option maxRecDepth 200000 in
set_option maxHeartbeats 4000000 in
theorem zr_130 : cd_130.all (bd_row 130) = true := by decide +kernel
set_option maxRecDepth 200000 in
theorem zm_130 : bd_mw 130 = true := by decide +kernel
set_option maxRecDepth 200000 in
theorem zc_130 : lw_tbl[(mpM 130).1]? = some (.code (mtM 130).1 (mtM 130).2.1 (mtM 130).2.2.1 (mtM 130).2.2.2.1) := rfl
set_option maxRecDepth 200000 in
set_option maxHeartbeats 4000000 in
theorem zr_131 : cd_131.all (bd_row 131) = true := by decide +kernel
set_option maxRecDepth 200000 in
theorem zm_131 : bd_mw 131 = true := by decide +kernel
set_option maxRecDepth 200000 in
theorem zc_131 : lw_tbl[(mpM 131).1]? = some (.code (mtM 131).1 (mtM 131).2.1 (mtM 131).2.2.1 (mtM 131).2.2.2.1) := rfl
set_option maxRecDepth 200000 in
set_option maxHeartbeats 4000000 in
theorem zr_132 : cd_132.all (bd_row 132) = true := by decide +kernel
set_option maxRecDepth 200000 in
theorem zm_132 : bd_mw 132 = true := by decide +kernel
set_option maxRecDepth 200000 in
theorem zc_132 : lw_tbl[(mpM 132).1]? = some (.code (mtM 132).1 (mtM 132).2.1 (mtM 132).2.2.1 (mtM 132).2.2.2.1) := rfl
set_option maxRecDepth 200000 in
set_option maxHeartbeats 4000000 in
theorem zr_133 : cd_133.all (bd_row 133) = true := by decide +kernel
set_option maxRecDepth 200000 in
theorem zm_133 : bd_mw 133 = true := by decide +kernel
set_option maxRecDepth 200000 in
theorem zc_133 : lw_tbl[(mpM 133).1]? = some (.code (mtM 133).1 (mtM 133).2.1 (mtM 133).2.2.1 (mtM 133).2.2.2.1) := rfl
set_option maxRecDepth 200000 in
set_option maxHeartbeats 4000000 in
theorem zr_134 : cd_134.all (bd_row 134) = true := by decide +kernel
set_option maxRecDepth 200000 in
theorem zm_134 : bd_mw 134 = true := by decide +kernel
set_option maxRecDepth 200000 in
theorem zc_134 : lw_tbl[(mpM 134).1]? = some (.code (mtM 134).1 (mtM 134).2.1 (mtM 134).2.2.1 (mtM 134).2.2.2.1) := rfl
set_option maxRecDepth 200000 in
set_option maxHeartbeats 4000000 in
theorem zr_135 : cd_135.all (bd_row 135) = true := by decide +kernel
set_option maxRecDepth 200000 in
theorem zm_135 : bd_mw 135 = true := by decide +kernel
set_option maxRecDepth 200000 in
theorem zc_135 : lw_tbl[(mpM 135).1]? = some (.code (mtM 135).1 (mtM 135).2.1 (mtM 135).2.2.1 (mtM 135).2.2.2.1) := rfl
set_option maxRecDepth 200000 in
set_option maxHeartbeats 4000000 in
theorem zr_136 : cd_136.all (bd_row 136) = true := by decide +kernel
set_option maxRecDepth 200000 in
theorem zm_136 : bd_mw 136 = true := by decide +kernel
set_option maxRecDepth 200000 in
theorem zc_136 : lw_tbl[(mpM 136).1]? = some (.code (mtM 136).1 (mtM 136).2.1 (mtM 136).2.2.1 (mtM 136).2.2.2.1) := rfl
set_option maxRecDepth 200000 in
set_option maxHeartbeats 4000000 in
theorem zr_137 : cd_137.all (bd_row 137) = true := by decide +kernel
set_option maxRecDepth 200000 in
theorem zm_137 : bd_mw 137 = true := by decide +kernel
set_option maxRecDepth 200000 in
theorem zc_137 : lw_tbl[(mpM 137).1]? = some (.code (mtM 137).1 (mtM 137).2.1 (mtM 137).2.2.1 (mtM 137).2.2.2.1) := rfl
set_option maxRecDepth 200000 in
set_option maxHeartbeats 4000000 in
theorem zr_138 : cd_138.all (bd_row 138) = true := by decide +kernel
set_option maxRecDepth 200000 in
theorem zm_138 : bd_mw 138 = true := by decide +kernel
set_option maxRecDepth 200000 in
theorem zc_138 : lw_tbl[(mpM 138).1]? = some (.code (mtM 138).1 (mtM 138).2.1 (mtM 138).2.2.1 (mtM 138).2.2.2.1) := rfl
set_option maxRecDepth 200000 in
set_option maxHeartbeats 4000000 in
theorem zr_139 : cd_139.all (bd_row 139) = true := by decide +kernel
set_option maxRecDepth 200000 in
theorem zm_139 : bd_mw 139 = true := by decide +kernel
set_option maxRecDepth 200000 in
theorem zc_139 : lw_tbl[(mpM 139).1]? = some (.code (mtM 139).1 (mtM 139).2.1 (mtM 139).2.2.1 (mtM 139).2.2.2.1) := rfl
set_option maxRecDepth 200000 in
set_option maxHeartbeats 4000000 in
theorem zr_140 : cd_140.all (bd_row 140) = true := by decide +kernel
set_option maxRecDepth 200000 in
theorem zm_140 : bd_mw 140 = true := by decide +kernel
set_option maxRecDepth 200000 in
theorem zc_140 : lw_tbl[(mpM 140).1]? = some (.code (mtM 140).1 (mtM 140).2.1 (mtM 140).2.2.1 (mtM 140).2.2.2.1) := rfl
set_option maxRecDepth 200000 in
set_option maxHeartbeats 4000000 in
theorem zr_141 : cd_141.all (bd_row 141) = true := by decide +kernel
set_option maxRecDepth 200000 in
theorem zm_141 : bd_mw 141 = true := by decide +kernel
set_option maxRecDepth 200000 in
theorem zc_141 : lw_tbl[(mpM 141).1]? = some (.code (mtM 141).1 (mtM 141).2.1 (mtM 141).2.2.1 (mtM 141).2.2.2.1) := rfl
set_option maxRecDepth 200000 in
set_option maxHeartbeats 4000000 in
theorem zr_142 : cd_142.all (bd_row 142) = true := by decide +kernel
set_option maxRecDepth 200000 in
theorem zm_142 : bd_mw 142 = true := by decide +kernel
set_option maxRecDepth 200000 in
theorem zc_142 : lw_tbl[(mpM 142).1]? = some (.code (mtM 142).1 (mtM 142).2.1 (mtM 142).2.2.1 (mtM 142).2.2.2.1) := rfl
set_option maxRecDepth 200000 in
set_option maxHeartbeats 4000000 in
theorem zr_143 : cd_143.all (bd_row 143) = true := by decide +kernel
set_option maxRecDepth 200000 in
theorem zm_143 : bd_mw 143 = true := by decide +kernel
set_option maxRecDepth 200000 in
theorem zc_143 : lw_tbl[(mpM 143).1]? = some (.code (mtM 143).1 (mtM 143).2.1 (mtM 143).2.2.1 (mtM 143).2.2.2.1) := rfl
set_option maxRecDepth 200000 in
set_option maxHeartbeats 4000000 in
theorem zr_144 : cd_144.all (bd_row 144) = true := by decide +kernel
set_option maxRecDepth 200000 in
theorem zm_144 : bd_mw 144 = true := by decide +kernel
set_option maxRecDepth 200000 in
theorem zc_144 : lw_tbl[(mpM 144).1]? = some (.code (mtM 144).1 (mtM 144).2.1 (mtM 144).2.2.1 (mtM 144).2.2.2.1) := rfl
set_option maxRecDepth 200000 in
set_option maxHeartbeats 4000000 in
theorem zr_145 : cd_145.all (bd_row 145) = true := by decide +kernel
set_option maxRecDepth 200000 in
theorem zm_145 : bd_mw 145 = true := by decide +kernel
set_option maxRecDepth 200000 in
theorem zc_145 : lw_tbl[(mpM 145).1]? = some (.code (mtM 145).1 (mtM 145).2.1 (mtM 145).2.2.1 (mtM 145).2.2.2.1) := rfl
set_option maxRecDepth 200000 in
set_option maxHeartbeats 4000000 in
theorem zr_146 : cd_146.all (bd_row 146) = true := by decide +kernel
set_option maxRecDepth 200000 in
theorem zm_146 : bd_mw 146 = true := by decide +kernel
set_option maxRecDepth 200000 in
theorem zc_146 : lw_tbl[(mpM 146).1]? = some (.code (mtM 146).1 (mtM 146).2.1 (mtM 146).2.2.1 (mtM 146).2.2.2.1) := rfl
set_option maxRecDepth 200000 in
set_option maxHeartbeats 4000000 in
theorem zr_147 : cd_147.all (bd_row 147) = true := by decide +kernel
set_option maxRecDepth 200000 in
theorem zm_147 : bd_mw 147 = true := by decide +kernel
set_option maxRecDepth 200000 in
theorem zc_147 : lw_tbl[(mpM 147).1]? = some (.code (mtM 147).1 (mtM 147).2.1 (mtM 147).2.2.1 (mtM 147).2.2.2.1) := rfl
set_option maxRecDepth 200000 in
set_option maxHeartbeats 4000000 in
theorem zr_148 : cd_148.all (bd_row 148) = true := by decide +kernel
set_option maxRecDepth 200000 in
theorem zm_148 : bd_mw 148 = true := by decide +kernel
set_option maxRecDepth 200000 in
theorem zc_148 : lw_tbl[(mpM 148).1]? = some (.code (mtM 148).1 (mtM 148).2.1 (mtM 148).2.2.1 (mtM 148).2.2.2.1) := rfl
set_option maxRecDepth 200000 in
set_option maxHeartbeats 4000000 in
theorem zr_149 : cd_149.all (bd_row 149) = true := by decide +kernel
set_option maxRecDepth 200000 in
theorem zm_149 : bd_mw 149 = true := by decide +kernel
set_option maxRecDepth 200000 in
theorem zc_149 : lw_tbl[(mpM 149).1]? = some (.code (mtM 149).1 (mtM 149).2.1 (mtM 149).2.2.1 (mtM 149).2.2.2.1) := rfl
set_option maxRecDepth 200000 in
set_option maxHeartbeats 4000000 in
theorem zr_150 : cd_150.all (bd_row 150) = true := by decide +kernel
set_option maxRecDepth 200000 in
theorem zm_150 : bd_mw 150 = true := by decide +kernel
set_option maxRecDepth 200000 in
theorem zc_150 : lw_tbl[(mpM 150).1]? = some (.code (mtM 150).1 (mtM 150).2.1 (mtM 150).2.2.1 (mtM 150).2.2.2.1) := rfl
set_option maxRecDepth 200000 in
set_option maxHeartbeats 4000000 in
theorem zr_151 : cd_151.all (bd_row 151) = true := by decide +kernel
set_option maxRecDepth 200000 in
theorem zm_151 : bd_mw 151 = true := by decide +kernel
set_option maxRecDepth 200000 in
theorem zc_151 : lw_tbl[(mpM 151).1]? = some (.code (mtM 151).1 (mtM 151).2.1 (mtM 151).2.2.1 (mtM 151).2.2.2.1) := rfl
set_option maxRecDepth 200000 in
set_option maxHeartbeats 4000000 in
theorem zr_152 : cd_152.all (bd_row 152) = true := by decide +kernel
set_option maxRecDepth 200000 in
theorem zm_152 : bd_mw 152 = true := by decide +kernel
set_option maxRecDepth 200000 in
theorem zc_152 : lw_tbl[(mpM 152).1]? = some (.code (mtM 152).1 (mtM 152).2.1 (mtM 152).2.2.1 (mtM 152).2.2.2.1) := rfl
