/-! wb -/
/-! WHAT IS MADE: the reference's constructor, to its loop -/
theorem ct_y0 : decode (tb_cc 122) 0 = .ok (.aload_n 0, 1) := (tb_spec (i := 122) (by decide) (show tb_ft 122 0 = some (.aload_n 0, 1, []) from rfl)).1
theorem ct_y1 : decode (tb_cc 122) 1 = .ok (.invokespecial 1, 3) := (tb_spec (i := 122) (by decide) (show tb_ft 122 1 = some (.invokespecial 1, 3, []) from rfl)).1
theorem ct_y4 : decode (tb_cc 122) 4 = .ok (.aload_n 0, 1) := (tb_spec (i := 122) (by decide) (show tb_ft 122 4 = some (.aload_n 0, 1, []) from rfl)).1
theorem ct_y5 : decode (tb_cc 122) 5 = .ok (.iconst 4, 1) := (tb_spec (i := 122) (by decide) (show tb_ft 122 5 = some (.iconst 4, 1, []) from rfl)).1
theorem ct_y6 : decode (tb_cc 122) 6 = .ok (.newarray .int, 2) := (tb_spec (i := 122) (by decide) (show tb_ft 122 6 = some (.newarray .int, 2, []) from rfl)).1
theorem ct_y8 : decode (tb_cc 122) 8 = .ok (.dup, 1) := (tb_spec (i := 122) (by decide) (show tb_ft 122 8 = some (.dup, 1, []) from rfl)).1
theorem ct_y9 : decode (tb_cc 122) 9 = .ok (.iconst 0, 1) := (tb_spec (i := 122) (by decide) (show tb_ft 122 9 = some (.iconst 0, 1, []) from rfl)).1
theorem ct_y10 : decode (tb_cc 122) 10 = .ok (.sipush 500, 3) := (tb_spec (i := 122) (by decide) (show tb_ft 122 10 = some (.sipush 500, 3, []) from rfl)).1
theorem ct_y13 : decode (tb_cc 122) 13 = .ok (.iastore, 1) := (tb_spec (i := 122) (by decide) (show tb_ft 122 13 = some (.iastore, 1, []) from rfl)).1
theorem ct_y14 : decode (tb_cc 122) 14 = .ok (.dup, 1) := (tb_spec (i := 122) (by decide) (show tb_ft 122 14 = some (.dup, 1, []) from rfl)).1
theorem ct_y15 : decode (tb_cc 122) 15 = .ok (.iconst 1, 1) := (tb_spec (i := 122) (by decide) (show tb_ft 122 15 = some (.iconst 1, 1, []) from rfl)).1
theorem ct_y16 : decode (tb_cc 122) 16 = .ok (.iconst 1, 1) := (tb_spec (i := 122) (by decide) (show tb_ft 122 16 = some (.iconst 1, 1, []) from rfl)).1
theorem ct_y17 : decode (tb_cc 122) 17 = .ok (.iastore, 1) := (tb_spec (i := 122) (by decide) (show tb_ft 122 17 = some (.iastore, 1, []) from rfl)).1
theorem ct_y18 : decode (tb_cc 122) 18 = .ok (.dup, 1) := (tb_spec (i := 122) (by decide) (show tb_ft 122 18 = some (.dup, 1, []) from rfl)).1
theorem ct_y19 : decode (tb_cc 122) 19 = .ok (.iconst 2, 1) := (tb_spec (i := 122) (by decide) (show tb_ft 122 19 = some (.iconst 2, 1, []) from rfl)).1
theorem ct_y20 : decode (tb_cc 122) 20 = .ok (.bipush 40, 2) := (tb_spec (i := 122) (by decide) (show tb_ft 122 20 = some (.bipush 40, 2, []) from rfl)).1
theorem ct_y22 : decode (tb_cc 122) 22 = .ok (.iastore, 1) := (tb_spec (i := 122) (by decide) (show tb_ft 122 22 = some (.iastore, 1, []) from rfl)).1
theorem ct_y23 : decode (tb_cc 122) 23 = .ok (.dup, 1) := (tb_spec (i := 122) (by decide) (show tb_ft 122 23 = some (.dup, 1, []) from rfl)).1
theorem ct_y24 : decode (tb_cc 122) 24 = .ok (.iconst 3, 1) := (tb_spec (i := 122) (by decide) (show tb_ft 122 24 = some (.iconst 3, 1, []) from rfl)).1
theorem ct_y25 : decode (tb_cc 122) 25 = .ok (.sipush 5000, 3) := (tb_spec (i := 122) (by decide) (show tb_ft 122 25 = some (.sipush 5000, 3, []) from rfl)).1
theorem ct_y28 : decode (tb_cc 122) 28 = .ok (.iastore, 1) := (tb_spec (i := 122) (by decide) (show tb_ft 122 28 = some (.iastore, 1, []) from rfl)).1
theorem ct_y29 : decode (tb_cc 122) 29 = .ok (.putfield 7, 3) := (tb_spec (i := 122) (by decide) (show tb_ft 122 29 = some (.putfield 7, 3, [8, 0, 4, 22, 0]) from rfl)).1
theorem ct_y32 : decode (tb_cc 122) 32 = .ok (.aload_n 0, 1) := (tb_spec (i := 122) (by decide) (show tb_ft 122 32 = some (.aload_n 0, 1, []) from rfl)).1
theorem ct_y33 : decode (tb_cc 122) 33 = .ok (.iconst 5, 1) := (tb_spec (i := 122) (by decide) (show tb_ft 122 33 = some (.iconst 5, 1, []) from rfl)).1
theorem ct_y34 : decode (tb_cc 122) 34 = .ok (.newarray .int, 2) := (tb_spec (i := 122) (by decide) (show tb_ft 122 34 = some (.newarray .int, 2, []) from rfl)).1
theorem ct_y36 : decode (tb_cc 122) 36 = .ok (.putfield 13, 3) := (tb_spec (i := 122) (by decide) (show tb_ft 122 36 = some (.putfield 13, 3, [8, 2, 4, 23, 0]) from rfl)).1
theorem ct_y39 : decode (tb_cc 122) 39 = .ok (.aload_n 0, 1) := (tb_spec (i := 122) (by decide) (show tb_ft 122 39 = some (.aload_n 0, 1, []) from rfl)).1
theorem ct_y40 : decode (tb_cc 122) 40 = .ok (.iconst 5, 1) := (tb_spec (i := 122) (by decide) (show tb_ft 122 40 = some (.iconst 5, 1, []) from rfl)).1
theorem ct_y41 : decode (tb_cc 122) 41 = .ok (.newarray .int, 2) := (tb_spec (i := 122) (by decide) (show tb_ft 122 41 = some (.newarray .int, 2, []) from rfl)).1
theorem ct_y43 : decode (tb_cc 122) 43 = .ok (.putfield 16, 3) := (tb_spec (i := 122) (by decide) (show tb_ft 122 43 = some (.putfield 16, 3, [8, 3, 4, 24, 0]) from rfl)).1
theorem ct_y46 : decode (tb_cc 122) 46 = .ok (.aload_n 0, 1) := (tb_spec (i := 122) (by decide) (show tb_ft 122 46 = some (.aload_n 0, 1, []) from rfl)).1
theorem ct_y47 : decode (tb_cc 122) 47 = .ok (.bipush 10, 2) := (tb_spec (i := 122) (by decide) (show tb_ft 122 47 = some (.bipush 10, 2, []) from rfl)).1
theorem ct_y49 : decode (tb_cc 122) 49 = .ok (.newarray .int, 2) := (tb_spec (i := 122) (by decide) (show tb_ft 122 49 = some (.newarray .int, 2, []) from rfl)).1
theorem ct_y51 : decode (tb_cc 122) 51 = .ok (.putfield 19, 3) := (tb_spec (i := 122) (by decide) (show tb_ft 122 51 = some (.putfield 19, 3, [8, 4, 4, 25, 0]) from rfl)).1
theorem ct_y54 : decode (tb_cc 122) 54 = .ok (.aload_n 0, 1) := (tb_spec (i := 122) (by decide) (show tb_ft 122 54 = some (.aload_n 0, 1, []) from rfl)).1
theorem ct_y55 : decode (tb_cc 122) 55 = .ok (.iconst 3, 1) := (tb_spec (i := 122) (by decide) (show tb_ft 122 55 = some (.iconst 3, 1, []) from rfl)).1
theorem ct_y56 : decode (tb_cc 122) 56 = .ok (.newarray .int, 2) := (tb_spec (i := 122) (by decide) (show tb_ft 122 56 = some (.newarray .int, 2, []) from rfl)).1
theorem ct_y58 : decode (tb_cc 122) 58 = .ok (.putfield 22, 3) := (tb_spec (i := 122) (by decide) (show tb_ft 122 58 = some (.putfield 22, 3, [8, 5, 4, 26, 0]) from rfl)).1
theorem ct_y61 : decode (tb_cc 122) 61 = .ok (.aload_n 0, 1) := (tb_spec (i := 122) (by decide) (show tb_ft 122 61 = some (.aload_n 0, 1, []) from rfl)).1
theorem ct_y62 : decode (tb_cc 122) 62 = .ok (.sipush 160, 3) := (tb_spec (i := 122) (by decide) (show tb_ft 122 62 = some (.sipush 160, 3, []) from rfl)).1
theorem ct_y65 : decode (tb_cc 122) 65 = .ok (.newarray .int, 2) := (tb_spec (i := 122) (by decide) (show tb_ft 122 65 = some (.newarray .int, 2, []) from rfl)).1
theorem ct_y67 : decode (tb_cc 122) 67 = .ok (.putfield 25, 3) := (tb_spec (i := 122) (by decide) (show tb_ft 122 67 = some (.putfield 25, 3, [8, 6, 4, 27, 0]) from rfl)).1
theorem ct_y70 : decode (tb_cc 122) 70 = .ok (.aload_n 0, 1) := (tb_spec (i := 122) (by decide) (show tb_ft 122 70 = some (.aload_n 0, 1, []) from rfl)).1
theorem ct_y71 : decode (tb_cc 122) 71 = .ok (.sipush 1200, 3) := (tb_spec (i := 122) (by decide) (show tb_ft 122 71 = some (.sipush 1200, 3, []) from rfl)).1
theorem ct_y74 : decode (tb_cc 122) 74 = .ok (.newarray .int, 2) := (tb_spec (i := 122) (by decide) (show tb_ft 122 74 = some (.newarray .int, 2, []) from rfl)).1
theorem ct_y76 : decode (tb_cc 122) 76 = .ok (.putfield 28, 3) := (tb_spec (i := 122) (by decide) (show tb_ft 122 76 = some (.putfield 28, 3, [8, 8, 4, 28, 0]) from rfl)).1
theorem ct_y79 : decode (tb_cc 122) 79 = .ok (.aload_n 0, 1) := (tb_spec (i := 122) (by decide) (show tb_ft 122 79 = some (.aload_n 0, 1, []) from rfl)).1
theorem ct_y80 : decode (tb_cc 122) 80 = .ok (.bipush 24, 2) := (tb_spec (i := 122) (by decide) (show tb_ft 122 80 = some (.bipush 24, 2, []) from rfl)).1
theorem ct_y82 : decode (tb_cc 122) 82 = .ok (.newarray .int, 2) := (tb_spec (i := 122) (by decide) (show tb_ft 122 82 = some (.newarray .int, 2, []) from rfl)).1
theorem ct_y84 : decode (tb_cc 122) 84 = .ok (.putfield 31, 3) := (tb_spec (i := 122) (by decide) (show tb_ft 122 84 = some (.putfield 31, 3, [8, 9, 4, 29, 0]) from rfl)).1
theorem ct_y87 : decode (tb_cc 122) 87 = .ok (.aload_n 0, 1) := (tb_spec (i := 122) (by decide) (show tb_ft 122 87 = some (.aload_n 0, 1, []) from rfl)).1
theorem ct_y88 : decode (tb_cc 122) 88 = .ok (.bipush 17, 2) := (tb_spec (i := 122) (by decide) (show tb_ft 122 88 = some (.bipush 17, 2, []) from rfl)).1
theorem ct_y90 : decode (tb_cc 122) 90 = .ok (.newarray .int, 2) := (tb_spec (i := 122) (by decide) (show tb_ft 122 90 = some (.newarray .int, 2, []) from rfl)).1
theorem ct_y92 : decode (tb_cc 122) 92 = .ok (.putfield 34, 3) := (tb_spec (i := 122) (by decide) (show tb_ft 122 92 = some (.putfield 34, 3, [8, 15, 4, 30, 0]) from rfl)).1
theorem ct_y95 : decode (tb_cc 122) 95 = .ok (.aload_n 0, 1) := (tb_spec (i := 122) (by decide) (show tb_ft 122 95 = some (.aload_n 0, 1, []) from rfl)).1
theorem ct_y96 : decode (tb_cc 122) 96 = .ok (.iconst 4, 1) := (tb_spec (i := 122) (by decide) (show tb_ft 122 96 = some (.iconst 4, 1, []) from rfl)).1
theorem ct_y97 : decode (tb_cc 122) 97 = .ok (.newarray .int, 2) := (tb_spec (i := 122) (by decide) (show tb_ft 122 97 = some (.newarray .int, 2, []) from rfl)).1
theorem ct_y99 : decode (tb_cc 122) 99 = .ok (.dup, 1) := (tb_spec (i := 122) (by decide) (show tb_ft 122 99 = some (.dup, 1, []) from rfl)).1
theorem ct_y100 : decode (tb_cc 122) 100 = .ok (.iconst 0, 1) := (tb_spec (i := 122) (by decide) (show tb_ft 122 100 = some (.iconst 0, 1, []) from rfl)).1
theorem ct_y101 : decode (tb_cc 122) 101 = .ok (.iconst (-1), 1) := (tb_spec (i := 122) (by decide) (show tb_ft 122 101 = some (.iconst (-1), 1, []) from rfl)).1
theorem ct_y102 : decode (tb_cc 122) 102 = .ok (.iastore, 1) := (tb_spec (i := 122) (by decide) (show tb_ft 122 102 = some (.iastore, 1, []) from rfl)).1
theorem ct_y103 : decode (tb_cc 122) 103 = .ok (.dup, 1) := (tb_spec (i := 122) (by decide) (show tb_ft 122 103 = some (.dup, 1, []) from rfl)).1
theorem ct_y104 : decode (tb_cc 122) 104 = .ok (.iconst 1, 1) := (tb_spec (i := 122) (by decide) (show tb_ft 122 104 = some (.iconst 1, 1, []) from rfl)).1
theorem ct_y105 : decode (tb_cc 122) 105 = .ok (.iconst (-1), 1) := (tb_spec (i := 122) (by decide) (show tb_ft 122 105 = some (.iconst (-1), 1, []) from rfl)).1
theorem ct_y106 : decode (tb_cc 122) 106 = .ok (.iastore, 1) := (tb_spec (i := 122) (by decide) (show tb_ft 122 106 = some (.iastore, 1, []) from rfl)).1
theorem ct_y107 : decode (tb_cc 122) 107 = .ok (.dup, 1) := (tb_spec (i := 122) (by decide) (show tb_ft 122 107 = some (.dup, 1, []) from rfl)).1
theorem ct_y108 : decode (tb_cc 122) 108 = .ok (.iconst 2, 1) := (tb_spec (i := 122) (by decide) (show tb_ft 122 108 = some (.iconst 2, 1, []) from rfl)).1
theorem ct_y109 : decode (tb_cc 122) 109 = .ok (.iconst (-1), 1) := (tb_spec (i := 122) (by decide) (show tb_ft 122 109 = some (.iconst (-1), 1, []) from rfl)).1
theorem ct_y110 : decode (tb_cc 122) 110 = .ok (.iastore, 1) := (tb_spec (i := 122) (by decide) (show tb_ft 122 110 = some (.iastore, 1, []) from rfl)).1
theorem ct_y111 : decode (tb_cc 122) 111 = .ok (.dup, 1) := (tb_spec (i := 122) (by decide) (show tb_ft 122 111 = some (.dup, 1, []) from rfl)).1
theorem ct_y112 : decode (tb_cc 122) 112 = .ok (.iconst 3, 1) := (tb_spec (i := 122) (by decide) (show tb_ft 122 112 = some (.iconst 3, 1, []) from rfl)).1
theorem ct_y113 : decode (tb_cc 122) 113 = .ok (.iconst (-1), 1) := (tb_spec (i := 122) (by decide) (show tb_ft 122 113 = some (.iconst (-1), 1, []) from rfl)).1
theorem ct_y114 : decode (tb_cc 122) 114 = .ok (.iastore, 1) := (tb_spec (i := 122) (by decide) (show tb_ft 122 114 = some (.iastore, 1, []) from rfl)).1
theorem ct_y115 : decode (tb_cc 122) 115 = .ok (.putfield 37, 3) := (tb_spec (i := 122) (by decide) (show tb_ft 122 115 = some (.putfield 37, 3, [8, 16, 4, 31, 0]) from rfl)).1
theorem ct_y118 : decode (tb_cc 122) 118 = .ok (.aload_n 0, 1) := (tb_spec (i := 122) (by decide) (show tb_ft 122 118 = some (.aload_n 0, 1, []) from rfl)).1
theorem ct_y119 : decode (tb_cc 122) 119 = .ok (.iconst 4, 1) := (tb_spec (i := 122) (by decide) (show tb_ft 122 119 = some (.iconst 4, 1, []) from rfl)).1
theorem ct_y120 : decode (tb_cc 122) 120 = .ok (.newarray .int, 2) := (tb_spec (i := 122) (by decide) (show tb_ft 122 120 = some (.newarray .int, 2, []) from rfl)).1
theorem ct_y122 : decode (tb_cc 122) 122 = .ok (.putfield 40, 3) := (tb_spec (i := 122) (by decide) (show tb_ft 122 122 = some (.putfield 40, 3, [8, 17, 4, 32, 0]) from rfl)).1
theorem ct_y125 : decode (tb_cc 122) 125 = .ok (.aload_n 0, 1) := (tb_spec (i := 122) (by decide) (show tb_ft 122 125 = some (.aload_n 0, 1, []) from rfl)).1
theorem ct_y126 : decode (tb_cc 122) 126 = .ok (.sipush 160, 3) := (tb_spec (i := 122) (by decide) (show tb_ft 122 126 = some (.sipush 160, 3, []) from rfl)).1
theorem ct_y129 : decode (tb_cc 122) 129 = .ok (.newarray .int, 2) := (tb_spec (i := 122) (by decide) (show tb_ft 122 129 = some (.newarray .int, 2, []) from rfl)).1
theorem ct_y131 : decode (tb_cc 122) 131 = .ok (.putfield 43, 3) := (tb_spec (i := 122) (by decide) (show tb_ft 122 131 = some (.putfield 43, 3, [8, 18, 4, 33, 0]) from rfl)).1
theorem ct_y134 : decode (tb_cc 122) 134 = .ok (.aload_n 0, 1) := (tb_spec (i := 122) (by decide) (show tb_ft 122 134 = some (.aload_n 0, 1, []) from rfl)).1
theorem ct_y135 : decode (tb_cc 122) 135 = .ok (.bipush 59, 2) := (tb_spec (i := 122) (by decide) (show tb_ft 122 135 = some (.bipush 59, 2, []) from rfl)).1
theorem ct_y137 : decode (tb_cc 122) 137 = .ok (.newarray .int, 2) := (tb_spec (i := 122) (by decide) (show tb_ft 122 137 = some (.newarray .int, 2, []) from rfl)).1
theorem ct_y139 : decode (tb_cc 122) 139 = .ok (.dup, 1) := (tb_spec (i := 122) (by decide) (show tb_ft 122 139 = some (.dup, 1, []) from rfl)).1
theorem ct_y140 : decode (tb_cc 122) 140 = .ok (.iconst 0, 1) := (tb_spec (i := 122) (by decide) (show tb_ft 122 140 = some (.iconst 0, 1, []) from rfl)).1
theorem ct_y141 : decode (tb_cc 122) 141 = .ok (.bipush 114, 2) := (tb_spec (i := 122) (by decide) (show tb_ft 122 141 = some (.bipush 114, 2, []) from rfl)).1
theorem ct_y143 : decode (tb_cc 122) 143 = .ok (.iastore, 1) := (tb_spec (i := 122) (by decide) (show tb_ft 122 143 = some (.iastore, 1, []) from rfl)).1
theorem ct_y144 : decode (tb_cc 122) 144 = .ok (.dup, 1) := (tb_spec (i := 122) (by decide) (show tb_ft 122 144 = some (.dup, 1, []) from rfl)).1
theorem ct_y145 : decode (tb_cc 122) 145 = .ok (.iconst 1, 1) := (tb_spec (i := 122) (by decide) (show tb_ft 122 145 = some (.iconst 1, 1, []) from rfl)).1
theorem ct_y146 : decode (tb_cc 122) 146 = .ok (.bipush 117, 2) := (tb_spec (i := 122) (by decide) (show tb_ft 122 146 = some (.bipush 117, 2, []) from rfl)).1
theorem ct_y148 : decode (tb_cc 122) 148 = .ok (.iastore, 1) := (tb_spec (i := 122) (by decide) (show tb_ft 122 148 = some (.iastore, 1, []) from rfl)).1
theorem ct_y149 : decode (tb_cc 122) 149 = .ok (.dup, 1) := (tb_spec (i := 122) (by decide) (show tb_ft 122 149 = some (.dup, 1, []) from rfl)).1
theorem ct_y150 : decode (tb_cc 122) 150 = .ok (.iconst 2, 1) := (tb_spec (i := 122) (by decide) (show tb_ft 122 150 = some (.iconst 2, 1, []) from rfl)).1
theorem ct_y151 : decode (tb_cc 122) 151 = .ok (.bipush 110, 2) := (tb_spec (i := 122) (by decide) (show tb_ft 122 151 = some (.bipush 110, 2, []) from rfl)).1
theorem ct_y153 : decode (tb_cc 122) 153 = .ok (.iastore, 1) := (tb_spec (i := 122) (by decide) (show tb_ft 122 153 = some (.iastore, 1, []) from rfl)).1
theorem ct_y154 : decode (tb_cc 122) 154 = .ok (.dup, 1) := (tb_spec (i := 122) (by decide) (show tb_ft 122 154 = some (.dup, 1, []) from rfl)).1
theorem ct_y155 : decode (tb_cc 122) 155 = .ok (.iconst 3, 1) := (tb_spec (i := 122) (by decide) (show tb_ft 122 155 = some (.iconst 3, 1, []) from rfl)).1
theorem ct_y156 : decode (tb_cc 122) 156 = .ok (.bipush 115, 2) := (tb_spec (i := 122) (by decide) (show tb_ft 122 156 = some (.bipush 115, 2, []) from rfl)).1
theorem ct_y158 : decode (tb_cc 122) 158 = .ok (.iastore, 1) := (tb_spec (i := 122) (by decide) (show tb_ft 122 158 = some (.iastore, 1, []) from rfl)).1
theorem ct_y159 : decode (tb_cc 122) 159 = .ok (.dup, 1) := (tb_spec (i := 122) (by decide) (show tb_ft 122 159 = some (.dup, 1, []) from rfl)).1
theorem ct_y160 : decode (tb_cc 122) 160 = .ok (.iconst 4, 1) := (tb_spec (i := 122) (by decide) (show tb_ft 122 160 = some (.iconst 4, 1, []) from rfl)).1
theorem ct_y161 : decode (tb_cc 122) 161 = .ok (.bipush 32, 2) := (tb_spec (i := 122) (by decide) (show tb_ft 122 161 = some (.bipush 32, 2, []) from rfl)).1
theorem ct_y163 : decode (tb_cc 122) 163 = .ok (.iastore, 1) := (tb_spec (i := 122) (by decide) (show tb_ft 122 163 = some (.iastore, 1, []) from rfl)).1
theorem ct_y164 : decode (tb_cc 122) 164 = .ok (.dup, 1) := (tb_spec (i := 122) (by decide) (show tb_ft 122 164 = some (.dup, 1, []) from rfl)).1
theorem ct_y165 : decode (tb_cc 122) 165 = .ok (.iconst 5, 1) := (tb_spec (i := 122) (by decide) (show tb_ft 122 165 = some (.iconst 5, 1, []) from rfl)).1
theorem ct_y166 : decode (tb_cc 122) 166 = .ok (.bipush 110, 2) := (tb_spec (i := 122) (by decide) (show tb_ft 122 166 = some (.bipush 110, 2, []) from rfl)).1
theorem ct_y168 : decode (tb_cc 122) 168 = .ok (.iastore, 1) := (tb_spec (i := 122) (by decide) (show tb_ft 122 168 = some (.iastore, 1, []) from rfl)).1
theorem ct_y169 : decode (tb_cc 122) 169 = .ok (.dup, 1) := (tb_spec (i := 122) (by decide) (show tb_ft 122 169 = some (.dup, 1, []) from rfl)).1
theorem ct_y170 : decode (tb_cc 122) 170 = .ok (.bipush 6, 2) := (tb_spec (i := 122) (by decide) (show tb_ft 122 170 = some (.bipush 6, 2, []) from rfl)).1
theorem ct_y172 : decode (tb_cc 122) 172 = .ok (.bipush 111, 2) := (tb_spec (i := 122) (by decide) (show tb_ft 122 172 = some (.bipush 111, 2, []) from rfl)).1
theorem ct_y174 : decode (tb_cc 122) 174 = .ok (.iastore, 1) := (tb_spec (i := 122) (by decide) (show tb_ft 122 174 = some (.iastore, 1, []) from rfl)).1
theorem ct_y175 : decode (tb_cc 122) 175 = .ok (.dup, 1) := (tb_spec (i := 122) (by decide) (show tb_ft 122 175 = some (.dup, 1, []) from rfl)).1
theorem ct_y176 : decode (tb_cc 122) 176 = .ok (.bipush 7, 2) := (tb_spec (i := 122) (by decide) (show tb_ft 122 176 = some (.bipush 7, 2, []) from rfl)).1
theorem ct_y178 : decode (tb_cc 122) 178 = .ok (.bipush 116, 2) := (tb_spec (i := 122) (by decide) (show tb_ft 122 178 = some (.bipush 116, 2, []) from rfl)).1
theorem ct_y180 : decode (tb_cc 122) 180 = .ok (.iastore, 1) := (tb_spec (i := 122) (by decide) (show tb_ft 122 180 = some (.iastore, 1, []) from rfl)).1
theorem ct_y181 : decode (tb_cc 122) 181 = .ok (.dup, 1) := (tb_spec (i := 122) (by decide) (show tb_ft 122 181 = some (.dup, 1, []) from rfl)).1
theorem ct_y182 : decode (tb_cc 122) 182 = .ok (.bipush 8, 2) := (tb_spec (i := 122) (by decide) (show tb_ft 122 182 = some (.bipush 8, 2, []) from rfl)).1
theorem ct_y184 : decode (tb_cc 122) 184 = .ok (.bipush 99, 2) := (tb_spec (i := 122) (by decide) (show tb_ft 122 184 = some (.bipush 99, 2, []) from rfl)).1
theorem ct_y186 : decode (tb_cc 122) 186 = .ok (.iastore, 1) := (tb_spec (i := 122) (by decide) (show tb_ft 122 186 = some (.iastore, 1, []) from rfl)).1
theorem ct_y187 : decode (tb_cc 122) 187 = .ok (.dup, 1) := (tb_spec (i := 122) (by decide) (show tb_ft 122 187 = some (.dup, 1, []) from rfl)).1
theorem ct_y188 : decode (tb_cc 122) 188 = .ok (.bipush 9, 2) := (tb_spec (i := 122) (by decide) (show tb_ft 122 188 = some (.bipush 9, 2, []) from rfl)).1
theorem ct_y190 : decode (tb_cc 122) 190 = .ok (.bipush 104, 2) := (tb_spec (i := 122) (by decide) (show tb_ft 122 190 = some (.bipush 104, 2, []) from rfl)).1
theorem ct_y192 : decode (tb_cc 122) 192 = .ok (.iastore, 1) := (tb_spec (i := 122) (by decide) (show tb_ft 122 192 = some (.iastore, 1, []) from rfl)).1
theorem ct_y193 : decode (tb_cc 122) 193 = .ok (.dup, 1) := (tb_spec (i := 122) (by decide) (show tb_ft 122 193 = some (.dup, 1, []) from rfl)).1
theorem ct_y194 : decode (tb_cc 122) 194 = .ok (.bipush 10, 2) := (tb_spec (i := 122) (by decide) (show tb_ft 122 194 = some (.bipush 10, 2, []) from rfl)).1
theorem ct_y196 : decode (tb_cc 122) 196 = .ok (.bipush 32, 2) := (tb_spec (i := 122) (by decide) (show tb_ft 122 196 = some (.bipush 32, 2, []) from rfl)).1
theorem ct_y198 : decode (tb_cc 122) 198 = .ok (.iastore, 1) := (tb_spec (i := 122) (by decide) (show tb_ft 122 198 = some (.iastore, 1, []) from rfl)).1
theorem ct_y199 : decode (tb_cc 122) 199 = .ok (.dup, 1) := (tb_spec (i := 122) (by decide) (show tb_ft 122 199 = some (.dup, 1, []) from rfl)).1
theorem ct_y200 : decode (tb_cc 122) 200 = .ok (.bipush 11, 2) := (tb_spec (i := 122) (by decide) (show tb_ft 122 200 = some (.bipush 11, 2, []) from rfl)).1
theorem ct_y202 : decode (tb_cc 122) 202 = .ok (.bipush 42, 2) := (tb_spec (i := 122) (by decide) (show tb_ft 122 202 = some (.bipush 42, 2, []) from rfl)).1
theorem ct_y204 : decode (tb_cc 122) 204 = .ok (.iastore, 1) := (tb_spec (i := 122) (by decide) (show tb_ft 122 204 = some (.iastore, 1, []) from rfl)).1
theorem ct_y205 : decode (tb_cc 122) 205 = .ok (.dup, 1) := (tb_spec (i := 122) (by decide) (show tb_ft 122 205 = some (.dup, 1, []) from rfl)).1
theorem ct_y206 : decode (tb_cc 122) 206 = .ok (.bipush 12, 2) := (tb_spec (i := 122) (by decide) (show tb_ft 122 206 = some (.bipush 12, 2, []) from rfl)).1
theorem ct_y208 : decode (tb_cc 122) 208 = .ok (.bipush 32, 2) := (tb_spec (i := 122) (by decide) (show tb_ft 122 208 = some (.bipush 32, 2, []) from rfl)).1
theorem ct_y210 : decode (tb_cc 122) 210 = .ok (.iastore, 1) := (tb_spec (i := 122) (by decide) (show tb_ft 122 210 = some (.iastore, 1, []) from rfl)).1
theorem ct_y211 : decode (tb_cc 122) 211 = .ok (.dup, 1) := (tb_spec (i := 122) (by decide) (show tb_ft 122 211 = some (.dup, 1, []) from rfl)).1
theorem ct_y212 : decode (tb_cc 122) 212 = .ok (.bipush 13, 2) := (tb_spec (i := 122) (by decide) (show tb_ft 122 212 = some (.bipush 13, 2, []) from rfl)).1
theorem ct_y214 : decode (tb_cc 122) 214 = .ok (.bipush 110, 2) := (tb_spec (i := 122) (by decide) (show tb_ft 122 214 = some (.bipush 110, 2, []) from rfl)).1
theorem ct_y216 : decode (tb_cc 122) 216 = .ok (.iastore, 1) := (tb_spec (i := 122) (by decide) (show tb_ft 122 216 = some (.iastore, 1, []) from rfl)).1
theorem ct_y217 : decode (tb_cc 122) 217 = .ok (.dup, 1) := (tb_spec (i := 122) (by decide) (show tb_ft 122 217 = some (.dup, 1, []) from rfl)).1
theorem ct_y218 : decode (tb_cc 122) 218 = .ok (.bipush 14, 2) := (tb_spec (i := 122) (by decide) (show tb_ft 122 218 = some (.bipush 14, 2, []) from rfl)).1
theorem ct_y220 : decode (tb_cc 122) 220 = .ok (.bipush 111, 2) := (tb_spec (i := 122) (by decide) (show tb_ft 122 220 = some (.bipush 111, 2, []) from rfl)).1
theorem ct_y222 : decode (tb_cc 122) 222 = .ok (.iastore, 1) := (tb_spec (i := 122) (by decide) (show tb_ft 122 222 = some (.iastore, 1, []) from rfl)).1
theorem ct_y223 : decode (tb_cc 122) 223 = .ok (.dup, 1) := (tb_spec (i := 122) (by decide) (show tb_ft 122 223 = some (.dup, 1, []) from rfl)).1
theorem ct_y224 : decode (tb_cc 122) 224 = .ok (.bipush 15, 2) := (tb_spec (i := 122) (by decide) (show tb_ft 122 224 = some (.bipush 15, 2, []) from rfl)).1
theorem ct_y226 : decode (tb_cc 122) 226 = .ok (.bipush 116, 2) := (tb_spec (i := 122) (by decide) (show tb_ft 122 226 = some (.bipush 116, 2, []) from rfl)).1
theorem ct_y228 : decode (tb_cc 122) 228 = .ok (.iastore, 1) := (tb_spec (i := 122) (by decide) (show tb_ft 122 228 = some (.iastore, 1, []) from rfl)).1
theorem ct_y229 : decode (tb_cc 122) 229 = .ok (.dup, 1) := (tb_spec (i := 122) (by decide) (show tb_ft 122 229 = some (.dup, 1, []) from rfl)).1
theorem ct_y230 : decode (tb_cc 122) 230 = .ok (.bipush 16, 2) := (tb_spec (i := 122) (by decide) (show tb_ft 122 230 = some (.bipush 16, 2, []) from rfl)).1
theorem ct_y232 : decode (tb_cc 122) 232 = .ok (.bipush 99, 2) := (tb_spec (i := 122) (by decide) (show tb_ft 122 232 = some (.bipush 99, 2, []) from rfl)).1
theorem ct_y234 : decode (tb_cc 122) 234 = .ok (.iastore, 1) := (tb_spec (i := 122) (by decide) (show tb_ft 122 234 = some (.iastore, 1, []) from rfl)).1
theorem ct_y235 : decode (tb_cc 122) 235 = .ok (.dup, 1) := (tb_spec (i := 122) (by decide) (show tb_ft 122 235 = some (.dup, 1, []) from rfl)).1
theorem ct_y236 : decode (tb_cc 122) 236 = .ok (.bipush 17, 2) := (tb_spec (i := 122) (by decide) (show tb_ft 122 236 = some (.bipush 17, 2, []) from rfl)).1
theorem ct_y238 : decode (tb_cc 122) 238 = .ok (.bipush 104, 2) := (tb_spec (i := 122) (by decide) (show tb_ft 122 238 = some (.bipush 104, 2, []) from rfl)).1
theorem ct_y240 : decode (tb_cc 122) 240 = .ok (.iastore, 1) := (tb_spec (i := 122) (by decide) (show tb_ft 122 240 = some (.iastore, 1, []) from rfl)).1
theorem ct_y241 : decode (tb_cc 122) 241 = .ok (.dup, 1) := (tb_spec (i := 122) (by decide) (show tb_ft 122 241 = some (.dup, 1, []) from rfl)).1
theorem ct_y242 : decode (tb_cc 122) 242 = .ok (.bipush 18, 2) := (tb_spec (i := 122) (by decide) (show tb_ft 122 242 = some (.bipush 18, 2, []) from rfl)).1
theorem ct_y244 : decode (tb_cc 122) 244 = .ok (.bipush 32, 2) := (tb_spec (i := 122) (by decide) (show tb_ft 122 244 = some (.bipush 32, 2, []) from rfl)).1
theorem ct_y246 : decode (tb_cc 122) 246 = .ok (.iastore, 1) := (tb_spec (i := 122) (by decide) (show tb_ft 122 246 = some (.iastore, 1, []) from rfl)).1
theorem ct_y247 : decode (tb_cc 122) 247 = .ok (.dup, 1) := (tb_spec (i := 122) (by decide) (show tb_ft 122 247 = some (.dup, 1, []) from rfl)).1
theorem ct_y248 : decode (tb_cc 122) 248 = .ok (.bipush 19, 2) := (tb_spec (i := 122) (by decide) (show tb_ft 122 248 = some (.bipush 19, 2, []) from rfl)).1
theorem ct_y250 : decode (tb_cc 122) 250 = .ok (.bipush 42, 2) := (tb_spec (i := 122) (by decide) (show tb_ft 122 250 = some (.bipush 42, 2, []) from rfl)).1
theorem ct_y252 : decode (tb_cc 122) 252 = .ok (.iastore, 1) := (tb_spec (i := 122) (by decide) (show tb_ft 122 252 = some (.iastore, 1, []) from rfl)).1
theorem ct_y253 : decode (tb_cc 122) 253 = .ok (.dup, 1) := (tb_spec (i := 122) (by decide) (show tb_ft 122 253 = some (.dup, 1, []) from rfl)).1
theorem ct_y254 : decode (tb_cc 122) 254 = .ok (.bipush 20, 2) := (tb_spec (i := 122) (by decide) (show tb_ft 122 254 = some (.bipush 20, 2, []) from rfl)).1
theorem ct_y256 : decode (tb_cc 122) 256 = .ok (.bipush 32, 2) := (tb_spec (i := 122) (by decide) (show tb_ft 122 256 = some (.bipush 32, 2, []) from rfl)).1
theorem ct_y258 : decode (tb_cc 122) 258 = .ok (.iastore, 1) := (tb_spec (i := 122) (by decide) (show tb_ft 122 258 = some (.iastore, 1, []) from rfl)).1
theorem ct_y259 : decode (tb_cc 122) 259 = .ok (.dup, 1) := (tb_spec (i := 122) (by decide) (show tb_ft 122 259 = some (.dup, 1, []) from rfl)).1
theorem ct_y260 : decode (tb_cc 122) 260 = .ok (.bipush 21, 2) := (tb_spec (i := 122) (by decide) (show tb_ft 122 260 = some (.bipush 21, 2, []) from rfl)).1
theorem ct_y262 : decode (tb_cc 122) 262 = .ok (.bipush 51, 2) := (tb_spec (i := 122) (by decide) (show tb_ft 122 262 = some (.bipush 51, 2, []) from rfl)).1
theorem ct_y264 : decode (tb_cc 122) 264 = .ok (.iastore, 1) := (tb_spec (i := 122) (by decide) (show tb_ft 122 264 = some (.iastore, 1, []) from rfl)).1
theorem ct_y265 : decode (tb_cc 122) 265 = .ok (.dup, 1) := (tb_spec (i := 122) (by decide) (show tb_ft 122 265 = some (.dup, 1, []) from rfl)).1
theorem ct_y266 : decode (tb_cc 122) 266 = .ok (.bipush 22, 2) := (tb_spec (i := 122) (by decide) (show tb_ft 122 266 = some (.bipush 22, 2, []) from rfl)).1
theorem ct_y268 : decode (tb_cc 122) 268 = .ok (.bipush 32, 2) := (tb_spec (i := 122) (by decide) (show tb_ft 122 268 = some (.bipush 32, 2, []) from rfl)).1
theorem ct_y270 : decode (tb_cc 122) 270 = .ok (.iastore, 1) := (tb_spec (i := 122) (by decide) (show tb_ft 122 270 = some (.iastore, 1, []) from rfl)).1
theorem ct_y271 : decode (tb_cc 122) 271 = .ok (.dup, 1) := (tb_spec (i := 122) (by decide) (show tb_ft 122 271 = some (.dup, 1, []) from rfl)).1
theorem ct_y272 : decode (tb_cc 122) 272 = .ok (.bipush 23, 2) := (tb_spec (i := 122) (by decide) (show tb_ft 122 272 = some (.bipush 23, 2, []) from rfl)).1
theorem ct_y274 : decode (tb_cc 122) 274 = .ok (.bipush 59, 2) := (tb_spec (i := 122) (by decide) (show tb_ft 122 274 = some (.bipush 59, 2, []) from rfl)).1
theorem ct_y276 : decode (tb_cc 122) 276 = .ok (.iastore, 1) := (tb_spec (i := 122) (by decide) (show tb_ft 122 276 = some (.iastore, 1, []) from rfl)).1
theorem ct_y277 : decode (tb_cc 122) 277 = .ok (.dup, 1) := (tb_spec (i := 122) (by decide) (show tb_ft 122 277 = some (.dup, 1, []) from rfl)).1
theorem ct_y278 : decode (tb_cc 122) 278 = .ok (.bipush 24, 2) := (tb_spec (i := 122) (by decide) (show tb_ft 122 278 = some (.bipush 24, 2, []) from rfl)).1
theorem ct_y280 : decode (tb_cc 122) 280 = .ok (.bipush 32, 2) := (tb_spec (i := 122) (by decide) (show tb_ft 122 280 = some (.bipush 32, 2, []) from rfl)).1
theorem ct_y282 : decode (tb_cc 122) 282 = .ok (.iastore, 1) := (tb_spec (i := 122) (by decide) (show tb_ft 122 282 = some (.iastore, 1, []) from rfl)).1
theorem ct_y283 : decode (tb_cc 122) 283 = .ok (.dup, 1) := (tb_spec (i := 122) (by decide) (show tb_ft 122 283 = some (.dup, 1, []) from rfl)).1
theorem ct_y284 : decode (tb_cc 122) 284 = .ok (.bipush 25, 2) := (tb_spec (i := 122) (by decide) (show tb_ft 122 284 = some (.bipush 25, 2, []) from rfl)).1
theorem ct_y286 : decode (tb_cc 122) 286 = .ok (.bipush 108, 2) := (tb_spec (i := 122) (by decide) (show tb_ft 122 286 = some (.bipush 108, 2, []) from rfl)).1
theorem ct_y288 : decode (tb_cc 122) 288 = .ok (.iastore, 1) := (tb_spec (i := 122) (by decide) (show tb_ft 122 288 = some (.iastore, 1, []) from rfl)).1
theorem ct_y289 : decode (tb_cc 122) 289 = .ok (.dup, 1) := (tb_spec (i := 122) (by decide) (show tb_ft 122 289 = some (.dup, 1, []) from rfl)).1
theorem ct_y290 : decode (tb_cc 122) 290 = .ok (.bipush 26, 2) := (tb_spec (i := 122) (by decide) (show tb_ft 122 290 = some (.bipush 26, 2, []) from rfl)).1
theorem ct_y292 : decode (tb_cc 122) 292 = .ok (.bipush 97, 2) := (tb_spec (i := 122) (by decide) (show tb_ft 122 292 = some (.bipush 97, 2, []) from rfl)).1
theorem ct_y294 : decode (tb_cc 122) 294 = .ok (.iastore, 1) := (tb_spec (i := 122) (by decide) (show tb_ft 122 294 = some (.iastore, 1, []) from rfl)).1
theorem ct_y295 : decode (tb_cc 122) 295 = .ok (.dup, 1) := (tb_spec (i := 122) (by decide) (show tb_ft 122 295 = some (.dup, 1, []) from rfl)).1
theorem ct_y296 : decode (tb_cc 122) 296 = .ok (.bipush 27, 2) := (tb_spec (i := 122) (by decide) (show tb_ft 122 296 = some (.bipush 27, 2, []) from rfl)).1
theorem ct_y298 : decode (tb_cc 122) 298 = .ok (.bipush 116, 2) := (tb_spec (i := 122) (by decide) (show tb_ft 122 298 = some (.bipush 116, 2, []) from rfl)).1
theorem ct_y300 : decode (tb_cc 122) 300 = .ok (.iastore, 1) := (tb_spec (i := 122) (by decide) (show tb_ft 122 300 = some (.iastore, 1, []) from rfl)).1
theorem ct_y301 : decode (tb_cc 122) 301 = .ok (.dup, 1) := (tb_spec (i := 122) (by decide) (show tb_ft 122 301 = some (.dup, 1, []) from rfl)).1
theorem ct_y302 : decode (tb_cc 122) 302 = .ok (.bipush 28, 2) := (tb_spec (i := 122) (by decide) (show tb_ft 122 302 = some (.bipush 28, 2, []) from rfl)).1
theorem ct_y304 : decode (tb_cc 122) 304 = .ok (.bipush 101, 2) := (tb_spec (i := 122) (by decide) (show tb_ft 122 304 = some (.bipush 101, 2, []) from rfl)).1
theorem ct_y306 : decode (tb_cc 122) 306 = .ok (.iastore, 1) := (tb_spec (i := 122) (by decide) (show tb_ft 122 306 = some (.iastore, 1, []) from rfl)).1
theorem ct_y307 : decode (tb_cc 122) 307 = .ok (.dup, 1) := (tb_spec (i := 122) (by decide) (show tb_ft 122 307 = some (.dup, 1, []) from rfl)).1
theorem ct_y308 : decode (tb_cc 122) 308 = .ok (.bipush 29, 2) := (tb_spec (i := 122) (by decide) (show tb_ft 122 308 = some (.bipush 29, 2, []) from rfl)).1
theorem ct_y310 : decode (tb_cc 122) 310 = .ok (.bipush 32, 2) := (tb_spec (i := 122) (by decide) (show tb_ft 122 310 = some (.bipush 32, 2, []) from rfl)).1
theorem ct_y312 : decode (tb_cc 122) 312 = .ok (.iastore, 1) := (tb_spec (i := 122) (by decide) (show tb_ft 122 312 = some (.iastore, 1, []) from rfl)).1
theorem ct_y313 : decode (tb_cc 122) 313 = .ok (.dup, 1) := (tb_spec (i := 122) (by decide) (show tb_ft 122 313 = some (.dup, 1, []) from rfl)).1
theorem ct_y314 : decode (tb_cc 122) 314 = .ok (.bipush 30, 2) := (tb_spec (i := 122) (by decide) (show tb_ft 122 314 = some (.bipush 30, 2, []) from rfl)).1
theorem ct_y316 : decode (tb_cc 122) 316 = .ok (.bipush 51, 2) := (tb_spec (i := 122) (by decide) (show tb_ft 122 316 = some (.bipush 51, 2, []) from rfl)).1
theorem ct_y318 : decode (tb_cc 122) 318 = .ok (.iastore, 1) := (tb_spec (i := 122) (by decide) (show tb_ft 122 318 = some (.iastore, 1, []) from rfl)).1
theorem ct_y319 : decode (tb_cc 122) 319 = .ok (.dup, 1) := (tb_spec (i := 122) (by decide) (show tb_ft 122 319 = some (.dup, 1, []) from rfl)).1
theorem ct_y320 : decode (tb_cc 122) 320 = .ok (.bipush 31, 2) := (tb_spec (i := 122) (by decide) (show tb_ft 122 320 = some (.bipush 31, 2, []) from rfl)).1
theorem ct_y322 : decode (tb_cc 122) 322 = .ok (.bipush 32, 2) := (tb_spec (i := 122) (by decide) (show tb_ft 122 322 = some (.bipush 32, 2, []) from rfl)).1
theorem ct_y324 : decode (tb_cc 122) 324 = .ok (.iastore, 1) := (tb_spec (i := 122) (by decide) (show tb_ft 122 324 = some (.iastore, 1, []) from rfl)).1
theorem ct_y325 : decode (tb_cc 122) 325 = .ok (.dup, 1) := (tb_spec (i := 122) (by decide) (show tb_ft 122 325 = some (.dup, 1, []) from rfl)).1
theorem ct_y326 : decode (tb_cc 122) 326 = .ok (.bipush 32, 2) := (tb_spec (i := 122) (by decide) (show tb_ft 122 326 = some (.bipush 32, 2, []) from rfl)).1
theorem ct_y328 : decode (tb_cc 122) 328 = .ok (.bipush 45, 2) := (tb_spec (i := 122) (by decide) (show tb_ft 122 328 = some (.bipush 45, 2, []) from rfl)).1
theorem ct_y330 : decode (tb_cc 122) 330 = .ok (.iastore, 1) := (tb_spec (i := 122) (by decide) (show tb_ft 122 330 = some (.iastore, 1, []) from rfl)).1
theorem ct_y331 : decode (tb_cc 122) 331 = .ok (.dup, 1) := (tb_spec (i := 122) (by decide) (show tb_ft 122 331 = some (.dup, 1, []) from rfl)).1
theorem ct_y332 : decode (tb_cc 122) 332 = .ok (.bipush 33, 2) := (tb_spec (i := 122) (by decide) (show tb_ft 122 332 = some (.bipush 33, 2, []) from rfl)).1
theorem ct_y334 : decode (tb_cc 122) 334 = .ok (.bipush 32, 2) := (tb_spec (i := 122) (by decide) (show tb_ft 122 334 = some (.bipush 32, 2, []) from rfl)).1
theorem ct_y336 : decode (tb_cc 122) 336 = .ok (.iastore, 1) := (tb_spec (i := 122) (by decide) (show tb_ft 122 336 = some (.iastore, 1, []) from rfl)).1
theorem ct_y337 : decode (tb_cc 122) 337 = .ok (.dup, 1) := (tb_spec (i := 122) (by decide) (show tb_ft 122 337 = some (.dup, 1, []) from rfl)).1
theorem ct_y338 : decode (tb_cc 122) 338 = .ok (.bipush 34, 2) := (tb_spec (i := 122) (by decide) (show tb_ft 122 338 = some (.bipush 34, 2, []) from rfl)).1
theorem ct_y340 : decode (tb_cc 122) 340 = .ok (.bipush 97, 2) := (tb_spec (i := 122) (by decide) (show tb_ft 122 340 = some (.bipush 97, 2, []) from rfl)).1
theorem ct_y342 : decode (tb_cc 122) 342 = .ok (.iastore, 1) := (tb_spec (i := 122) (by decide) (show tb_ft 122 342 = some (.iastore, 1, []) from rfl)).1
theorem ct_y343 : decode (tb_cc 122) 343 = .ok (.dup, 1) := (tb_spec (i := 122) (by decide) (show tb_ft 122 343 = some (.dup, 1, []) from rfl)).1
theorem ct_y344 : decode (tb_cc 122) 344 = .ok (.bipush 35, 2) := (tb_spec (i := 122) (by decide) (show tb_ft 122 344 = some (.bipush 35, 2, []) from rfl)).1
theorem ct_y346 : decode (tb_cc 122) 346 = .ok (.bipush 102, 2) := (tb_spec (i := 122) (by decide) (show tb_ft 122 346 = some (.bipush 102, 2, []) from rfl)).1
theorem ct_y348 : decode (tb_cc 122) 348 = .ok (.iastore, 1) := (tb_spec (i := 122) (by decide) (show tb_ft 122 348 = some (.iastore, 1, []) from rfl)).1
theorem ct_y349 : decode (tb_cc 122) 349 = .ok (.dup, 1) := (tb_spec (i := 122) (by decide) (show tb_ft 122 349 = some (.dup, 1, []) from rfl)).1
theorem ct_y350 : decode (tb_cc 122) 350 = .ok (.bipush 36, 2) := (tb_spec (i := 122) (by decide) (show tb_ft 122 350 = some (.bipush 36, 2, []) from rfl)).1
theorem ct_y352 : decode (tb_cc 122) 352 = .ok (.bipush 116, 2) := (tb_spec (i := 122) (by decide) (show tb_ft 122 352 = some (.bipush 116, 2, []) from rfl)).1
theorem ct_y354 : decode (tb_cc 122) 354 = .ok (.iastore, 1) := (tb_spec (i := 122) (by decide) (show tb_ft 122 354 = some (.iastore, 1, []) from rfl)).1
theorem ct_y355 : decode (tb_cc 122) 355 = .ok (.dup, 1) := (tb_spec (i := 122) (by decide) (show tb_ft 122 355 = some (.dup, 1, []) from rfl)).1
theorem ct_y356 : decode (tb_cc 122) 356 = .ok (.bipush 37, 2) := (tb_spec (i := 122) (by decide) (show tb_ft 122 356 = some (.bipush 37, 2, []) from rfl)).1
theorem ct_y358 : decode (tb_cc 122) 358 = .ok (.bipush 101, 2) := (tb_spec (i := 122) (by decide) (show tb_ft 122 358 = some (.bipush 101, 2, []) from rfl)).1
theorem ct_y360 : decode (tb_cc 122) 360 = .ok (.iastore, 1) := (tb_spec (i := 122) (by decide) (show tb_ft 122 360 = some (.iastore, 1, []) from rfl)).1
theorem ct_y361 : decode (tb_cc 122) 361 = .ok (.dup, 1) := (tb_spec (i := 122) (by decide) (show tb_ft 122 361 = some (.dup, 1, []) from rfl)).1
theorem ct_y362 : decode (tb_cc 122) 362 = .ok (.bipush 38, 2) := (tb_spec (i := 122) (by decide) (show tb_ft 122 362 = some (.bipush 38, 2, []) from rfl)).1
theorem ct_y364 : decode (tb_cc 122) 364 = .ok (.bipush 114, 2) := (tb_spec (i := 122) (by decide) (show tb_ft 122 364 = some (.bipush 114, 2, []) from rfl)).1
theorem ct_y366 : decode (tb_cc 122) 366 = .ok (.iastore, 1) := (tb_spec (i := 122) (by decide) (show tb_ft 122 366 = some (.iastore, 1, []) from rfl)).1
theorem ct_y367 : decode (tb_cc 122) 367 = .ok (.dup, 1) := (tb_spec (i := 122) (by decide) (show tb_ft 122 367 = some (.dup, 1, []) from rfl)).1
theorem ct_y368 : decode (tb_cc 122) 368 = .ok (.bipush 39, 2) := (tb_spec (i := 122) (by decide) (show tb_ft 122 368 = some (.bipush 39, 2, []) from rfl)).1
theorem ct_y370 : decode (tb_cc 122) 370 = .ok (.bipush 32, 2) := (tb_spec (i := 122) (by decide) (show tb_ft 122 370 = some (.bipush 32, 2, []) from rfl)).1
theorem ct_y372 : decode (tb_cc 122) 372 = .ok (.iastore, 1) := (tb_spec (i := 122) (by decide) (show tb_ft 122 372 = some (.iastore, 1, []) from rfl)).1
theorem ct_y373 : decode (tb_cc 122) 373 = .ok (.dup, 1) := (tb_spec (i := 122) (by decide) (show tb_ft 122 373 = some (.dup, 1, []) from rfl)).1
theorem ct_y374 : decode (tb_cc 122) 374 = .ok (.bipush 40, 2) := (tb_spec (i := 122) (by decide) (show tb_ft 122 374 = some (.bipush 40, 2, []) from rfl)).1
theorem ct_y376 : decode (tb_cc 122) 376 = .ok (.bipush 59, 2) := (tb_spec (i := 122) (by decide) (show tb_ft 122 376 = some (.bipush 59, 2, []) from rfl)).1
theorem ct_y378 : decode (tb_cc 122) 378 = .ok (.iastore, 1) := (tb_spec (i := 122) (by decide) (show tb_ft 122 378 = some (.iastore, 1, []) from rfl)).1
theorem ct_y379 : decode (tb_cc 122) 379 = .ok (.dup, 1) := (tb_spec (i := 122) (by decide) (show tb_ft 122 379 = some (.dup, 1, []) from rfl)).1
theorem ct_y380 : decode (tb_cc 122) 380 = .ok (.bipush 41, 2) := (tb_spec (i := 122) (by decide) (show tb_ft 122 380 = some (.bipush 41, 2, []) from rfl)).1
theorem ct_y382 : decode (tb_cc 122) 382 = .ok (.bipush 32, 2) := (tb_spec (i := 122) (by decide) (show tb_ft 122 382 = some (.bipush 32, 2, []) from rfl)).1
theorem ct_y384 : decode (tb_cc 122) 384 = .ok (.iastore, 1) := (tb_spec (i := 122) (by decide) (show tb_ft 122 384 = some (.iastore, 1, []) from rfl)).1
theorem ct_y385 : decode (tb_cc 122) 385 = .ok (.dup, 1) := (tb_spec (i := 122) (by decide) (show tb_ft 122 385 = some (.dup, 1, []) from rfl)).1
theorem ct_y386 : decode (tb_cc 122) 386 = .ok (.bipush 42, 2) := (tb_spec (i := 122) (by decide) (show tb_ft 122 386 = some (.bipush 42, 2, []) from rfl)).1
theorem ct_y388 : decode (tb_cc 122) 388 = .ok (.bipush 99, 2) := (tb_spec (i := 122) (by decide) (show tb_ft 122 388 = some (.bipush 99, 2, []) from rfl)).1
theorem ct_y390 : decode (tb_cc 122) 390 = .ok (.iastore, 1) := (tb_spec (i := 122) (by decide) (show tb_ft 122 390 = some (.iastore, 1, []) from rfl)).1
theorem ct_y391 : decode (tb_cc 122) 391 = .ok (.dup, 1) := (tb_spec (i := 122) (by decide) (show tb_ft 122 391 = some (.dup, 1, []) from rfl)).1
theorem ct_y392 : decode (tb_cc 122) 392 = .ok (.bipush 43, 2) := (tb_spec (i := 122) (by decide) (show tb_ft 122 392 = some (.bipush 43, 2, []) from rfl)).1
theorem ct_y394 : decode (tb_cc 122) 394 = .ok (.bipush 111, 2) := (tb_spec (i := 122) (by decide) (show tb_ft 122 394 = some (.bipush 111, 2, []) from rfl)).1
theorem ct_y396 : decode (tb_cc 122) 396 = .ok (.iastore, 1) := (tb_spec (i := 122) (by decide) (show tb_ft 122 396 = some (.iastore, 1, []) from rfl)).1
theorem ct_y397 : decode (tb_cc 122) 397 = .ok (.dup, 1) := (tb_spec (i := 122) (by decide) (show tb_ft 122 397 = some (.dup, 1, []) from rfl)).1
theorem ct_y398 : decode (tb_cc 122) 398 = .ok (.bipush 44, 2) := (tb_spec (i := 122) (by decide) (show tb_ft 122 398 = some (.bipush 44, 2, []) from rfl)).1
theorem ct_y400 : decode (tb_cc 122) 400 = .ok (.bipush 115, 2) := (tb_spec (i := 122) (by decide) (show tb_ft 122 400 = some (.bipush 115, 2, []) from rfl)).1
theorem ct_y402 : decode (tb_cc 122) 402 = .ok (.iastore, 1) := (tb_spec (i := 122) (by decide) (show tb_ft 122 402 = some (.iastore, 1, []) from rfl)).1
theorem ct_y403 : decode (tb_cc 122) 403 = .ok (.dup, 1) := (tb_spec (i := 122) (by decide) (show tb_ft 122 403 = some (.dup, 1, []) from rfl)).1
theorem ct_y404 : decode (tb_cc 122) 404 = .ok (.bipush 45, 2) := (tb_spec (i := 122) (by decide) (show tb_ft 122 404 = some (.bipush 45, 2, []) from rfl)).1
theorem ct_y406 : decode (tb_cc 122) 406 = .ok (.bipush 116, 2) := (tb_spec (i := 122) (by decide) (show tb_ft 122 406 = some (.bipush 116, 2, []) from rfl)).1
theorem ct_y408 : decode (tb_cc 122) 408 = .ok (.iastore, 1) := (tb_spec (i := 122) (by decide) (show tb_ft 122 408 = some (.iastore, 1, []) from rfl)).1
theorem ct_y409 : decode (tb_cc 122) 409 = .ok (.dup, 1) := (tb_spec (i := 122) (by decide) (show tb_ft 122 409 = some (.dup, 1, []) from rfl)).1
theorem ct_y410 : decode (tb_cc 122) 410 = .ok (.bipush 46, 2) := (tb_spec (i := 122) (by decide) (show tb_ft 122 410 = some (.bipush 46, 2, []) from rfl)).1
theorem ct_y412 : decode (tb_cc 122) 412 = .ok (.bipush 115, 2) := (tb_spec (i := 122) (by decide) (show tb_ft 122 412 = some (.bipush 115, 2, []) from rfl)).1
theorem ct_y414 : decode (tb_cc 122) 414 = .ok (.iastore, 1) := (tb_spec (i := 122) (by decide) (show tb_ft 122 414 = some (.iastore, 1, []) from rfl)).1
theorem ct_y415 : decode (tb_cc 122) 415 = .ok (.dup, 1) := (tb_spec (i := 122) (by decide) (show tb_ft 122 415 = some (.dup, 1, []) from rfl)).1
theorem ct_y416 : decode (tb_cc 122) 416 = .ok (.bipush 47, 2) := (tb_spec (i := 122) (by decide) (show tb_ft 122 416 = some (.bipush 47, 2, []) from rfl)).1
theorem ct_y418 : decode (tb_cc 122) 418 = .ok (.bipush 32, 2) := (tb_spec (i := 122) (by decide) (show tb_ft 122 418 = some (.bipush 32, 2, []) from rfl)).1
theorem ct_y420 : decode (tb_cc 122) 420 = .ok (.iastore, 1) := (tb_spec (i := 122) (by decide) (show tb_ft 122 420 = some (.iastore, 1, []) from rfl)).1
theorem ct_y421 : decode (tb_cc 122) 421 = .ok (.dup, 1) := (tb_spec (i := 122) (by decide) (show tb_ft 122 421 = some (.dup, 1, []) from rfl)).1
theorem ct_y422 : decode (tb_cc 122) 422 = .ok (.bipush 48, 2) := (tb_spec (i := 122) (by decide) (show tb_ft 122 422 = some (.bipush 48, 2, []) from rfl)).1
theorem ct_y424 : decode (tb_cc 122) 424 = .ok (.bipush 111, 2) := (tb_spec (i := 122) (by decide) (show tb_ft 122 424 = some (.bipush 111, 2, []) from rfl)).1
theorem ct_y426 : decode (tb_cc 122) 426 = .ok (.iastore, 1) := (tb_spec (i := 122) (by decide) (show tb_ft 122 426 = some (.iastore, 1, []) from rfl)).1
theorem ct_y427 : decode (tb_cc 122) 427 = .ok (.dup, 1) := (tb_spec (i := 122) (by decide) (show tb_ft 122 427 = some (.dup, 1, []) from rfl)).1
theorem ct_y428 : decode (tb_cc 122) 428 = .ok (.bipush 49, 2) := (tb_spec (i := 122) (by decide) (show tb_ft 122 428 = some (.bipush 49, 2, []) from rfl)).1
theorem ct_y430 : decode (tb_cc 122) 430 = .ok (.bipush 102, 2) := (tb_spec (i := 122) (by decide) (show tb_ft 122 430 = some (.bipush 102, 2, []) from rfl)).1
theorem ct_y432 : decode (tb_cc 122) 432 = .ok (.iastore, 1) := (tb_spec (i := 122) (by decide) (show tb_ft 122 432 = some (.iastore, 1, []) from rfl)).1
theorem ct_y433 : decode (tb_cc 122) 433 = .ok (.dup, 1) := (tb_spec (i := 122) (by decide) (show tb_ft 122 433 = some (.dup, 1, []) from rfl)).1
theorem ct_y434 : decode (tb_cc 122) 434 = .ok (.bipush 50, 2) := (tb_spec (i := 122) (by decide) (show tb_ft 122 434 = some (.bipush 50, 2, []) from rfl)).1
theorem ct_y436 : decode (tb_cc 122) 436 = .ok (.bipush 102, 2) := (tb_spec (i := 122) (by decide) (show tb_ft 122 436 = some (.bipush 102, 2, []) from rfl)).1
theorem ct_y438 : decode (tb_cc 122) 438 = .ok (.iastore, 1) := (tb_spec (i := 122) (by decide) (show tb_ft 122 438 = some (.iastore, 1, []) from rfl)).1
theorem ct_y439 : decode (tb_cc 122) 439 = .ok (.dup, 1) := (tb_spec (i := 122) (by decide) (show tb_ft 122 439 = some (.dup, 1, []) from rfl)).1
theorem ct_y440 : decode (tb_cc 122) 440 = .ok (.bipush 51, 2) := (tb_spec (i := 122) (by decide) (show tb_ft 122 440 = some (.bipush 51, 2, []) from rfl)).1
theorem ct_y442 : decode (tb_cc 122) 442 = .ok (.bipush 32, 2) := (tb_spec (i := 122) (by decide) (show tb_ft 122 442 = some (.bipush 32, 2, []) from rfl)).1
theorem ct_y444 : decode (tb_cc 122) 444 = .ok (.iastore, 1) := (tb_spec (i := 122) (by decide) (show tb_ft 122 444 = some (.iastore, 1, []) from rfl)).1
theorem ct_y445 : decode (tb_cc 122) 445 = .ok (.dup, 1) := (tb_spec (i := 122) (by decide) (show tb_ft 122 445 = some (.dup, 1, []) from rfl)).1
theorem ct_y446 : decode (tb_cc 122) 446 = .ok (.bipush 52, 2) := (tb_spec (i := 122) (by decide) (show tb_ft 122 446 = some (.bipush 52, 2, []) from rfl)).1
theorem ct_y448 : decode (tb_cc 122) 448 = .ok (.bipush 42, 2) := (tb_spec (i := 122) (by decide) (show tb_ft 122 448 = some (.bipush 42, 2, []) from rfl)).1
theorem ct_y450 : decode (tb_cc 122) 450 = .ok (.iastore, 1) := (tb_spec (i := 122) (by decide) (show tb_ft 122 450 = some (.iastore, 1, []) from rfl)).1
theorem ct_y451 : decode (tb_cc 122) 451 = .ok (.dup, 1) := (tb_spec (i := 122) (by decide) (show tb_ft 122 451 = some (.dup, 1, []) from rfl)).1
theorem ct_y452 : decode (tb_cc 122) 452 = .ok (.bipush 53, 2) := (tb_spec (i := 122) (by decide) (show tb_ft 122 452 = some (.bipush 53, 2, []) from rfl)).1
theorem ct_y454 : decode (tb_cc 122) 454 = .ok (.bipush 32, 2) := (tb_spec (i := 122) (by decide) (show tb_ft 122 454 = some (.bipush 32, 2, []) from rfl)).1
theorem ct_y456 : decode (tb_cc 122) 456 = .ok (.iastore, 1) := (tb_spec (i := 122) (by decide) (show tb_ft 122 456 = some (.iastore, 1, []) from rfl)).1
theorem ct_y457 : decode (tb_cc 122) 457 = .ok (.dup, 1) := (tb_spec (i := 122) (by decide) (show tb_ft 122 457 = some (.dup, 1, []) from rfl)).1
theorem ct_y458 : decode (tb_cc 122) 458 = .ok (.bipush 54, 2) := (tb_spec (i := 122) (by decide) (show tb_ft 122 458 = some (.bipush 54, 2, []) from rfl)).1
theorem ct_y460 : decode (tb_cc 122) 460 = .ok (.bipush 111, 2) := (tb_spec (i := 122) (by decide) (show tb_ft 122 460 = some (.bipush 111, 2, []) from rfl)).1
theorem ct_y462 : decode (tb_cc 122) 462 = .ok (.iastore, 1) := (tb_spec (i := 122) (by decide) (show tb_ft 122 462 = some (.iastore, 1, []) from rfl)).1
theorem ct_y463 : decode (tb_cc 122) 463 = .ok (.dup, 1) := (tb_spec (i := 122) (by decide) (show tb_ft 122 463 = some (.dup, 1, []) from rfl)).1
theorem ct_y464 : decode (tb_cc 122) 464 = .ok (.bipush 55, 2) := (tb_spec (i := 122) (by decide) (show tb_ft 122 464 = some (.bipush 55, 2, []) from rfl)).1
theorem ct_y466 : decode (tb_cc 122) 466 = .ok (.bipush 102, 2) := (tb_spec (i := 122) (by decide) (show tb_ft 122 466 = some (.bipush 102, 2, []) from rfl)).1
theorem ct_y468 : decode (tb_cc 122) 468 = .ok (.iastore, 1) := (tb_spec (i := 122) (by decide) (show tb_ft 122 468 = some (.iastore, 1, []) from rfl)).1
theorem ct_y469 : decode (tb_cc 122) 469 = .ok (.dup, 1) := (tb_spec (i := 122) (by decide) (show tb_ft 122 469 = some (.dup, 1, []) from rfl)).1
theorem ct_y470 : decode (tb_cc 122) 470 = .ok (.bipush 56, 2) := (tb_spec (i := 122) (by decide) (show tb_ft 122 470 = some (.bipush 56, 2, []) from rfl)).1
theorem ct_y472 : decode (tb_cc 122) 472 = .ok (.bipush 102, 2) := (tb_spec (i := 122) (by decide) (show tb_ft 122 472 = some (.bipush 102, 2, []) from rfl)).1
theorem ct_y474 : decode (tb_cc 122) 474 = .ok (.iastore, 1) := (tb_spec (i := 122) (by decide) (show tb_ft 122 474 = some (.iastore, 1, []) from rfl)).1
theorem ct_y475 : decode (tb_cc 122) 475 = .ok (.dup, 1) := (tb_spec (i := 122) (by decide) (show tb_ft 122 475 = some (.dup, 1, []) from rfl)).1
theorem ct_y476 : decode (tb_cc 122) 476 = .ok (.bipush 57, 2) := (tb_spec (i := 122) (by decide) (show tb_ft 122 476 = some (.bipush 57, 2, []) from rfl)).1
theorem ct_y478 : decode (tb_cc 122) 478 = .ok (.bipush 32, 2) := (tb_spec (i := 122) (by decide) (show tb_ft 122 478 = some (.bipush 32, 2, []) from rfl)).1
theorem ct_y480 : decode (tb_cc 122) 480 = .ok (.iastore, 1) := (tb_spec (i := 122) (by decide) (show tb_ft 122 480 = some (.iastore, 1, []) from rfl)).1
theorem ct_y481 : decode (tb_cc 122) 481 = .ok (.dup, 1) := (tb_spec (i := 122) (by decide) (show tb_ft 122 481 = some (.dup, 1, []) from rfl)).1
theorem ct_y482 : decode (tb_cc 122) 482 = .ok (.bipush 58, 2) := (tb_spec (i := 122) (by decide) (show tb_ft 122 482 = some (.bipush 58, 2, []) from rfl)).1
theorem ct_y484 : decode (tb_cc 122) 484 = .ok (.bipush 59, 2) := (tb_spec (i := 122) (by decide) (show tb_ft 122 484 = some (.bipush 59, 2, []) from rfl)).1
theorem ct_y486 : decode (tb_cc 122) 486 = .ok (.iastore, 1) := (tb_spec (i := 122) (by decide) (show tb_ft 122 486 = some (.iastore, 1, []) from rfl)).1
theorem ct_y487 : decode (tb_cc 122) 487 = .ok (.putfield 46, 3) := (tb_spec (i := 122) (by decide) (show tb_ft 122 487 = some (.putfield 46, 3, [8, 19, 4, 34, 0]) from rfl)).1
theorem ct_y490 : decode (tb_cc 122) 490 = .ok (.aload_n 0, 1) := (tb_spec (i := 122) (by decide) (show tb_ft 122 490 = some (.aload_n 0, 1, []) from rfl)).1
theorem ct_y491 : decode (tb_cc 122) 491 = .ok (.bipush 96, 2) := (tb_spec (i := 122) (by decide) (show tb_ft 122 491 = some (.bipush 96, 2, []) from rfl)).1
theorem ct_y493 : decode (tb_cc 122) 493 = .ok (.newarray .int, 2) := (tb_spec (i := 122) (by decide) (show tb_ft 122 493 = some (.newarray .int, 2, []) from rfl)).1
theorem ct_y495 : decode (tb_cc 122) 495 = .ok (.dup, 1) := (tb_spec (i := 122) (by decide) (show tb_ft 122 495 = some (.dup, 1, []) from rfl)).1
theorem ct_y496 : decode (tb_cc 122) 496 = .ok (.iconst 0, 1) := (tb_spec (i := 122) (by decide) (show tb_ft 122 496 = some (.iconst 0, 1, []) from rfl)).1
theorem ct_y497 : decode (tb_cc 122) 497 = .ok (.bipush 114, 2) := (tb_spec (i := 122) (by decide) (show tb_ft 122 497 = some (.bipush 114, 2, []) from rfl)).1
theorem ct_y499 : decode (tb_cc 122) 499 = .ok (.iastore, 1) := (tb_spec (i := 122) (by decide) (show tb_ft 122 499 = some (.iastore, 1, []) from rfl)).1
theorem ct_y500 : decode (tb_cc 122) 500 = .ok (.dup, 1) := (tb_spec (i := 122) (by decide) (show tb_ft 122 500 = some (.dup, 1, []) from rfl)).1
theorem ct_y501 : decode (tb_cc 122) 501 = .ok (.iconst 1, 1) := (tb_spec (i := 122) (by decide) (show tb_ft 122 501 = some (.iconst 1, 1, []) from rfl)).1
theorem ct_y502 : decode (tb_cc 122) 502 = .ok (.bipush 117, 2) := (tb_spec (i := 122) (by decide) (show tb_ft 122 502 = some (.bipush 117, 2, []) from rfl)).1
theorem ct_y504 : decode (tb_cc 122) 504 = .ok (.iastore, 1) := (tb_spec (i := 122) (by decide) (show tb_ft 122 504 = some (.iastore, 1, []) from rfl)).1
theorem ct_y505 : decode (tb_cc 122) 505 = .ok (.dup, 1) := (tb_spec (i := 122) (by decide) (show tb_ft 122 505 = some (.dup, 1, []) from rfl)).1
theorem ct_y506 : decode (tb_cc 122) 506 = .ok (.iconst 2, 1) := (tb_spec (i := 122) (by decide) (show tb_ft 122 506 = some (.iconst 2, 1, []) from rfl)).1
theorem ct_y507 : decode (tb_cc 122) 507 = .ok (.bipush 110, 2) := (tb_spec (i := 122) (by decide) (show tb_ft 122 507 = some (.bipush 110, 2, []) from rfl)).1
theorem ct_y509 : decode (tb_cc 122) 509 = .ok (.iastore, 1) := (tb_spec (i := 122) (by decide) (show tb_ft 122 509 = some (.iastore, 1, []) from rfl)).1
theorem ct_y510 : decode (tb_cc 122) 510 = .ok (.dup, 1) := (tb_spec (i := 122) (by decide) (show tb_ft 122 510 = some (.dup, 1, []) from rfl)).1
theorem ct_y511 : decode (tb_cc 122) 511 = .ok (.iconst 3, 1) := (tb_spec (i := 122) (by decide) (show tb_ft 122 511 = some (.iconst 3, 1, []) from rfl)).1
theorem ct_y512 : decode (tb_cc 122) 512 = .ok (.bipush 115, 2) := (tb_spec (i := 122) (by decide) (show tb_ft 122 512 = some (.bipush 115, 2, []) from rfl)).1
theorem ct_y514 : decode (tb_cc 122) 514 = .ok (.iastore, 1) := (tb_spec (i := 122) (by decide) (show tb_ft 122 514 = some (.iastore, 1, []) from rfl)).1
theorem ct_y515 : decode (tb_cc 122) 515 = .ok (.dup, 1) := (tb_spec (i := 122) (by decide) (show tb_ft 122 515 = some (.dup, 1, []) from rfl)).1
theorem ct_y516 : decode (tb_cc 122) 516 = .ok (.iconst 4, 1) := (tb_spec (i := 122) (by decide) (show tb_ft 122 516 = some (.iconst 4, 1, []) from rfl)).1
theorem ct_y517 : decode (tb_cc 122) 517 = .ok (.bipush 32, 2) := (tb_spec (i := 122) (by decide) (show tb_ft 122 517 = some (.bipush 32, 2, []) from rfl)).1
theorem ct_y519 : decode (tb_cc 122) 519 = .ok (.iastore, 1) := (tb_spec (i := 122) (by decide) (show tb_ft 122 519 = some (.iastore, 1, []) from rfl)).1
theorem ct_y520 : decode (tb_cc 122) 520 = .ok (.dup, 1) := (tb_spec (i := 122) (by decide) (show tb_ft 122 520 = some (.dup, 1, []) from rfl)).1
theorem ct_y521 : decode (tb_cc 122) 521 = .ok (.iconst 5, 1) := (tb_spec (i := 122) (by decide) (show tb_ft 122 521 = some (.iconst 5, 1, []) from rfl)).1
theorem ct_y522 : decode (tb_cc 122) 522 = .ok (.bipush 32, 2) := (tb_spec (i := 122) (by decide) (show tb_ft 122 522 = some (.bipush 32, 2, []) from rfl)).1
theorem ct_y524 : decode (tb_cc 122) 524 = .ok (.iastore, 1) := (tb_spec (i := 122) (by decide) (show tb_ft 122 524 = some (.iastore, 1, []) from rfl)).1
theorem ct_y525 : decode (tb_cc 122) 525 = .ok (.dup, 1) := (tb_spec (i := 122) (by decide) (show tb_ft 122 525 = some (.dup, 1, []) from rfl)).1
theorem ct_y526 : decode (tb_cc 122) 526 = .ok (.bipush 6, 2) := (tb_spec (i := 122) (by decide) (show tb_ft 122 526 = some (.bipush 6, 2, []) from rfl)).1
theorem ct_y528 : decode (tb_cc 122) 528 = .ok (.bipush 32, 2) := (tb_spec (i := 122) (by decide) (show tb_ft 122 528 = some (.bipush 32, 2, []) from rfl)).1
theorem ct_y530 : decode (tb_cc 122) 530 = .ok (.iastore, 1) := (tb_spec (i := 122) (by decide) (show tb_ft 122 530 = some (.iastore, 1, []) from rfl)).1
theorem ct_y531 : decode (tb_cc 122) 531 = .ok (.dup, 1) := (tb_spec (i := 122) (by decide) (show tb_ft 122 531 = some (.dup, 1, []) from rfl)).1
theorem ct_y532 : decode (tb_cc 122) 532 = .ok (.bipush 7, 2) := (tb_spec (i := 122) (by decide) (show tb_ft 122 532 = some (.bipush 7, 2, []) from rfl)).1
theorem ct_y534 : decode (tb_cc 122) 534 = .ok (.bipush 32, 2) := (tb_spec (i := 122) (by decide) (show tb_ft 122 534 = some (.bipush 32, 2, []) from rfl)).1
theorem ct_y536 : decode (tb_cc 122) 536 = .ok (.iastore, 1) := (tb_spec (i := 122) (by decide) (show tb_ft 122 536 = some (.iastore, 1, []) from rfl)).1
theorem ct_y537 : decode (tb_cc 122) 537 = .ok (.dup, 1) := (tb_spec (i := 122) (by decide) (show tb_ft 122 537 = some (.dup, 1, []) from rfl)).1
theorem ct_y538 : decode (tb_cc 122) 538 = .ok (.bipush 8, 2) := (tb_spec (i := 122) (by decide) (show tb_ft 122 538 = some (.bipush 8, 2, []) from rfl)).1
theorem ct_y540 : decode (tb_cc 122) 540 = .ok (.bipush 108, 2) := (tb_spec (i := 122) (by decide) (show tb_ft 122 540 = some (.bipush 108, 2, []) from rfl)).1
theorem ct_y542 : decode (tb_cc 122) 542 = .ok (.iastore, 1) := (tb_spec (i := 122) (by decide) (show tb_ft 122 542 = some (.iastore, 1, []) from rfl)).1
theorem ct_y543 : decode (tb_cc 122) 543 = .ok (.dup, 1) := (tb_spec (i := 122) (by decide) (show tb_ft 122 543 = some (.dup, 1, []) from rfl)).1
theorem ct_y544 : decode (tb_cc 122) 544 = .ok (.bipush 9, 2) := (tb_spec (i := 122) (by decide) (show tb_ft 122 544 = some (.bipush 9, 2, []) from rfl)).1
theorem ct_y546 : decode (tb_cc 122) 546 = .ok (.bipush 97, 2) := (tb_spec (i := 122) (by decide) (show tb_ft 122 546 = some (.bipush 97, 2, []) from rfl)).1
theorem ct_y548 : decode (tb_cc 122) 548 = .ok (.iastore, 1) := (tb_spec (i := 122) (by decide) (show tb_ft 122 548 = some (.iastore, 1, []) from rfl)).1
theorem ct_y549 : decode (tb_cc 122) 549 = .ok (.dup, 1) := (tb_spec (i := 122) (by decide) (show tb_ft 122 549 = some (.dup, 1, []) from rfl)).1
theorem ct_y550 : decode (tb_cc 122) 550 = .ok (.bipush 10, 2) := (tb_spec (i := 122) (by decide) (show tb_ft 122 550 = some (.bipush 10, 2, []) from rfl)).1
theorem ct_y552 : decode (tb_cc 122) 552 = .ok (.bipush 116, 2) := (tb_spec (i := 122) (by decide) (show tb_ft 122 552 = some (.bipush 116, 2, []) from rfl)).1
theorem ct_y554 : decode (tb_cc 122) 554 = .ok (.iastore, 1) := (tb_spec (i := 122) (by decide) (show tb_ft 122 554 = some (.iastore, 1, []) from rfl)).1
theorem ct_y555 : decode (tb_cc 122) 555 = .ok (.dup, 1) := (tb_spec (i := 122) (by decide) (show tb_ft 122 555 = some (.dup, 1, []) from rfl)).1
theorem ct_y556 : decode (tb_cc 122) 556 = .ok (.bipush 11, 2) := (tb_spec (i := 122) (by decide) (show tb_ft 122 556 = some (.bipush 11, 2, []) from rfl)).1
theorem ct_y558 : decode (tb_cc 122) 558 = .ok (.bipush 101, 2) := (tb_spec (i := 122) (by decide) (show tb_ft 122 558 = some (.bipush 101, 2, []) from rfl)).1
theorem ct_y560 : decode (tb_cc 122) 560 = .ok (.iastore, 1) := (tb_spec (i := 122) (by decide) (show tb_ft 122 560 = some (.iastore, 1, []) from rfl)).1
theorem ct_y561 : decode (tb_cc 122) 561 = .ok (.dup, 1) := (tb_spec (i := 122) (by decide) (show tb_ft 122 561 = some (.dup, 1, []) from rfl)).1
theorem ct_y562 : decode (tb_cc 122) 562 = .ok (.bipush 12, 2) := (tb_spec (i := 122) (by decide) (show tb_ft 122 562 = some (.bipush 12, 2, []) from rfl)).1
theorem ct_y564 : decode (tb_cc 122) 564 = .ok (.bipush 32, 2) := (tb_spec (i := 122) (by decide) (show tb_ft 122 564 = some (.bipush 32, 2, []) from rfl)).1
theorem ct_y566 : decode (tb_cc 122) 566 = .ok (.iastore, 1) := (tb_spec (i := 122) (by decide) (show tb_ft 122 566 = some (.iastore, 1, []) from rfl)).1
theorem ct_y567 : decode (tb_cc 122) 567 = .ok (.dup, 1) := (tb_spec (i := 122) (by decide) (show tb_ft 122 567 = some (.dup, 1, []) from rfl)).1
theorem ct_y568 : decode (tb_cc 122) 568 = .ok (.bipush 13, 2) := (tb_spec (i := 122) (by decide) (show tb_ft 122 568 = some (.bipush 13, 2, []) from rfl)).1
theorem ct_y570 : decode (tb_cc 122) 570 = .ok (.bipush 32, 2) := (tb_spec (i := 122) (by decide) (show tb_ft 122 570 = some (.bipush 32, 2, []) from rfl)).1
theorem ct_y572 : decode (tb_cc 122) 572 = .ok (.iastore, 1) := (tb_spec (i := 122) (by decide) (show tb_ft 122 572 = some (.iastore, 1, []) from rfl)).1
theorem ct_y573 : decode (tb_cc 122) 573 = .ok (.dup, 1) := (tb_spec (i := 122) (by decide) (show tb_ft 122 573 = some (.dup, 1, []) from rfl)).1
theorem ct_y574 : decode (tb_cc 122) 574 = .ok (.bipush 14, 2) := (tb_spec (i := 122) (by decide) (show tb_ft 122 574 = some (.bipush 14, 2, []) from rfl)).1
theorem ct_y576 : decode (tb_cc 122) 576 = .ok (.bipush 32, 2) := (tb_spec (i := 122) (by decide) (show tb_ft 122 576 = some (.bipush 32, 2, []) from rfl)).1
theorem ct_y578 : decode (tb_cc 122) 578 = .ok (.iastore, 1) := (tb_spec (i := 122) (by decide) (show tb_ft 122 578 = some (.iastore, 1, []) from rfl)).1
theorem ct_y579 : decode (tb_cc 122) 579 = .ok (.dup, 1) := (tb_spec (i := 122) (by decide) (show tb_ft 122 579 = some (.dup, 1, []) from rfl)).1
theorem ct_y580 : decode (tb_cc 122) 580 = .ok (.bipush 15, 2) := (tb_spec (i := 122) (by decide) (show tb_ft 122 580 = some (.bipush 15, 2, []) from rfl)).1
theorem ct_y582 : decode (tb_cc 122) 582 = .ok (.bipush 32, 2) := (tb_spec (i := 122) (by decide) (show tb_ft 122 582 = some (.bipush 32, 2, []) from rfl)).1
theorem ct_y584 : decode (tb_cc 122) 584 = .ok (.iastore, 1) := (tb_spec (i := 122) (by decide) (show tb_ft 122 584 = some (.iastore, 1, []) from rfl)).1
theorem ct_y585 : decode (tb_cc 122) 585 = .ok (.dup, 1) := (tb_spec (i := 122) (by decide) (show tb_ft 122 585 = some (.dup, 1, []) from rfl)).1
theorem ct_y586 : decode (tb_cc 122) 586 = .ok (.bipush 16, 2) := (tb_spec (i := 122) (by decide) (show tb_ft 122 586 = some (.bipush 16, 2, []) from rfl)).1
theorem ct_y588 : decode (tb_cc 122) 588 = .ok (.bipush 99, 2) := (tb_spec (i := 122) (by decide) (show tb_ft 122 588 = some (.bipush 99, 2, []) from rfl)).1
theorem ct_y590 : decode (tb_cc 122) 590 = .ok (.iastore, 1) := (tb_spec (i := 122) (by decide) (show tb_ft 122 590 = some (.iastore, 1, []) from rfl)).1
theorem ct_y591 : decode (tb_cc 122) 591 = .ok (.dup, 1) := (tb_spec (i := 122) (by decide) (show tb_ft 122 591 = some (.dup, 1, []) from rfl)).1
theorem ct_y592 : decode (tb_cc 122) 592 = .ok (.bipush 17, 2) := (tb_spec (i := 122) (by decide) (show tb_ft 122 592 = some (.bipush 17, 2, []) from rfl)).1
theorem ct_y594 : decode (tb_cc 122) 594 = .ok (.bipush 111, 2) := (tb_spec (i := 122) (by decide) (show tb_ft 122 594 = some (.bipush 111, 2, []) from rfl)).1
theorem ct_y596 : decode (tb_cc 122) 596 = .ok (.iastore, 1) := (tb_spec (i := 122) (by decide) (show tb_ft 122 596 = some (.iastore, 1, []) from rfl)).1
theorem ct_y597 : decode (tb_cc 122) 597 = .ok (.dup, 1) := (tb_spec (i := 122) (by decide) (show tb_ft 122 597 = some (.dup, 1, []) from rfl)).1
theorem ct_y598 : decode (tb_cc 122) 598 = .ok (.bipush 18, 2) := (tb_spec (i := 122) (by decide) (show tb_ft 122 598 = some (.bipush 18, 2, []) from rfl)).1
theorem ct_y600 : decode (tb_cc 122) 600 = .ok (.bipush 115, 2) := (tb_spec (i := 122) (by decide) (show tb_ft 122 600 = some (.bipush 115, 2, []) from rfl)).1
theorem ct_y602 : decode (tb_cc 122) 602 = .ok (.iastore, 1) := (tb_spec (i := 122) (by decide) (show tb_ft 122 602 = some (.iastore, 1, []) from rfl)).1
theorem ct_y603 : decode (tb_cc 122) 603 = .ok (.dup, 1) := (tb_spec (i := 122) (by decide) (show tb_ft 122 603 = some (.dup, 1, []) from rfl)).1
theorem ct_y604 : decode (tb_cc 122) 604 = .ok (.bipush 19, 2) := (tb_spec (i := 122) (by decide) (show tb_ft 122 604 = some (.bipush 19, 2, []) from rfl)).1
theorem ct_y606 : decode (tb_cc 122) 606 = .ok (.bipush 116, 2) := (tb_spec (i := 122) (by decide) (show tb_ft 122 606 = some (.bipush 116, 2, []) from rfl)).1
theorem ct_y608 : decode (tb_cc 122) 608 = .ok (.iastore, 1) := (tb_spec (i := 122) (by decide) (show tb_ft 122 608 = some (.iastore, 1, []) from rfl)).1
theorem ct_y609 : decode (tb_cc 122) 609 = .ok (.dup, 1) := (tb_spec (i := 122) (by decide) (show tb_ft 122 609 = some (.dup, 1, []) from rfl)).1
theorem ct_y610 : decode (tb_cc 122) 610 = .ok (.bipush 20, 2) := (tb_spec (i := 122) (by decide) (show tb_ft 122 610 = some (.bipush 20, 2, []) from rfl)).1
theorem ct_y612 : decode (tb_cc 122) 612 = .ok (.bipush 115, 2) := (tb_spec (i := 122) (by decide) (show tb_ft 122 612 = some (.bipush 115, 2, []) from rfl)).1
theorem ct_y614 : decode (tb_cc 122) 614 = .ok (.iastore, 1) := (tb_spec (i := 122) (by decide) (show tb_ft 122 614 = some (.iastore, 1, []) from rfl)).1
theorem ct_y615 : decode (tb_cc 122) 615 = .ok (.dup, 1) := (tb_spec (i := 122) (by decide) (show tb_ft 122 615 = some (.dup, 1, []) from rfl)).1
theorem ct_y616 : decode (tb_cc 122) 616 = .ok (.bipush 21, 2) := (tb_spec (i := 122) (by decide) (show tb_ft 122 616 = some (.bipush 21, 2, []) from rfl)).1
theorem ct_y618 : decode (tb_cc 122) 618 = .ok (.bipush 32, 2) := (tb_spec (i := 122) (by decide) (show tb_ft 122 618 = some (.bipush 32, 2, []) from rfl)).1
theorem ct_y620 : decode (tb_cc 122) 620 = .ok (.iastore, 1) := (tb_spec (i := 122) (by decide) (show tb_ft 122 620 = some (.iastore, 1, []) from rfl)).1
theorem ct_y621 : decode (tb_cc 122) 621 = .ok (.dup, 1) := (tb_spec (i := 122) (by decide) (show tb_ft 122 621 = some (.dup, 1, []) from rfl)).1
theorem ct_y622 : decode (tb_cc 122) 622 = .ok (.bipush 22, 2) := (tb_spec (i := 122) (by decide) (show tb_ft 122 622 = some (.bipush 22, 2, []) from rfl)).1
theorem ct_y624 : decode (tb_cc 122) 624 = .ok (.bipush 32, 2) := (tb_spec (i := 122) (by decide) (show tb_ft 122 624 = some (.bipush 32, 2, []) from rfl)).1
theorem ct_y626 : decode (tb_cc 122) 626 = .ok (.iastore, 1) := (tb_spec (i := 122) (by decide) (show tb_ft 122 626 = some (.iastore, 1, []) from rfl)).1
theorem ct_y627 : decode (tb_cc 122) 627 = .ok (.dup, 1) := (tb_spec (i := 122) (by decide) (show tb_ft 122 627 = some (.dup, 1, []) from rfl)).1
theorem ct_y628 : decode (tb_cc 122) 628 = .ok (.bipush 23, 2) := (tb_spec (i := 122) (by decide) (show tb_ft 122 628 = some (.bipush 23, 2, []) from rfl)).1
theorem ct_y630 : decode (tb_cc 122) 630 = .ok (.bipush 32, 2) := (tb_spec (i := 122) (by decide) (show tb_ft 122 630 = some (.bipush 32, 2, []) from rfl)).1
theorem ct_y632 : decode (tb_cc 122) 632 = .ok (.iastore, 1) := (tb_spec (i := 122) (by decide) (show tb_ft 122 632 = some (.iastore, 1, []) from rfl)).1
theorem ct_y633 : decode (tb_cc 122) 633 = .ok (.dup, 1) := (tb_spec (i := 122) (by decide) (show tb_ft 122 633 = some (.dup, 1, []) from rfl)).1
theorem ct_y634 : decode (tb_cc 122) 634 = .ok (.bipush 24, 2) := (tb_spec (i := 122) (by decide) (show tb_ft 122 634 = some (.bipush 24, 2, []) from rfl)).1
theorem ct_y636 : decode (tb_cc 122) 636 = .ok (.bipush 110, 2) := (tb_spec (i := 122) (by decide) (show tb_ft 122 636 = some (.bipush 110, 2, []) from rfl)).1
theorem ct_y638 : decode (tb_cc 122) 638 = .ok (.iastore, 1) := (tb_spec (i := 122) (by decide) (show tb_ft 122 638 = some (.iastore, 1, []) from rfl)).1
theorem ct_y639 : decode (tb_cc 122) 639 = .ok (.dup, 1) := (tb_spec (i := 122) (by decide) (show tb_ft 122 639 = some (.dup, 1, []) from rfl)).1
theorem ct_y640 : decode (tb_cc 122) 640 = .ok (.bipush 25, 2) := (tb_spec (i := 122) (by decide) (show tb_ft 122 640 = some (.bipush 25, 2, []) from rfl)).1
theorem ct_y642 : decode (tb_cc 122) 642 = .ok (.bipush 111, 2) := (tb_spec (i := 122) (by decide) (show tb_ft 122 642 = some (.bipush 111, 2, []) from rfl)).1
theorem ct_y644 : decode (tb_cc 122) 644 = .ok (.iastore, 1) := (tb_spec (i := 122) (by decide) (show tb_ft 122 644 = some (.iastore, 1, []) from rfl)).1
theorem ct_y645 : decode (tb_cc 122) 645 = .ok (.dup, 1) := (tb_spec (i := 122) (by decide) (show tb_ft 122 645 = some (.dup, 1, []) from rfl)).1
theorem ct_y646 : decode (tb_cc 122) 646 = .ok (.bipush 26, 2) := (tb_spec (i := 122) (by decide) (show tb_ft 122 646 = some (.bipush 26, 2, []) from rfl)).1
theorem ct_y648 : decode (tb_cc 122) 648 = .ok (.bipush 116, 2) := (tb_spec (i := 122) (by decide) (show tb_ft 122 648 = some (.bipush 116, 2, []) from rfl)).1
theorem ct_y650 : decode (tb_cc 122) 650 = .ok (.iastore, 1) := (tb_spec (i := 122) (by decide) (show tb_ft 122 650 = some (.iastore, 1, []) from rfl)).1
theorem ct_y651 : decode (tb_cc 122) 651 = .ok (.dup, 1) := (tb_spec (i := 122) (by decide) (show tb_ft 122 651 = some (.dup, 1, []) from rfl)).1
theorem ct_y652 : decode (tb_cc 122) 652 = .ok (.bipush 27, 2) := (tb_spec (i := 122) (by decide) (show tb_ft 122 652 = some (.bipush 27, 2, []) from rfl)).1
theorem ct_y654 : decode (tb_cc 122) 654 = .ok (.bipush 99, 2) := (tb_spec (i := 122) (by decide) (show tb_ft 122 654 = some (.bipush 99, 2, []) from rfl)).1
theorem ct_y656 : decode (tb_cc 122) 656 = .ok (.iastore, 1) := (tb_spec (i := 122) (by decide) (show tb_ft 122 656 = some (.iastore, 1, []) from rfl)).1
theorem ct_y657 : decode (tb_cc 122) 657 = .ok (.dup, 1) := (tb_spec (i := 122) (by decide) (show tb_ft 122 657 = some (.dup, 1, []) from rfl)).1
theorem ct_y658 : decode (tb_cc 122) 658 = .ok (.bipush 28, 2) := (tb_spec (i := 122) (by decide) (show tb_ft 122 658 = some (.bipush 28, 2, []) from rfl)).1
theorem ct_y660 : decode (tb_cc 122) 660 = .ok (.bipush 104, 2) := (tb_spec (i := 122) (by decide) (show tb_ft 122 660 = some (.bipush 104, 2, []) from rfl)).1
theorem ct_y662 : decode (tb_cc 122) 662 = .ok (.iastore, 1) := (tb_spec (i := 122) (by decide) (show tb_ft 122 662 = some (.iastore, 1, []) from rfl)).1
theorem ct_y663 : decode (tb_cc 122) 663 = .ok (.dup, 1) := (tb_spec (i := 122) (by decide) (show tb_ft 122 663 = some (.dup, 1, []) from rfl)).1
theorem ct_y664 : decode (tb_cc 122) 664 = .ok (.bipush 29, 2) := (tb_spec (i := 122) (by decide) (show tb_ft 122 664 = some (.bipush 29, 2, []) from rfl)).1
theorem ct_y666 : decode (tb_cc 122) 666 = .ok (.bipush 32, 2) := (tb_spec (i := 122) (by decide) (show tb_ft 122 666 = some (.bipush 32, 2, []) from rfl)).1
theorem ct_y668 : decode (tb_cc 122) 668 = .ok (.iastore, 1) := (tb_spec (i := 122) (by decide) (show tb_ft 122 668 = some (.iastore, 1, []) from rfl)).1
theorem ct_y669 : decode (tb_cc 122) 669 = .ok (.dup, 1) := (tb_spec (i := 122) (by decide) (show tb_ft 122 669 = some (.dup, 1, []) from rfl)).1
theorem ct_y670 : decode (tb_cc 122) 670 = .ok (.bipush 30, 2) := (tb_spec (i := 122) (by decide) (show tb_ft 122 670 = some (.bipush 30, 2, []) from rfl)).1
theorem ct_y672 : decode (tb_cc 122) 672 = .ok (.bipush 32, 2) := (tb_spec (i := 122) (by decide) (show tb_ft 122 672 = some (.bipush 32, 2, []) from rfl)).1
theorem ct_y674 : decode (tb_cc 122) 674 = .ok (.iastore, 1) := (tb_spec (i := 122) (by decide) (show tb_ft 122 674 = some (.iastore, 1, []) from rfl)).1
theorem ct_y675 : decode (tb_cc 122) 675 = .ok (.dup, 1) := (tb_spec (i := 122) (by decide) (show tb_ft 122 675 = some (.dup, 1, []) from rfl)).1
theorem ct_y676 : decode (tb_cc 122) 676 = .ok (.bipush 31, 2) := (tb_spec (i := 122) (by decide) (show tb_ft 122 676 = some (.bipush 31, 2, []) from rfl)).1
theorem ct_y678 : decode (tb_cc 122) 678 = .ok (.bipush 32, 2) := (tb_spec (i := 122) (by decide) (show tb_ft 122 678 = some (.bipush 32, 2, []) from rfl)).1
theorem ct_y680 : decode (tb_cc 122) 680 = .ok (.iastore, 1) := (tb_spec (i := 122) (by decide) (show tb_ft 122 680 = some (.iastore, 1, []) from rfl)).1
theorem ct_y681 : decode (tb_cc 122) 681 = .ok (.dup, 1) := (tb_spec (i := 122) (by decide) (show tb_ft 122 681 = some (.dup, 1, []) from rfl)).1
theorem ct_y682 : decode (tb_cc 122) 682 = .ok (.bipush 32, 2) := (tb_spec (i := 122) (by decide) (show tb_ft 122 682 = some (.bipush 32, 2, []) from rfl)).1
theorem ct_y684 : decode (tb_cc 122) 684 = .ok (.bipush 97, 2) := (tb_spec (i := 122) (by decide) (show tb_ft 122 684 = some (.bipush 97, 2, []) from rfl)).1
theorem ct_y686 : decode (tb_cc 122) 686 = .ok (.iastore, 1) := (tb_spec (i := 122) (by decide) (show tb_ft 122 686 = some (.iastore, 1, []) from rfl)).1
theorem ct_y687 : decode (tb_cc 122) 687 = .ok (.dup, 1) := (tb_spec (i := 122) (by decide) (show tb_ft 122 687 = some (.dup, 1, []) from rfl)).1
theorem ct_y688 : decode (tb_cc 122) 688 = .ok (.bipush 33, 2) := (tb_spec (i := 122) (by decide) (show tb_ft 122 688 = some (.bipush 33, 2, []) from rfl)).1
theorem ct_y690 : decode (tb_cc 122) 690 = .ok (.bipush 102, 2) := (tb_spec (i := 122) (by decide) (show tb_ft 122 690 = some (.bipush 102, 2, []) from rfl)).1
theorem ct_y692 : decode (tb_cc 122) 692 = .ok (.iastore, 1) := (tb_spec (i := 122) (by decide) (show tb_ft 122 692 = some (.iastore, 1, []) from rfl)).1
theorem ct_y693 : decode (tb_cc 122) 693 = .ok (.dup, 1) := (tb_spec (i := 122) (by decide) (show tb_ft 122 693 = some (.dup, 1, []) from rfl)).1
theorem ct_y694 : decode (tb_cc 122) 694 = .ok (.bipush 34, 2) := (tb_spec (i := 122) (by decide) (show tb_ft 122 694 = some (.bipush 34, 2, []) from rfl)).1
theorem ct_y696 : decode (tb_cc 122) 696 = .ok (.bipush 116, 2) := (tb_spec (i := 122) (by decide) (show tb_ft 122 696 = some (.bipush 116, 2, []) from rfl)).1
theorem ct_y698 : decode (tb_cc 122) 698 = .ok (.iastore, 1) := (tb_spec (i := 122) (by decide) (show tb_ft 122 698 = some (.iastore, 1, []) from rfl)).1
theorem ct_y699 : decode (tb_cc 122) 699 = .ok (.dup, 1) := (tb_spec (i := 122) (by decide) (show tb_ft 122 699 = some (.dup, 1, []) from rfl)).1
theorem ct_y700 : decode (tb_cc 122) 700 = .ok (.bipush 35, 2) := (tb_spec (i := 122) (by decide) (show tb_ft 122 700 = some (.bipush 35, 2, []) from rfl)).1
theorem ct_y702 : decode (tb_cc 122) 702 = .ok (.bipush 101, 2) := (tb_spec (i := 122) (by decide) (show tb_ft 122 702 = some (.bipush 101, 2, []) from rfl)).1
theorem ct_y704 : decode (tb_cc 122) 704 = .ok (.iastore, 1) := (tb_spec (i := 122) (by decide) (show tb_ft 122 704 = some (.iastore, 1, []) from rfl)).1
theorem ct_y705 : decode (tb_cc 122) 705 = .ok (.dup, 1) := (tb_spec (i := 122) (by decide) (show tb_ft 122 705 = some (.dup, 1, []) from rfl)).1
theorem ct_y706 : decode (tb_cc 122) 706 = .ok (.bipush 36, 2) := (tb_spec (i := 122) (by decide) (show tb_ft 122 706 = some (.bipush 36, 2, []) from rfl)).1
theorem ct_y708 : decode (tb_cc 122) 708 = .ok (.bipush 114, 2) := (tb_spec (i := 122) (by decide) (show tb_ft 122 708 = some (.bipush 114, 2, []) from rfl)).1
theorem ct_y710 : decode (tb_cc 122) 710 = .ok (.iastore, 1) := (tb_spec (i := 122) (by decide) (show tb_ft 122 710 = some (.iastore, 1, []) from rfl)).1
theorem ct_y711 : decode (tb_cc 122) 711 = .ok (.dup, 1) := (tb_spec (i := 122) (by decide) (show tb_ft 122 711 = some (.dup, 1, []) from rfl)).1
theorem ct_y712 : decode (tb_cc 122) 712 = .ok (.bipush 37, 2) := (tb_spec (i := 122) (by decide) (show tb_ft 122 712 = some (.bipush 37, 2, []) from rfl)).1
theorem ct_y714 : decode (tb_cc 122) 714 = .ok (.bipush 32, 2) := (tb_spec (i := 122) (by decide) (show tb_ft 122 714 = some (.bipush 32, 2, []) from rfl)).1
theorem ct_y716 : decode (tb_cc 122) 716 = .ok (.iastore, 1) := (tb_spec (i := 122) (by decide) (show tb_ft 122 716 = some (.iastore, 1, []) from rfl)).1
theorem ct_y717 : decode (tb_cc 122) 717 = .ok (.dup, 1) := (tb_spec (i := 122) (by decide) (show tb_ft 122 717 = some (.dup, 1, []) from rfl)).1
theorem ct_y718 : decode (tb_cc 122) 718 = .ok (.bipush 38, 2) := (tb_spec (i := 122) (by decide) (show tb_ft 122 718 = some (.bipush 38, 2, []) from rfl)).1
theorem ct_y720 : decode (tb_cc 122) 720 = .ok (.bipush 32, 2) := (tb_spec (i := 122) (by decide) (show tb_ft 122 720 = some (.bipush 32, 2, []) from rfl)).1
theorem ct_y722 : decode (tb_cc 122) 722 = .ok (.iastore, 1) := (tb_spec (i := 122) (by decide) (show tb_ft 122 722 = some (.iastore, 1, []) from rfl)).1
theorem ct_y723 : decode (tb_cc 122) 723 = .ok (.dup, 1) := (tb_spec (i := 122) (by decide) (show tb_ft 122 723 = some (.dup, 1, []) from rfl)).1
theorem ct_y724 : decode (tb_cc 122) 724 = .ok (.bipush 39, 2) := (tb_spec (i := 122) (by decide) (show tb_ft 122 724 = some (.bipush 39, 2, []) from rfl)).1
theorem ct_y726 : decode (tb_cc 122) 726 = .ok (.bipush 32, 2) := (tb_spec (i := 122) (by decide) (show tb_ft 122 726 = some (.bipush 32, 2, []) from rfl)).1
theorem ct_y728 : decode (tb_cc 122) 728 = .ok (.iastore, 1) := (tb_spec (i := 122) (by decide) (show tb_ft 122 728 = some (.iastore, 1, []) from rfl)).1
theorem ct_y729 : decode (tb_cc 122) 729 = .ok (.dup, 1) := (tb_spec (i := 122) (by decide) (show tb_ft 122 729 = some (.dup, 1, []) from rfl)).1
theorem ct_y730 : decode (tb_cc 122) 730 = .ok (.bipush 40, 2) := (tb_spec (i := 122) (by decide) (show tb_ft 122 730 = some (.bipush 40, 2, []) from rfl)).1
theorem ct_y732 : decode (tb_cc 122) 732 = .ok (.bipush 111, 2) := (tb_spec (i := 122) (by decide) (show tb_ft 122 732 = some (.bipush 111, 2, []) from rfl)).1
theorem ct_y734 : decode (tb_cc 122) 734 = .ok (.iastore, 1) := (tb_spec (i := 122) (by decide) (show tb_ft 122 734 = some (.iastore, 1, []) from rfl)).1
theorem ct_y735 : decode (tb_cc 122) 735 = .ok (.dup, 1) := (tb_spec (i := 122) (by decide) (show tb_ft 122 735 = some (.dup, 1, []) from rfl)).1
theorem ct_y736 : decode (tb_cc 122) 736 = .ok (.bipush 41, 2) := (tb_spec (i := 122) (by decide) (show tb_ft 122 736 = some (.bipush 41, 2, []) from rfl)).1
theorem ct_y738 : decode (tb_cc 122) 738 = .ok (.bipush 102, 2) := (tb_spec (i := 122) (by decide) (show tb_ft 122 738 = some (.bipush 102, 2, []) from rfl)).1
theorem ct_y740 : decode (tb_cc 122) 740 = .ok (.iastore, 1) := (tb_spec (i := 122) (by decide) (show tb_ft 122 740 = some (.iastore, 1, []) from rfl)).1
theorem ct_y741 : decode (tb_cc 122) 741 = .ok (.dup, 1) := (tb_spec (i := 122) (by decide) (show tb_ft 122 741 = some (.dup, 1, []) from rfl)).1
theorem ct_y742 : decode (tb_cc 122) 742 = .ok (.bipush 42, 2) := (tb_spec (i := 122) (by decide) (show tb_ft 122 742 = some (.bipush 42, 2, []) from rfl)).1
theorem ct_y744 : decode (tb_cc 122) 744 = .ok (.bipush 102, 2) := (tb_spec (i := 122) (by decide) (show tb_ft 122 744 = some (.bipush 102, 2, []) from rfl)).1
theorem ct_y746 : decode (tb_cc 122) 746 = .ok (.iastore, 1) := (tb_spec (i := 122) (by decide) (show tb_ft 122 746 = some (.iastore, 1, []) from rfl)).1
theorem ct_y747 : decode (tb_cc 122) 747 = .ok (.dup, 1) := (tb_spec (i := 122) (by decide) (show tb_ft 122 747 = some (.dup, 1, []) from rfl)).1
theorem ct_y748 : decode (tb_cc 122) 748 = .ok (.bipush 43, 2) := (tb_spec (i := 122) (by decide) (show tb_ft 122 748 = some (.bipush 43, 2, []) from rfl)).1
theorem ct_y750 : decode (tb_cc 122) 750 = .ok (.bipush 32, 2) := (tb_spec (i := 122) (by decide) (show tb_ft 122 750 = some (.bipush 32, 2, []) from rfl)).1
theorem ct_y752 : decode (tb_cc 122) 752 = .ok (.iastore, 1) := (tb_spec (i := 122) (by decide) (show tb_ft 122 752 = some (.iastore, 1, []) from rfl)).1
theorem ct_y753 : decode (tb_cc 122) 753 = .ok (.dup, 1) := (tb_spec (i := 122) (by decide) (show tb_ft 122 753 = some (.dup, 1, []) from rfl)).1
theorem ct_y754 : decode (tb_cc 122) 754 = .ok (.bipush 44, 2) := (tb_spec (i := 122) (by decide) (show tb_ft 122 754 = some (.bipush 44, 2, []) from rfl)).1
theorem ct_y756 : decode (tb_cc 122) 756 = .ok (.bipush 32, 2) := (tb_spec (i := 122) (by decide) (show tb_ft 122 756 = some (.bipush 32, 2, []) from rfl)).1
theorem ct_y758 : decode (tb_cc 122) 758 = .ok (.iastore, 1) := (tb_spec (i := 122) (by decide) (show tb_ft 122 758 = some (.iastore, 1, []) from rfl)).1
theorem ct_y759 : decode (tb_cc 122) 759 = .ok (.dup, 1) := (tb_spec (i := 122) (by decide) (show tb_ft 122 759 = some (.dup, 1, []) from rfl)).1
theorem ct_y760 : decode (tb_cc 122) 760 = .ok (.bipush 45, 2) := (tb_spec (i := 122) (by decide) (show tb_ft 122 760 = some (.bipush 45, 2, []) from rfl)).1
theorem ct_y762 : decode (tb_cc 122) 762 = .ok (.bipush 32, 2) := (tb_spec (i := 122) (by decide) (show tb_ft 122 762 = some (.bipush 32, 2, []) from rfl)).1
theorem ct_y764 : decode (tb_cc 122) 764 = .ok (.iastore, 1) := (tb_spec (i := 122) (by decide) (show tb_ft 122 764 = some (.iastore, 1, []) from rfl)).1
theorem ct_y765 : decode (tb_cc 122) 765 = .ok (.dup, 1) := (tb_spec (i := 122) (by decide) (show tb_ft 122 765 = some (.dup, 1, []) from rfl)).1
theorem ct_y766 : decode (tb_cc 122) 766 = .ok (.bipush 46, 2) := (tb_spec (i := 122) (by decide) (show tb_ft 122 766 = some (.bipush 46, 2, []) from rfl)).1
theorem ct_y768 : decode (tb_cc 122) 768 = .ok (.bipush 32, 2) := (tb_spec (i := 122) (by decide) (show tb_ft 122 768 = some (.bipush 32, 2, []) from rfl)).1
theorem ct_y770 : decode (tb_cc 122) 770 = .ok (.iastore, 1) := (tb_spec (i := 122) (by decide) (show tb_ft 122 770 = some (.iastore, 1, []) from rfl)).1
theorem ct_y771 : decode (tb_cc 122) 771 = .ok (.dup, 1) := (tb_spec (i := 122) (by decide) (show tb_ft 122 771 = some (.dup, 1, []) from rfl)).1
theorem ct_y772 : decode (tb_cc 122) 772 = .ok (.bipush 47, 2) := (tb_spec (i := 122) (by decide) (show tb_ft 122 772 = some (.bipush 47, 2, []) from rfl)).1
theorem ct_y774 : decode (tb_cc 122) 774 = .ok (.bipush 32, 2) := (tb_spec (i := 122) (by decide) (show tb_ft 122 774 = some (.bipush 32, 2, []) from rfl)).1
theorem ct_y776 : decode (tb_cc 122) 776 = .ok (.iastore, 1) := (tb_spec (i := 122) (by decide) (show tb_ft 122 776 = some (.iastore, 1, []) from rfl)).1
theorem ct_y777 : decode (tb_cc 122) 777 = .ok (.dup, 1) := (tb_spec (i := 122) (by decide) (show tb_ft 122 777 = some (.dup, 1, []) from rfl)).1
theorem ct_y778 : decode (tb_cc 122) 778 = .ok (.bipush 48, 2) := (tb_spec (i := 122) (by decide) (show tb_ft 122 778 = some (.bipush 48, 2, []) from rfl)).1
theorem ct_y780 : decode (tb_cc 122) 780 = .ok (.bipush 111, 2) := (tb_spec (i := 122) (by decide) (show tb_ft 122 780 = some (.bipush 111, 2, []) from rfl)).1
theorem ct_y782 : decode (tb_cc 122) 782 = .ok (.iastore, 1) := (tb_spec (i := 122) (by decide) (show tb_ft 122 782 = some (.iastore, 1, []) from rfl)).1
theorem ct_y783 : decode (tb_cc 122) 783 = .ok (.dup, 1) := (tb_spec (i := 122) (by decide) (show tb_ft 122 783 = some (.dup, 1, []) from rfl)).1
theorem ct_y784 : decode (tb_cc 122) 784 = .ok (.bipush 49, 2) := (tb_spec (i := 122) (by decide) (show tb_ft 122 784 = some (.bipush 49, 2, []) from rfl)).1
theorem ct_y786 : decode (tb_cc 122) 786 = .ok (.bipush 118, 2) := (tb_spec (i := 122) (by decide) (show tb_ft 122 786 = some (.bipush 118, 2, []) from rfl)).1
theorem ct_y788 : decode (tb_cc 122) 788 = .ok (.iastore, 1) := (tb_spec (i := 122) (by decide) (show tb_ft 122 788 = some (.iastore, 1, []) from rfl)).1
theorem ct_y789 : decode (tb_cc 122) 789 = .ok (.dup, 1) := (tb_spec (i := 122) (by decide) (show tb_ft 122 789 = some (.dup, 1, []) from rfl)).1
theorem ct_y790 : decode (tb_cc 122) 790 = .ok (.bipush 50, 2) := (tb_spec (i := 122) (by decide) (show tb_ft 122 790 = some (.bipush 50, 2, []) from rfl)).1
theorem ct_y792 : decode (tb_cc 122) 792 = .ok (.bipush 101, 2) := (tb_spec (i := 122) (by decide) (show tb_ft 122 792 = some (.bipush 101, 2, []) from rfl)).1
theorem ct_y794 : decode (tb_cc 122) 794 = .ok (.iastore, 1) := (tb_spec (i := 122) (by decide) (show tb_ft 122 794 = some (.iastore, 1, []) from rfl)).1
theorem ct_y795 : decode (tb_cc 122) 795 = .ok (.dup, 1) := (tb_spec (i := 122) (by decide) (show tb_ft 122 795 = some (.dup, 1, []) from rfl)).1
theorem ct_y796 : decode (tb_cc 122) 796 = .ok (.bipush 51, 2) := (tb_spec (i := 122) (by decide) (show tb_ft 122 796 = some (.bipush 51, 2, []) from rfl)).1
theorem ct_y798 : decode (tb_cc 122) 798 = .ok (.bipush 114, 2) := (tb_spec (i := 122) (by decide) (show tb_ft 122 798 = some (.bipush 114, 2, []) from rfl)).1
theorem ct_y800 : decode (tb_cc 122) 800 = .ok (.iastore, 1) := (tb_spec (i := 122) (by decide) (show tb_ft 122 800 = some (.iastore, 1, []) from rfl)).1
theorem ct_y801 : decode (tb_cc 122) 801 = .ok (.dup, 1) := (tb_spec (i := 122) (by decide) (show tb_ft 122 801 = some (.dup, 1, []) from rfl)).1
theorem ct_y802 : decode (tb_cc 122) 802 = .ok (.bipush 52, 2) := (tb_spec (i := 122) (by decide) (show tb_ft 122 802 = some (.bipush 52, 2, []) from rfl)).1
theorem ct_y804 : decode (tb_cc 122) 804 = .ok (.bipush 32, 2) := (tb_spec (i := 122) (by decide) (show tb_ft 122 804 = some (.bipush 32, 2, []) from rfl)).1
theorem ct_y806 : decode (tb_cc 122) 806 = .ok (.iastore, 1) := (tb_spec (i := 122) (by decide) (show tb_ft 122 806 = some (.iastore, 1, []) from rfl)).1
theorem ct_y807 : decode (tb_cc 122) 807 = .ok (.dup, 1) := (tb_spec (i := 122) (by decide) (show tb_ft 122 807 = some (.dup, 1, []) from rfl)).1
theorem ct_y808 : decode (tb_cc 122) 808 = .ok (.bipush 53, 2) := (tb_spec (i := 122) (by decide) (show tb_ft 122 808 = some (.bipush 53, 2, []) from rfl)).1
theorem ct_y810 : decode (tb_cc 122) 810 = .ok (.bipush 32, 2) := (tb_spec (i := 122) (by decide) (show tb_ft 122 810 = some (.bipush 32, 2, []) from rfl)).1
theorem ct_y812 : decode (tb_cc 122) 812 = .ok (.iastore, 1) := (tb_spec (i := 122) (by decide) (show tb_ft 122 812 = some (.iastore, 1, []) from rfl)).1
theorem ct_y813 : decode (tb_cc 122) 813 = .ok (.dup, 1) := (tb_spec (i := 122) (by decide) (show tb_ft 122 813 = some (.dup, 1, []) from rfl)).1
theorem ct_y814 : decode (tb_cc 122) 814 = .ok (.bipush 54, 2) := (tb_spec (i := 122) (by decide) (show tb_ft 122 814 = some (.bipush 54, 2, []) from rfl)).1
theorem ct_y816 : decode (tb_cc 122) 816 = .ok (.bipush 32, 2) := (tb_spec (i := 122) (by decide) (show tb_ft 122 816 = some (.bipush 32, 2, []) from rfl)).1
theorem ct_y818 : decode (tb_cc 122) 818 = .ok (.iastore, 1) := (tb_spec (i := 122) (by decide) (show tb_ft 122 818 = some (.iastore, 1, []) from rfl)).1
theorem ct_y819 : decode (tb_cc 122) 819 = .ok (.dup, 1) := (tb_spec (i := 122) (by decide) (show tb_ft 122 819 = some (.dup, 1, []) from rfl)).1
theorem ct_y820 : decode (tb_cc 122) 820 = .ok (.bipush 55, 2) := (tb_spec (i := 122) (by decide) (show tb_ft 122 820 = some (.bipush 55, 2, []) from rfl)).1
theorem ct_y822 : decode (tb_cc 122) 822 = .ok (.bipush 32, 2) := (tb_spec (i := 122) (by decide) (show tb_ft 122 822 = some (.bipush 32, 2, []) from rfl)).1
theorem ct_y824 : decode (tb_cc 122) 824 = .ok (.iastore, 1) := (tb_spec (i := 122) (by decide) (show tb_ft 122 824 = some (.iastore, 1, []) from rfl)).1
theorem ct_y825 : decode (tb_cc 122) 825 = .ok (.dup, 1) := (tb_spec (i := 122) (by decide) (show tb_ft 122 825 = some (.dup, 1, []) from rfl)).1
theorem ct_y826 : decode (tb_cc 122) 826 = .ok (.bipush 56, 2) := (tb_spec (i := 122) (by decide) (show tb_ft 122 826 = some (.bipush 56, 2, []) from rfl)).1
theorem ct_y828 : decode (tb_cc 122) 828 = .ok (.bipush 109, 2) := (tb_spec (i := 122) (by decide) (show tb_ft 122 828 = some (.bipush 109, 2, []) from rfl)).1
theorem ct_y830 : decode (tb_cc 122) 830 = .ok (.iastore, 1) := (tb_spec (i := 122) (by decide) (show tb_ft 122 830 = some (.iastore, 1, []) from rfl)).1
theorem ct_y831 : decode (tb_cc 122) 831 = .ok (.dup, 1) := (tb_spec (i := 122) (by decide) (show tb_ft 122 831 = some (.dup, 1, []) from rfl)).1
theorem ct_y832 : decode (tb_cc 122) 832 = .ok (.bipush 57, 2) := (tb_spec (i := 122) (by decide) (show tb_ft 122 832 = some (.bipush 57, 2, []) from rfl)).1
theorem ct_y834 : decode (tb_cc 122) 834 = .ok (.bipush 111, 2) := (tb_spec (i := 122) (by decide) (show tb_ft 122 834 = some (.bipush 111, 2, []) from rfl)).1
theorem ct_y836 : decode (tb_cc 122) 836 = .ok (.iastore, 1) := (tb_spec (i := 122) (by decide) (show tb_ft 122 836 = some (.iastore, 1, []) from rfl)).1
theorem ct_y837 : decode (tb_cc 122) 837 = .ok (.dup, 1) := (tb_spec (i := 122) (by decide) (show tb_ft 122 837 = some (.dup, 1, []) from rfl)).1
theorem ct_y838 : decode (tb_cc 122) 838 = .ok (.bipush 58, 2) := (tb_spec (i := 122) (by decide) (show tb_ft 122 838 = some (.bipush 58, 2, []) from rfl)).1
theorem ct_y840 : decode (tb_cc 122) 840 = .ok (.bipush 114, 2) := (tb_spec (i := 122) (by decide) (show tb_ft 122 840 = some (.bipush 114, 2, []) from rfl)).1
theorem ct_y842 : decode (tb_cc 122) 842 = .ok (.iastore, 1) := (tb_spec (i := 122) (by decide) (show tb_ft 122 842 = some (.iastore, 1, []) from rfl)).1
theorem ct_y843 : decode (tb_cc 122) 843 = .ok (.dup, 1) := (tb_spec (i := 122) (by decide) (show tb_ft 122 843 = some (.dup, 1, []) from rfl)).1
theorem ct_y844 : decode (tb_cc 122) 844 = .ok (.bipush 59, 2) := (tb_spec (i := 122) (by decide) (show tb_ft 122 844 = some (.bipush 59, 2, []) from rfl)).1
theorem ct_y846 : decode (tb_cc 122) 846 = .ok (.bipush 101, 2) := (tb_spec (i := 122) (by decide) (show tb_ft 122 846 = some (.bipush 101, 2, []) from rfl)).1
theorem ct_y848 : decode (tb_cc 122) 848 = .ok (.iastore, 1) := (tb_spec (i := 122) (by decide) (show tb_ft 122 848 = some (.iastore, 1, []) from rfl)).1
theorem ct_y849 : decode (tb_cc 122) 849 = .ok (.dup, 1) := (tb_spec (i := 122) (by decide) (show tb_ft 122 849 = some (.dup, 1, []) from rfl)).1
theorem ct_y850 : decode (tb_cc 122) 850 = .ok (.bipush 60, 2) := (tb_spec (i := 122) (by decide) (show tb_ft 122 850 = some (.bipush 60, 2, []) from rfl)).1
theorem ct_y852 : decode (tb_cc 122) 852 = .ok (.bipush 32, 2) := (tb_spec (i := 122) (by decide) (show tb_ft 122 852 = some (.bipush 32, 2, []) from rfl)).1
theorem ct_y854 : decode (tb_cc 122) 854 = .ok (.iastore, 1) := (tb_spec (i := 122) (by decide) (show tb_ft 122 854 = some (.iastore, 1, []) from rfl)).1
theorem ct_y855 : decode (tb_cc 122) 855 = .ok (.dup, 1) := (tb_spec (i := 122) (by decide) (show tb_ft 122 855 = some (.dup, 1, []) from rfl)).1
theorem ct_y856 : decode (tb_cc 122) 856 = .ok (.bipush 61, 2) := (tb_spec (i := 122) (by decide) (show tb_ft 122 856 = some (.bipush 61, 2, []) from rfl)).1
theorem ct_y858 : decode (tb_cc 122) 858 = .ok (.bipush 32, 2) := (tb_spec (i := 122) (by decide) (show tb_ft 122 858 = some (.bipush 32, 2, []) from rfl)).1
theorem ct_y860 : decode (tb_cc 122) 860 = .ok (.iastore, 1) := (tb_spec (i := 122) (by decide) (show tb_ft 122 860 = some (.iastore, 1, []) from rfl)).1
theorem ct_y861 : decode (tb_cc 122) 861 = .ok (.dup, 1) := (tb_spec (i := 122) (by decide) (show tb_ft 122 861 = some (.dup, 1, []) from rfl)).1
theorem ct_y862 : decode (tb_cc 122) 862 = .ok (.bipush 62, 2) := (tb_spec (i := 122) (by decide) (show tb_ft 122 862 = some (.bipush 62, 2, []) from rfl)).1
theorem ct_y864 : decode (tb_cc 122) 864 = .ok (.bipush 32, 2) := (tb_spec (i := 122) (by decide) (show tb_ft 122 864 = some (.bipush 32, 2, []) from rfl)).1
theorem ct_y866 : decode (tb_cc 122) 866 = .ok (.iastore, 1) := (tb_spec (i := 122) (by decide) (show tb_ft 122 866 = some (.iastore, 1, []) from rfl)).1
theorem ct_y867 : decode (tb_cc 122) 867 = .ok (.dup, 1) := (tb_spec (i := 122) (by decide) (show tb_ft 122 867 = some (.dup, 1, []) from rfl)).1
theorem ct_y868 : decode (tb_cc 122) 868 = .ok (.bipush 63, 2) := (tb_spec (i := 122) (by decide) (show tb_ft 122 868 = some (.bipush 63, 2, []) from rfl)).1
theorem ct_y870 : decode (tb_cc 122) 870 = .ok (.bipush 32, 2) := (tb_spec (i := 122) (by decide) (show tb_ft 122 870 = some (.bipush 32, 2, []) from rfl)).1
theorem ct_y872 : decode (tb_cc 122) 872 = .ok (.iastore, 1) := (tb_spec (i := 122) (by decide) (show tb_ft 122 872 = some (.iastore, 1, []) from rfl)).1
theorem ct_y873 : decode (tb_cc 122) 873 = .ok (.dup, 1) := (tb_spec (i := 122) (by decide) (show tb_ft 122 873 = some (.dup, 1, []) from rfl)).1
theorem ct_y874 : decode (tb_cc 122) 874 = .ok (.bipush 64, 2) := (tb_spec (i := 122) (by decide) (show tb_ft 122 874 = some (.bipush 64, 2, []) from rfl)).1
theorem ct_y876 : decode (tb_cc 122) 876 = .ok (.bipush 112, 2) := (tb_spec (i := 122) (by decide) (show tb_ft 122 876 = some (.bipush 112, 2, []) from rfl)).1
theorem ct_y878 : decode (tb_cc 122) 878 = .ok (.iastore, 1) := (tb_spec (i := 122) (by decide) (show tb_ft 122 878 = some (.iastore, 1, []) from rfl)).1
theorem ct_y879 : decode (tb_cc 122) 879 = .ok (.dup, 1) := (tb_spec (i := 122) (by decide) (show tb_ft 122 879 = some (.dup, 1, []) from rfl)).1
theorem ct_y880 : decode (tb_cc 122) 880 = .ok (.bipush 65, 2) := (tb_spec (i := 122) (by decide) (show tb_ft 122 880 = some (.bipush 65, 2, []) from rfl)).1
theorem ct_y882 : decode (tb_cc 122) 882 = .ok (.bipush 114, 2) := (tb_spec (i := 122) (by decide) (show tb_ft 122 882 = some (.bipush 114, 2, []) from rfl)).1
theorem ct_y884 : decode (tb_cc 122) 884 = .ok (.iastore, 1) := (tb_spec (i := 122) (by decide) (show tb_ft 122 884 = some (.iastore, 1, []) from rfl)).1
theorem ct_y885 : decode (tb_cc 122) 885 = .ok (.dup, 1) := (tb_spec (i := 122) (by decide) (show tb_ft 122 885 = some (.dup, 1, []) from rfl)).1
theorem ct_y886 : decode (tb_cc 122) 886 = .ok (.bipush 66, 2) := (tb_spec (i := 122) (by decide) (show tb_ft 122 886 = some (.bipush 66, 2, []) from rfl)).1
theorem ct_y888 : decode (tb_cc 122) 888 = .ok (.bipush 105, 2) := (tb_spec (i := 122) (by decide) (show tb_ft 122 888 = some (.bipush 105, 2, []) from rfl)).1
theorem ct_y890 : decode (tb_cc 122) 890 = .ok (.iastore, 1) := (tb_spec (i := 122) (by decide) (show tb_ft 122 890 = some (.iastore, 1, []) from rfl)).1
theorem ct_y891 : decode (tb_cc 122) 891 = .ok (.dup, 1) := (tb_spec (i := 122) (by decide) (show tb_ft 122 891 = some (.dup, 1, []) from rfl)).1
theorem ct_y892 : decode (tb_cc 122) 892 = .ok (.bipush 67, 2) := (tb_spec (i := 122) (by decide) (show tb_ft 122 892 = some (.bipush 67, 2, []) from rfl)).1
theorem ct_y894 : decode (tb_cc 122) 894 = .ok (.bipush 99, 2) := (tb_spec (i := 122) (by decide) (show tb_ft 122 894 = some (.bipush 99, 2, []) from rfl)).1
theorem ct_y896 : decode (tb_cc 122) 896 = .ok (.iastore, 1) := (tb_spec (i := 122) (by decide) (show tb_ft 122 896 = some (.iastore, 1, []) from rfl)).1
theorem ct_y897 : decode (tb_cc 122) 897 = .ok (.dup, 1) := (tb_spec (i := 122) (by decide) (show tb_ft 122 897 = some (.dup, 1, []) from rfl)).1
theorem ct_y898 : decode (tb_cc 122) 898 = .ok (.bipush 68, 2) := (tb_spec (i := 122) (by decide) (show tb_ft 122 898 = some (.bipush 68, 2, []) from rfl)).1
theorem ct_y900 : decode (tb_cc 122) 900 = .ok (.bipush 101, 2) := (tb_spec (i := 122) (by decide) (show tb_ft 122 900 = some (.bipush 101, 2, []) from rfl)).1
theorem ct_y902 : decode (tb_cc 122) 902 = .ok (.iastore, 1) := (tb_spec (i := 122) (by decide) (show tb_ft 122 902 = some (.iastore, 1, []) from rfl)).1
theorem ct_y903 : decode (tb_cc 122) 903 = .ok (.dup, 1) := (tb_spec (i := 122) (by decide) (show tb_ft 122 903 = some (.dup, 1, []) from rfl)).1
theorem ct_y904 : decode (tb_cc 122) 904 = .ok (.bipush 69, 2) := (tb_spec (i := 122) (by decide) (show tb_ft 122 904 = some (.bipush 69, 2, []) from rfl)).1
theorem ct_y906 : decode (tb_cc 122) 906 = .ok (.bipush 32, 2) := (tb_spec (i := 122) (by decide) (show tb_ft 122 906 = some (.bipush 32, 2, []) from rfl)).1
theorem ct_y908 : decode (tb_cc 122) 908 = .ok (.iastore, 1) := (tb_spec (i := 122) (by decide) (show tb_ft 122 908 = some (.iastore, 1, []) from rfl)).1
theorem ct_y909 : decode (tb_cc 122) 909 = .ok (.dup, 1) := (tb_spec (i := 122) (by decide) (show tb_ft 122 909 = some (.dup, 1, []) from rfl)).1
theorem ct_y910 : decode (tb_cc 122) 910 = .ok (.bipush 70, 2) := (tb_spec (i := 122) (by decide) (show tb_ft 122 910 = some (.bipush 70, 2, []) from rfl)).1
theorem ct_y912 : decode (tb_cc 122) 912 = .ok (.bipush 32, 2) := (tb_spec (i := 122) (by decide) (show tb_ft 122 912 = some (.bipush 32, 2, []) from rfl)).1
theorem ct_y914 : decode (tb_cc 122) 914 = .ok (.iastore, 1) := (tb_spec (i := 122) (by decide) (show tb_ft 122 914 = some (.iastore, 1, []) from rfl)).1
theorem ct_y915 : decode (tb_cc 122) 915 = .ok (.dup, 1) := (tb_spec (i := 122) (by decide) (show tb_ft 122 915 = some (.dup, 1, []) from rfl)).1
theorem ct_y916 : decode (tb_cc 122) 916 = .ok (.bipush 71, 2) := (tb_spec (i := 122) (by decide) (show tb_ft 122 916 = some (.bipush 71, 2, []) from rfl)).1
theorem ct_y918 : decode (tb_cc 122) 918 = .ok (.bipush 32, 2) := (tb_spec (i := 122) (by decide) (show tb_ft 122 918 = some (.bipush 32, 2, []) from rfl)).1
theorem ct_y920 : decode (tb_cc 122) 920 = .ok (.iastore, 1) := (tb_spec (i := 122) (by decide) (show tb_ft 122 920 = some (.iastore, 1, []) from rfl)).1
theorem ct_y921 : decode (tb_cc 122) 921 = .ok (.dup, 1) := (tb_spec (i := 122) (by decide) (show tb_ft 122 921 = some (.dup, 1, []) from rfl)).1
theorem ct_y922 : decode (tb_cc 122) 922 = .ok (.bipush 72, 2) := (tb_spec (i := 122) (by decide) (show tb_ft 122 922 = some (.bipush 72, 2, []) from rfl)).1
theorem ct_y924 : decode (tb_cc 122) 924 = .ok (.bipush 111, 2) := (tb_spec (i := 122) (by decide) (show tb_ft 122 924 = some (.bipush 111, 2, []) from rfl)).1
theorem ct_y926 : decode (tb_cc 122) 926 = .ok (.iastore, 1) := (tb_spec (i := 122) (by decide) (show tb_ft 122 926 = some (.iastore, 1, []) from rfl)).1
theorem ct_y927 : decode (tb_cc 122) 927 = .ok (.dup, 1) := (tb_spec (i := 122) (by decide) (show tb_ft 122 927 = some (.dup, 1, []) from rfl)).1
theorem ct_y928 : decode (tb_cc 122) 928 = .ok (.bipush 73, 2) := (tb_spec (i := 122) (by decide) (show tb_ft 122 928 = some (.bipush 73, 2, []) from rfl)).1
theorem ct_y930 : decode (tb_cc 122) 930 = .ok (.bipush 114, 2) := (tb_spec (i := 122) (by decide) (show tb_ft 122 930 = some (.bipush 114, 2, []) from rfl)).1
theorem ct_y932 : decode (tb_cc 122) 932 = .ok (.iastore, 1) := (tb_spec (i := 122) (by decide) (show tb_ft 122 932 = some (.iastore, 1, []) from rfl)).1
theorem ct_y933 : decode (tb_cc 122) 933 = .ok (.dup, 1) := (tb_spec (i := 122) (by decide) (show tb_ft 122 933 = some (.dup, 1, []) from rfl)).1
theorem ct_y934 : decode (tb_cc 122) 934 = .ok (.bipush 74, 2) := (tb_spec (i := 122) (by decide) (show tb_ft 122 934 = some (.bipush 74, 2, []) from rfl)).1
theorem ct_y936 : decode (tb_cc 122) 936 = .ok (.bipush 32, 2) := (tb_spec (i := 122) (by decide) (show tb_ft 122 936 = some (.bipush 32, 2, []) from rfl)).1
theorem ct_y938 : decode (tb_cc 122) 938 = .ok (.iastore, 1) := (tb_spec (i := 122) (by decide) (show tb_ft 122 938 = some (.iastore, 1, []) from rfl)).1
theorem ct_y939 : decode (tb_cc 122) 939 = .ok (.dup, 1) := (tb_spec (i := 122) (by decide) (show tb_ft 122 939 = some (.dup, 1, []) from rfl)).1
theorem ct_y940 : decode (tb_cc 122) 940 = .ok (.bipush 75, 2) := (tb_spec (i := 122) (by decide) (show tb_ft 122 940 = some (.bipush 75, 2, []) from rfl)).1
theorem ct_y942 : decode (tb_cc 122) 942 = .ok (.bipush 32, 2) := (tb_spec (i := 122) (by decide) (show tb_ft 122 942 = some (.bipush 32, 2, []) from rfl)).1
theorem ct_y944 : decode (tb_cc 122) 944 = .ok (.iastore, 1) := (tb_spec (i := 122) (by decide) (show tb_ft 122 944 = some (.iastore, 1, []) from rfl)).1
theorem ct_y945 : decode (tb_cc 122) 945 = .ok (.dup, 1) := (tb_spec (i := 122) (by decide) (show tb_ft 122 945 = some (.dup, 1, []) from rfl)).1
theorem ct_y946 : decode (tb_cc 122) 946 = .ok (.bipush 76, 2) := (tb_spec (i := 122) (by decide) (show tb_ft 122 946 = some (.bipush 76, 2, []) from rfl)).1
theorem ct_y948 : decode (tb_cc 122) 948 = .ok (.bipush 32, 2) := (tb_spec (i := 122) (by decide) (show tb_ft 122 948 = some (.bipush 32, 2, []) from rfl)).1
theorem ct_y950 : decode (tb_cc 122) 950 = .ok (.iastore, 1) := (tb_spec (i := 122) (by decide) (show tb_ft 122 950 = some (.iastore, 1, []) from rfl)).1
theorem ct_y951 : decode (tb_cc 122) 951 = .ok (.dup, 1) := (tb_spec (i := 122) (by decide) (show tb_ft 122 951 = some (.dup, 1, []) from rfl)).1
theorem ct_y952 : decode (tb_cc 122) 952 = .ok (.bipush 77, 2) := (tb_spec (i := 122) (by decide) (show tb_ft 122 952 = some (.bipush 77, 2, []) from rfl)).1
theorem ct_y954 : decode (tb_cc 122) 954 = .ok (.bipush 32, 2) := (tb_spec (i := 122) (by decide) (show tb_ft 122 954 = some (.bipush 32, 2, []) from rfl)).1
theorem ct_y956 : decode (tb_cc 122) 956 = .ok (.iastore, 1) := (tb_spec (i := 122) (by decide) (show tb_ft 122 956 = some (.iastore, 1, []) from rfl)).1
theorem ct_y957 : decode (tb_cc 122) 957 = .ok (.dup, 1) := (tb_spec (i := 122) (by decide) (show tb_ft 122 957 = some (.dup, 1, []) from rfl)).1
theorem ct_y958 : decode (tb_cc 122) 958 = .ok (.bipush 78, 2) := (tb_spec (i := 122) (by decide) (show tb_ft 122 958 = some (.bipush 78, 2, []) from rfl)).1
theorem ct_y960 : decode (tb_cc 122) 960 = .ok (.bipush 32, 2) := (tb_spec (i := 122) (by decide) (show tb_ft 122 960 = some (.bipush 32, 2, []) from rfl)).1
theorem ct_y962 : decode (tb_cc 122) 962 = .ok (.iastore, 1) := (tb_spec (i := 122) (by decide) (show tb_ft 122 962 = some (.iastore, 1, []) from rfl)).1
theorem ct_y963 : decode (tb_cc 122) 963 = .ok (.dup, 1) := (tb_spec (i := 122) (by decide) (show tb_ft 122 963 = some (.dup, 1, []) from rfl)).1
theorem ct_y964 : decode (tb_cc 122) 964 = .ok (.bipush 79, 2) := (tb_spec (i := 122) (by decide) (show tb_ft 122 964 = some (.bipush 79, 2, []) from rfl)).1
theorem ct_y966 : decode (tb_cc 122) 966 = .ok (.bipush 32, 2) := (tb_spec (i := 122) (by decide) (show tb_ft 122 966 = some (.bipush 32, 2, []) from rfl)).1
theorem ct_y968 : decode (tb_cc 122) 968 = .ok (.iastore, 1) := (tb_spec (i := 122) (by decide) (show tb_ft 122 968 = some (.iastore, 1, []) from rfl)).1
theorem ct_y969 : decode (tb_cc 122) 969 = .ok (.dup, 1) := (tb_spec (i := 122) (by decide) (show tb_ft 122 969 = some (.dup, 1, []) from rfl)).1
theorem ct_y970 : decode (tb_cc 122) 970 = .ok (.bipush 80, 2) := (tb_spec (i := 122) (by decide) (show tb_ft 122 970 = some (.bipush 80, 2, []) from rfl)).1
theorem ct_y972 : decode (tb_cc 122) 972 = .ok (.bipush 97, 2) := (tb_spec (i := 122) (by decide) (show tb_ft 122 972 = some (.bipush 97, 2, []) from rfl)).1
theorem ct_y974 : decode (tb_cc 122) 974 = .ok (.iastore, 1) := (tb_spec (i := 122) (by decide) (show tb_ft 122 974 = some (.iastore, 1, []) from rfl)).1
theorem ct_y975 : decode (tb_cc 122) 975 = .ok (.dup, 1) := (tb_spec (i := 122) (by decide) (show tb_ft 122 975 = some (.dup, 1, []) from rfl)).1
theorem ct_y976 : decode (tb_cc 122) 976 = .ok (.bipush 81, 2) := (tb_spec (i := 122) (by decide) (show tb_ft 122 976 = some (.bipush 81, 2, []) from rfl)).1
theorem ct_y978 : decode (tb_cc 122) 978 = .ok (.bipush 110, 2) := (tb_spec (i := 122) (by decide) (show tb_ft 122 978 = some (.bipush 110, 2, []) from rfl)).1
theorem ct_y980 : decode (tb_cc 122) 980 = .ok (.iastore, 1) := (tb_spec (i := 122) (by decide) (show tb_ft 122 980 = some (.iastore, 1, []) from rfl)).1
theorem ct_y981 : decode (tb_cc 122) 981 = .ok (.dup, 1) := (tb_spec (i := 122) (by decide) (show tb_ft 122 981 = some (.dup, 1, []) from rfl)).1
theorem ct_y982 : decode (tb_cc 122) 982 = .ok (.bipush 82, 2) := (tb_spec (i := 122) (by decide) (show tb_ft 122 982 = some (.bipush 82, 2, []) from rfl)).1
theorem ct_y984 : decode (tb_cc 122) 984 = .ok (.bipush 100, 2) := (tb_spec (i := 122) (by decide) (show tb_ft 122 984 = some (.bipush 100, 2, []) from rfl)).1
theorem ct_y986 : decode (tb_cc 122) 986 = .ok (.iastore, 1) := (tb_spec (i := 122) (by decide) (show tb_ft 122 986 = some (.iastore, 1, []) from rfl)).1
theorem ct_y987 : decode (tb_cc 122) 987 = .ok (.dup, 1) := (tb_spec (i := 122) (by decide) (show tb_ft 122 987 = some (.dup, 1, []) from rfl)).1
theorem ct_y988 : decode (tb_cc 122) 988 = .ok (.bipush 83, 2) := (tb_spec (i := 122) (by decide) (show tb_ft 122 988 = some (.bipush 83, 2, []) from rfl)).1
theorem ct_y990 : decode (tb_cc 122) 990 = .ok (.bipush 32, 2) := (tb_spec (i := 122) (by decide) (show tb_ft 122 990 = some (.bipush 32, 2, []) from rfl)).1
theorem ct_y992 : decode (tb_cc 122) 992 = .ok (.iastore, 1) := (tb_spec (i := 122) (by decide) (show tb_ft 122 992 = some (.iastore, 1, []) from rfl)).1
theorem ct_y993 : decode (tb_cc 122) 993 = .ok (.dup, 1) := (tb_spec (i := 122) (by decide) (show tb_ft 122 993 = some (.dup, 1, []) from rfl)).1
theorem ct_y994 : decode (tb_cc 122) 994 = .ok (.bipush 84, 2) := (tb_spec (i := 122) (by decide) (show tb_ft 122 994 = some (.bipush 84, 2, []) from rfl)).1
theorem ct_y996 : decode (tb_cc 122) 996 = .ok (.bipush 32, 2) := (tb_spec (i := 122) (by decide) (show tb_ft 122 996 = some (.bipush 32, 2, []) from rfl)).1
theorem ct_y998 : decode (tb_cc 122) 998 = .ok (.iastore, 1) := (tb_spec (i := 122) (by decide) (show tb_ft 122 998 = some (.iastore, 1, []) from rfl)).1
theorem ct_y999 : decode (tb_cc 122) 999 = .ok (.dup, 1) := (tb_spec (i := 122) (by decide) (show tb_ft 122 999 = some (.dup, 1, []) from rfl)).1
theorem ct_y1000 : decode (tb_cc 122) 1000 = .ok (.bipush 85, 2) := (tb_spec (i := 122) (by decide) (show tb_ft 122 1000 = some (.bipush 85, 2, []) from rfl)).1
theorem ct_y1002 : decode (tb_cc 122) 1002 = .ok (.bipush 32, 2) := (tb_spec (i := 122) (by decide) (show tb_ft 122 1002 = some (.bipush 32, 2, []) from rfl)).1
theorem ct_y1004 : decode (tb_cc 122) 1004 = .ok (.iastore, 1) := (tb_spec (i := 122) (by decide) (show tb_ft 122 1004 = some (.iastore, 1, []) from rfl)).1
theorem ct_y1005 : decode (tb_cc 122) 1005 = .ok (.dup, 1) := (tb_spec (i := 122) (by decide) (show tb_ft 122 1005 = some (.dup, 1, []) from rfl)).1
theorem ct_y1006 : decode (tb_cc 122) 1006 = .ok (.bipush 86, 2) := (tb_spec (i := 122) (by decide) (show tb_ft 122 1006 = some (.bipush 86, 2, []) from rfl)).1
theorem ct_y1008 : decode (tb_cc 122) 1008 = .ok (.bipush 32, 2) := (tb_spec (i := 122) (by decide) (show tb_ft 122 1008 = some (.bipush 32, 2, []) from rfl)).1
theorem ct_y1010 : decode (tb_cc 122) 1010 = .ok (.iastore, 1) := (tb_spec (i := 122) (by decide) (show tb_ft 122 1010 = some (.iastore, 1, []) from rfl)).1
theorem ct_y1011 : decode (tb_cc 122) 1011 = .ok (.dup, 1) := (tb_spec (i := 122) (by decide) (show tb_ft 122 1011 = some (.dup, 1, []) from rfl)).1
theorem ct_y1012 : decode (tb_cc 122) 1012 = .ok (.bipush 87, 2) := (tb_spec (i := 122) (by decide) (show tb_ft 122 1012 = some (.bipush 87, 2, []) from rfl)).1
theorem ct_y1014 : decode (tb_cc 122) 1014 = .ok (.bipush 32, 2) := (tb_spec (i := 122) (by decide) (show tb_ft 122 1014 = some (.bipush 32, 2, []) from rfl)).1
theorem ct_y1016 : decode (tb_cc 122) 1016 = .ok (.iastore, 1) := (tb_spec (i := 122) (by decide) (show tb_ft 122 1016 = some (.iastore, 1, []) from rfl)).1
theorem ct_y1017 : decode (tb_cc 122) 1017 = .ok (.dup, 1) := (tb_spec (i := 122) (by decide) (show tb_ft 122 1017 = some (.dup, 1, []) from rfl)).1
theorem ct_y1018 : decode (tb_cc 122) 1018 = .ok (.bipush 88, 2) := (tb_spec (i := 122) (by decide) (show tb_ft 122 1018 = some (.bipush 88, 2, []) from rfl)).1
theorem ct_y1020 : decode (tb_cc 122) 1020 = .ok (.bipush 110, 2) := (tb_spec (i := 122) (by decide) (show tb_ft 122 1020 = some (.bipush 110, 2, []) from rfl)).1
theorem ct_y1022 : decode (tb_cc 122) 1022 = .ok (.iastore, 1) := (tb_spec (i := 122) (by decide) (show tb_ft 122 1022 = some (.iastore, 1, []) from rfl)).1
theorem ct_y1023 : decode (tb_cc 122) 1023 = .ok (.dup, 1) := (tb_spec (i := 122) (by decide) (show tb_ft 122 1023 = some (.dup, 1, []) from rfl)).1
theorem ct_y1024 : decode (tb_cc 122) 1024 = .ok (.bipush 89, 2) := (tb_spec (i := 122) (by decide) (show tb_ft 122 1024 = some (.bipush 89, 2, []) from rfl)).1
theorem ct_y1026 : decode (tb_cc 122) 1026 = .ok (.bipush 111, 2) := (tb_spec (i := 122) (by decide) (show tb_ft 122 1026 = some (.bipush 111, 2, []) from rfl)).1
theorem ct_y1028 : decode (tb_cc 122) 1028 = .ok (.iastore, 1) := (tb_spec (i := 122) (by decide) (show tb_ft 122 1028 = some (.iastore, 1, []) from rfl)).1
theorem ct_y1029 : decode (tb_cc 122) 1029 = .ok (.dup, 1) := (tb_spec (i := 122) (by decide) (show tb_ft 122 1029 = some (.dup, 1, []) from rfl)).1
theorem ct_y1030 : decode (tb_cc 122) 1030 = .ok (.bipush 90, 2) := (tb_spec (i := 122) (by decide) (show tb_ft 122 1030 = some (.bipush 90, 2, []) from rfl)).1
theorem ct_y1032 : decode (tb_cc 122) 1032 = .ok (.bipush 116, 2) := (tb_spec (i := 122) (by decide) (show tb_ft 122 1032 = some (.bipush 116, 2, []) from rfl)).1
theorem ct_y1034 : decode (tb_cc 122) 1034 = .ok (.iastore, 1) := (tb_spec (i := 122) (by decide) (show tb_ft 122 1034 = some (.iastore, 1, []) from rfl)).1
theorem ct_y1035 : decode (tb_cc 122) 1035 = .ok (.dup, 1) := (tb_spec (i := 122) (by decide) (show tb_ft 122 1035 = some (.dup, 1, []) from rfl)).1
theorem ct_y1036 : decode (tb_cc 122) 1036 = .ok (.bipush 91, 2) := (tb_spec (i := 122) (by decide) (show tb_ft 122 1036 = some (.bipush 91, 2, []) from rfl)).1
theorem ct_y1038 : decode (tb_cc 122) 1038 = .ok (.bipush 32, 2) := (tb_spec (i := 122) (by decide) (show tb_ft 122 1038 = some (.bipush 32, 2, []) from rfl)).1
theorem ct_y1040 : decode (tb_cc 122) 1040 = .ok (.iastore, 1) := (tb_spec (i := 122) (by decide) (show tb_ft 122 1040 = some (.iastore, 1, []) from rfl)).1
theorem ct_y1041 : decode (tb_cc 122) 1041 = .ok (.dup, 1) := (tb_spec (i := 122) (by decide) (show tb_ft 122 1041 = some (.dup, 1, []) from rfl)).1
theorem ct_y1042 : decode (tb_cc 122) 1042 = .ok (.bipush 92, 2) := (tb_spec (i := 122) (by decide) (show tb_ft 122 1042 = some (.bipush 92, 2, []) from rfl)).1
theorem ct_y1044 : decode (tb_cc 122) 1044 = .ok (.bipush 32, 2) := (tb_spec (i := 122) (by decide) (show tb_ft 122 1044 = some (.bipush 32, 2, []) from rfl)).1
theorem ct_y1046 : decode (tb_cc 122) 1046 = .ok (.iastore, 1) := (tb_spec (i := 122) (by decide) (show tb_ft 122 1046 = some (.iastore, 1, []) from rfl)).1
theorem ct_y1047 : decode (tb_cc 122) 1047 = .ok (.dup, 1) := (tb_spec (i := 122) (by decide) (show tb_ft 122 1047 = some (.dup, 1, []) from rfl)).1
theorem ct_y1048 : decode (tb_cc 122) 1048 = .ok (.bipush 93, 2) := (tb_spec (i := 122) (by decide) (show tb_ft 122 1048 = some (.bipush 93, 2, []) from rfl)).1
theorem ct_y1050 : decode (tb_cc 122) 1050 = .ok (.bipush 32, 2) := (tb_spec (i := 122) (by decide) (show tb_ft 122 1050 = some (.bipush 32, 2, []) from rfl)).1
theorem ct_y1052 : decode (tb_cc 122) 1052 = .ok (.iastore, 1) := (tb_spec (i := 122) (by decide) (show tb_ft 122 1052 = some (.iastore, 1, []) from rfl)).1
theorem ct_y1053 : decode (tb_cc 122) 1053 = .ok (.dup, 1) := (tb_spec (i := 122) (by decide) (show tb_ft 122 1053 = some (.dup, 1, []) from rfl)).1
theorem ct_y1054 : decode (tb_cc 122) 1054 = .ok (.bipush 94, 2) := (tb_spec (i := 122) (by decide) (show tb_ft 122 1054 = some (.bipush 94, 2, []) from rfl)).1
theorem ct_y1056 : decode (tb_cc 122) 1056 = .ok (.bipush 32, 2) := (tb_spec (i := 122) (by decide) (show tb_ft 122 1056 = some (.bipush 32, 2, []) from rfl)).1
theorem ct_y1058 : decode (tb_cc 122) 1058 = .ok (.iastore, 1) := (tb_spec (i := 122) (by decide) (show tb_ft 122 1058 = some (.iastore, 1, []) from rfl)).1
theorem ct_y1059 : decode (tb_cc 122) 1059 = .ok (.dup, 1) := (tb_spec (i := 122) (by decide) (show tb_ft 122 1059 = some (.dup, 1, []) from rfl)).1
theorem ct_y1060 : decode (tb_cc 122) 1060 = .ok (.bipush 95, 2) := (tb_spec (i := 122) (by decide) (show tb_ft 122 1060 = some (.bipush 95, 2, []) from rfl)).1
theorem ct_y1062 : decode (tb_cc 122) 1062 = .ok (.bipush 32, 2) := (tb_spec (i := 122) (by decide) (show tb_ft 122 1062 = some (.bipush 32, 2, []) from rfl)).1
theorem ct_y1064 : decode (tb_cc 122) 1064 = .ok (.iastore, 1) := (tb_spec (i := 122) (by decide) (show tb_ft 122 1064 = some (.iastore, 1, []) from rfl)).1
theorem ct_y1065 : decode (tb_cc 122) 1065 = .ok (.putfield 49, 3) := (tb_spec (i := 122) (by decide) (show tb_ft 122 1065 = some (.putfield 49, 3, [8, 24, 4, 35, 0]) from rfl)).1
theorem ct_y1068 : decode (tb_cc 122) 1068 = .ok (.aload_n 0, 1) := (tb_spec (i := 122) (by decide) (show tb_ft 122 1068 = some (.aload_n 0, 1, []) from rfl)).1
theorem ct_y1069 : decode (tb_cc 122) 1069 = .ok (.sipush 200, 3) := (tb_spec (i := 122) (by decide) (show tb_ft 122 1069 = some (.sipush 200, 3, []) from rfl)).1
theorem ct_y1072 : decode (tb_cc 122) 1072 = .ok (.newarray .int, 2) := (tb_spec (i := 122) (by decide) (show tb_ft 122 1072 = some (.newarray .int, 2, []) from rfl)).1
theorem ct_y1074 : decode (tb_cc 122) 1074 = .ok (.putfield 52, 3) := (tb_spec (i := 122) (by decide) (show tb_ft 122 1074 = some (.putfield 52, 3, [8, 25, 4, 36, 0]) from rfl)).1
theorem ct_y1077 : decode (tb_cc 122) 1077 = .ok (.aload_n 0, 1) := (tb_spec (i := 122) (by decide) (show tb_ft 122 1077 = some (.aload_n 0, 1, []) from rfl)).1
theorem ct_y1078 : decode (tb_cc 122) 1078 = .ok (.sipush 200, 3) := (tb_spec (i := 122) (by decide) (show tb_ft 122 1078 = some (.sipush 200, 3, []) from rfl)).1
theorem ct_y1081 : decode (tb_cc 122) 1081 = .ok (.newarray .int, 2) := (tb_spec (i := 122) (by decide) (show tb_ft 122 1081 = some (.newarray .int, 2, []) from rfl)).1
theorem ct_y1083 : decode (tb_cc 122) 1083 = .ok (.putfield 55, 3) := (tb_spec (i := 122) (by decide) (show tb_ft 122 1083 = some (.putfield 55, 3, [8, 29, 4, 37, 0]) from rfl)).1
theorem ct_y1086 : decode (tb_cc 122) 1086 = .ok (.aload_n 0, 1) := (tb_spec (i := 122) (by decide) (show tb_ft 122 1086 = some (.aload_n 0, 1, []) from rfl)).1
theorem ct_y1087 : decode (tb_cc 122) 1087 = .ok (.bipush 6, 2) := (tb_spec (i := 122) (by decide) (show tb_ft 122 1087 = some (.bipush 6, 2, []) from rfl)).1
theorem ct_y1089 : decode (tb_cc 122) 1089 = .ok (.newarray .int, 2) := (tb_spec (i := 122) (by decide) (show tb_ft 122 1089 = some (.newarray .int, 2, []) from rfl)).1
theorem ct_y1091 : decode (tb_cc 122) 1091 = .ok (.putfield 58, 3) := (tb_spec (i := 122) (by decide) (show tb_ft 122 1091 = some (.putfield 58, 3, [8, 30, 4, 38, 0]) from rfl)).1
theorem ct_y1094 : decode (tb_cc 122) 1094 = .ok (.aload_n 0, 1) := (tb_spec (i := 122) (by decide) (show tb_ft 122 1094 = some (.aload_n 0, 1, []) from rfl)).1
theorem ct_y1095 : decode (tb_cc 122) 1095 = .ok (.iconst 5, 1) := (tb_spec (i := 122) (by decide) (show tb_ft 122 1095 = some (.iconst 5, 1, []) from rfl)).1
theorem ct_y1096 : decode (tb_cc 122) 1096 = .ok (.newarray .int, 2) := (tb_spec (i := 122) (by decide) (show tb_ft 122 1096 = some (.newarray .int, 2, []) from rfl)).1
theorem ct_y1098 : decode (tb_cc 122) 1098 = .ok (.putfield 61, 3) := (tb_spec (i := 122) (by decide) (show tb_ft 122 1098 = some (.putfield 61, 3, [8, 31, 4, 39, 0]) from rfl)).1
theorem ct_y1101 : decode (tb_cc 122) 1101 = .ok (.aload_n 0, 1) := (tb_spec (i := 122) (by decide) (show tb_ft 122 1101 = some (.aload_n 0, 1, []) from rfl)).1
theorem ct_y1102 : decode (tb_cc 122) 1102 = .ok (.iconst 5, 1) := (tb_spec (i := 122) (by decide) (show tb_ft 122 1102 = some (.iconst 5, 1, []) from rfl)).1
theorem ct_y1103 : decode (tb_cc 122) 1103 = .ok (.newarray .int, 2) := (tb_spec (i := 122) (by decide) (show tb_ft 122 1103 = some (.newarray .int, 2, []) from rfl)).1
theorem ct_y1105 : decode (tb_cc 122) 1105 = .ok (.putfield 64, 3) := (tb_spec (i := 122) (by decide) (show tb_ft 122 1105 = some (.putfield 64, 3, [8, 32, 4, 40, 0]) from rfl)).1
theorem ct_y1108 : decode (tb_cc 122) 1108 = .ok (.aload_n 0, 1) := (tb_spec (i := 122) (by decide) (show tb_ft 122 1108 = some (.aload_n 0, 1, []) from rfl)).1
theorem ct_y1109 : decode (tb_cc 122) 1109 = .ok (.iconst 5, 1) := (tb_spec (i := 122) (by decide) (show tb_ft 122 1109 = some (.iconst 5, 1, []) from rfl)).1
theorem ct_y1110 : decode (tb_cc 122) 1110 = .ok (.newarray .int, 2) := (tb_spec (i := 122) (by decide) (show tb_ft 122 1110 = some (.newarray .int, 2, []) from rfl)).1
theorem ct_y1112 : decode (tb_cc 122) 1112 = .ok (.putfield 67, 3) := (tb_spec (i := 122) (by decide) (show tb_ft 122 1112 = some (.putfield 67, 3, [8, 33, 4, 41, 0]) from rfl)).1
theorem ct_y1115 : decode (tb_cc 122) 1115 = .ok (.iconst 0, 1) := (tb_spec (i := 122) (by decide) (show tb_ft 122 1115 = some (.iconst 0, 1, []) from rfl)).1
theorem ct_ias {p : Program} {l : Launch} {e : Env} {R : Room} {s : State} {m : MethodId} {args : Array Value} {below : List Frame} {meth : Method} {c0 : Code} {H : Heap} {locs : List Loc} {cells slots : Nat} {Q : State → Prop} {dC : Nat → ClassId} {dI : Nat → Nat → Nat} {cI : ClassId} {A : Nat → Prop} {ls : Array Slot} {w : va_W} {q n k k2 pc : Nat} {cc : ByteArray} {f : List Int} {i x : Int32} {rest : List Value} (hx : p.tables.exec = Jvm.exec) (hb : c0.code = cc) (hK : va_K (dC, dI) vwCl [(cI, .int)] s) (hk : k + 1 = k2) (hi : i.toNatClampNeg = k) (hv : x = i3 (f.getD k 0)) (hin : vp_in i n) (hdg : decode cc pc = .ok (.iastore, 1)) (hP : va_P (dC, dI) vwCl (w ++ [(q, .inl (cI, (n, .inl (ct_f f k))))]) H) (hD : va_D A (w ++ [(q, .inl (cI, (n, .inl (ct_f f k))))])) (hS : va_S A s.heap H locs) (kk : ∀ (H : Heap) (locs : List Loc), va_P (dC, dI) vwCl (w ++ [(q, .inl (cI, (n, .inl (ct_f f k2))))]) H → va_D A (w ++ [(q, .inl (cI, (n, .inl (ct_f f k2))))]) → va_S A s.heap H locs → W p l e R s m args below meth c0 H locs cells slots Q (F0 m (pc + 1) ls rest)) : W p l e R s m args below meth c0 H locs cells slots Q (F0 m pc ls (.int x :: .int i :: .ref q :: rest)) := by
  subst hk
  refine va_iast hx hb hK hP hD hS w.length 0 (by rw [List.getElem?_append_right (Nat.le_refl _), Nat.sub_self]; rfl) rfl hin hdg (fun H locs hP hD hS => ?_)
  rw [ct_fs hi hv] at hP hD
  have e : (w ++ [(q, (.inl (cI, (n, .inl (ct_f f k))) : va_E))]).set w.length (q, .inl (cI, (n, .inl (ct_f f (k + 1))))) = w ++ [(q, .inl (cI, (n, .inl (ct_f f (k + 1)))))] := by
    rw [List.set_append_right _ _ (Nat.le_refl _), Nat.sub_self]
    rfl
  rw [e] at hP hD
  exact kk H locs hP hD hS
abbrev ct_o8 (h8 : Nat) : va_W := [(h8, .inr (8, [.null, .int (i3 0), .null, .null, .null, .null, .null, .int (i3 0), .null, .null, .int (i3 0), .int (i3 0), .int (i3 0), .int (i3 0), .int (i3 0), .null, .null, .null, .null, .null, .int (i3 0), .int (i3 0), .int (i3 0), .int (i3 0), .null, .null, .int (i3 0), .int (i3 0), .int (i3 0), .null, .null, .null, .null, .null, .int (i3 0), .int (i3 0)]))]
abbrev ct_w8 (cI : ClassId) (h8 y0 y1 y2 y3 y4 y5 y6 y7 y8 y9 y10 y11 y12 y13 y14 y15 y16 y17 y18 y19 : Nat) : va_W := [(h8, .inr (8, [.ref y0, .int (i3 0), .ref y1, .ref y2, .ref y3, .ref y4, .ref y5, .int (i3 0), .ref y6, .ref y7, .int (i3 0), .int (i3 0), .int (i3 0), .int (i3 0), .int (i3 0), .ref y8, .ref y9, .ref y10, .ref y11, .ref y12, .int (i3 0), .int (i3 0), .int (i3 0), .int (i3 0), .ref y13, .ref y14, .int (i3 0), .int (i3 0), .int (i3 0), .ref y15, .ref y16, .ref y17, .ref y18, .ref y19, .int (i3 0), .int (i3 0)])), (y0, .inl (cI, (4, .inl (ct_f ct_pump 4)))), (y1, .inl (cI, (5, .inl fun _ => i3 0))), (y2, .inl (cI, (5, .inl fun _ => i3 0))), (y3, .inl (cI, (10, .inl fun _ => i3 0))), (y4, .inl (cI, (3, .inl fun _ => i3 0))), (y5, .inl (cI, (160, .inl fun _ => i3 0))), (y6, .inl (cI, (1200, .inl fun _ => i3 0))), (y7, .inl (cI, (24, .inl fun _ => i3 0))), (y8, .inl (cI, (17, .inl fun _ => i3 0))), (y9, .inl (cI, (4, .inl (ct_f ct_sort 4)))), (y10, .inl (cI, (4, .inl fun _ => i3 0))), (y11, .inl (cI, (160, .inl fun _ => i3 0))), (y12, .inl (cI, (59, .inl (ct_f ct_law 59)))), (y13, .inl (cI, (96, .inl (ct_f mo_words 96)))), (y14, .inl (cI, (200, .inl fun _ => i3 0))), (y15, .inl (cI, (200, .inl fun _ => i3 0))), (y16, .inl (cI, (6, .inl fun _ => i3 0))), (y17, .inl (cI, (5, .inl fun _ => i3 0))), (y18, .inl (cI, (5, .inl fun _ => i3 0))), (y19, .inl (cI, (5, .inl fun _ => i3 0)))]
set_option maxHeartbeats 16000000 in
set_option maxRecDepth 100000 in
theorem ct_yfirst {p : Program} {l : Launch} {e : Env} {R : Room} {s : State} {m : MethodId} {args : Array Value} {below : List Frame} {meth : Method} {c0 : Code} {H : Heap} {locs : List Loc} {cells slots : Nat} {Q : State → Prop} {dC : Nat → ClassId} {dI : Nat → Nat → Nat} {cI : ClassId} {A : Nat → Prop} {ls : Array Slot} {h8 : Nat} (hx : p.tables.exec = Jvm.exec) (hb : c0.code = tb_cc 122) (hml : c0.maxLocals = 2) (hown : s.vm.findClass RX8 = some m.cls) (hts : ∀ w ∈ ct_ws, w.before args s = true) (hK : va_K (dC, dI) vwCl [(cI, .int)] s) (hA : ∀ q, s.heap.size ≤ q → A q) (hR : 2 ≤ R.frames ∧ 32 ≤ R.locals) (hin : meth.name = "<init>") (hP : va_P (dC, dI) vwCl (ct_o8 h8) H) (hD : va_D A (ct_o8 h8)) (hS : va_S A s.heap H locs) (hl : lv_has ls 2 [(0, .ref h8)]) (hc : cells + 20 ≤ R.cells ∧ slots + 2172 ≤ R.slots) (kk : ∀ (H : Heap) (locs : List Loc) (y0 y1 y2 y3 y4 y5 y6 y7 y8 y9 y10 y11 y12 y13 y14 y15 y16 y17 y18 y19 : Nat), va_P (dC, dI) vwCl (ct_w8 cI h8 y0 y1 y2 y3 y4 y5 y6 y7 y8 y9 y10 y11 y12 y13 y14 y15 y16 y17 y18 y19) H → va_D A (ct_w8 cI h8 y0 y1 y2 y3 y4 y5 y6 y7 y8 y9 y10 y11 y12 y13 y14 y15 y16 y17 y18 y19) → va_S A s.heap H locs → W p l e R s m args below meth c0 H locs (cells + 20) (slots + 2172) Q (F0 m 1115 ls [])) : W p l e R s m args below meth c0 H locs cells slots Q (F0 m 0 ls []) := by
  refine lv_aload_n hx hb ct_y0 rfl (lv_at hl 0 rfl) ?_
  refine W.objInit hx hb hown (hts (.methodLink RX8 1 Lib.objectInit) (ct_m 11 rfl)) (hts (.instanceMethod Lib.objectInit) (ct_m 0 rfl)) (hts (.code Lib.objectInit ⟨#[0xb1]⟩ 1 none) (ct_m 1 rfl)) rfl (by rw [hml]; exact hl.1) rfl ct_y1 (by omega) (by show 12 ≤ R.locals; omega) ?_
  refine W.eq (g2 := F0 m 4 ls []) rfl ?_
  refine lv_aload_n hx hb ct_y4 rfl (lv_at hl 0 rfl) ?_
  refine lv_iconst (v := 4) hx hb ct_y5 (by decide +kernel) ?_
  refine va_newa (atype := .int) (a0 := (4, .inl fun _ => i3 0)) (N' := 4) hx hb (hts (.arrayClass .int) (ct_m 2 rfl)) rfl hK hP hD hS hA (fun cA => by rw [i3_zero]; rfl) (by decide +kernel) (by decide +kernel) (Nat.le_of_ble_eq_true rfl) (by omega) (by omega) ct_y6 (fun y0 c1 H hK hP hD hS => ?_)
  obtain rfl : cI = c1 := ct_int1 (hK.2 0 _ rfl).2 (hK.2 1 _ rfl).2
  have hK : va_K (dC, dI) vwCl [(cI, .int)] s := hK.sub [0] rfl
  refine W.widen (k := cells + 1) (n := slots + 4) (by omega) (by omega) ?_
  have hP : va_P (dC, dI) vwCl ([(h8, .inr (8, [.null, .int (i3 0), .null, .null, .null, .null, .null, .int (i3 0), .null, .null, .int (i3 0), .int (i3 0), .int (i3 0), .int (i3 0), .int (i3 0), .null, .null, .null, .null, .null, .int (i3 0), .int (i3 0), .int (i3 0), .int (i3 0), .null, .null, .int (i3 0), .int (i3 0), .int (i3 0), .null, .null, .null, .null, .null, .int (i3 0), .int (i3 0)]))] ++ [(y0, .inl (cI, (4, .inl (ct_f ct_pump 0))))]) H := by rw [← ct_f0]; exact hP
  have hD : va_D A ([(h8, .inr (8, [.null, .int (i3 0), .null, .null, .null, .null, .null, .int (i3 0), .null, .null, .int (i3 0), .int (i3 0), .int (i3 0), .int (i3 0), .int (i3 0), .null, .null, .null, .null, .null, .int (i3 0), .int (i3 0), .int (i3 0), .int (i3 0), .null, .null, .int (i3 0), .int (i3 0), .int (i3 0), .null, .null, .null, .null, .null, .int (i3 0), .int (i3 0)]))] ++ [(y0, .inl (cI, (4, .inl (ct_f ct_pump 0))))]) := by rw [← ct_f0]; exact hD
  refine lv_dup hx hb ct_y8 rfl ?_
  refine lv_iconst (v := 0) hx hb ct_y9 (by decide +kernel) ?_
  refine lv_sipush (v := 500) hx hb ct_y10 (by decide +kernel) ?_
  refine ct_ias (k2 := 1) hx hb hK rfl (by decide +kernel) (by decide +kernel) (by unfold vp_in; decide +kernel) ct_y13 hP hD hS (fun H locs hP hD hS => ?_)
  refine lv_dup hx hb ct_y14 rfl ?_
  refine lv_iconst (v := 1) hx hb ct_y15 (by decide +kernel) ?_
  refine lv_iconst (v := 1) hx hb ct_y16 (by decide +kernel) ?_
  refine ct_ias (k2 := 2) hx hb hK rfl (by decide +kernel) (by decide +kernel) (by unfold vp_in; decide +kernel) ct_y17 hP hD hS (fun H locs hP hD hS => ?_)
  refine lv_dup hx hb ct_y18 rfl ?_
  refine lv_iconst (v := 2) hx hb ct_y19 (by decide +kernel) ?_
  refine lv_bipush (v := 40) hx hb ct_y20 (by decide +kernel) ?_
  refine ct_ias (k2 := 3) hx hb hK rfl (by decide +kernel) (by decide +kernel) (by unfold vp_in; decide +kernel) ct_y22 hP hD hS (fun H locs hP hD hS => ?_)
  refine lv_dup hx hb ct_y23 rfl ?_
  refine lv_iconst (v := 3) hx hb ct_y24 (by decide +kernel) ?_
  refine lv_sipush (v := 5000) hx hb ct_y25 (by decide +kernel) ?_
  refine ct_ias (k2 := 4) hx hb hK rfl (by decide +kernel) (by decide +kernel) (by unfold vp_in; decide +kernel) ct_y28 hP hD hS (fun H locs hP hD hS => ?_)
  refine va_putF (D := (dC, dI)) (ci := 8) (v := .ref y0) (ty := .array .int) (C := RX8) (T := TX8) (N := 36) hx hb hts (ct_u 8 (by decide)) tyX8 tyX8_ok nmX8 hown hK hP hD hS 0 rfl rfl 0 (by decide) (hts (.fieldLink RX8 7 "JustFivePoundsModel" "pump" "[I") (ct_m 71 rfl)) (fun _ h9 => h9) rfl hin rfl (by decide +kernel) rfl rfl (Nat.le_of_ble_eq_true rfl) ct_y29 (fun H locs hP hD hS => ?_)
  have hP : va_P (dC, dI) vwCl [(h8, .inr (8, [.ref y0, .int (i3 0), .null, .null, .null, .null, .null, .int (i3 0), .null, .null, .int (i3 0), .int (i3 0), .int (i3 0), .int (i3 0), .int (i3 0), .null, .null, .null, .null, .null, .int (i3 0), .int (i3 0), .int (i3 0), .int (i3 0), .null, .null, .int (i3 0), .int (i3 0), .int (i3 0), .null, .null, .null, .null, .null, .int (i3 0), .int (i3 0)])), (y0, .inl (cI, (4, .inl (ct_f ct_pump 4))))] H := hP
  have hD : va_D A [(h8, .inr (8, [.ref y0, .int (i3 0), .null, .null, .null, .null, .null, .int (i3 0), .null, .null, .int (i3 0), .int (i3 0), .int (i3 0), .int (i3 0), .int (i3 0), .null, .null, .null, .null, .null, .int (i3 0), .int (i3 0), .int (i3 0), .int (i3 0), .null, .null, .int (i3 0), .int (i3 0), .int (i3 0), .null, .null, .null, .null, .null, .int (i3 0), .int (i3 0)])), (y0, .inl (cI, (4, .inl (ct_f ct_pump 4))))] := hD
  refine lv_aload_n hx hb ct_y32 rfl (lv_at hl 0 rfl) ?_
  refine lv_iconst (v := 5) hx hb ct_y33 (by decide +kernel) ?_
  refine va_newa (atype := .int) (a0 := (5, .inl fun _ => i3 0)) (N' := 5) hx hb (hts (.arrayClass .int) (ct_m 2 rfl)) rfl hK hP hD hS hA (fun cA => by rw [i3_zero]; rfl) (by decide +kernel) (by decide +kernel) (Nat.le_of_ble_eq_true rfl) (by omega) (by omega) ct_y34 (fun y1 c1 H hK hP hD hS => ?_)
  obtain rfl : cI = c1 := ct_int1 (hK.2 0 _ rfl).2 (hK.2 1 _ rfl).2
  have hK : va_K (dC, dI) vwCl [(cI, .int)] s := hK.sub [0] rfl
  refine W.widen (k := cells + 2) (n := slots + 9) (by omega) (by omega) ?_
  refine va_putF (D := (dC, dI)) (ci := 8) (v := .ref y1) (ty := .array .int) (C := RX8) (T := TX8) (N := 36) hx hb hts (ct_u 8 (by decide)) tyX8 tyX8_ok nmX8 hown hK hP hD hS 0 rfl rfl 2 (by decide) (hts (.fieldLink RX8 13 "JustFivePoundsModel" "kind" "[I") (ct_m 72 rfl)) (fun _ h9 => h9) rfl hin rfl (by decide +kernel) rfl rfl (Nat.le_of_ble_eq_true rfl) ct_y36 (fun H locs hP hD hS => ?_)
  have hP : va_P (dC, dI) vwCl [(h8, .inr (8, [.ref y0, .int (i3 0), .ref y1, .null, .null, .null, .null, .int (i3 0), .null, .null, .int (i3 0), .int (i3 0), .int (i3 0), .int (i3 0), .int (i3 0), .null, .null, .null, .null, .null, .int (i3 0), .int (i3 0), .int (i3 0), .int (i3 0), .null, .null, .int (i3 0), .int (i3 0), .int (i3 0), .null, .null, .null, .null, .null, .int (i3 0), .int (i3 0)])), (y0, .inl (cI, (4, .inl (ct_f ct_pump 4)))), (y1, .inl (cI, (5, .inl fun _ => i3 0)))] H := hP
  have hD : va_D A [(h8, .inr (8, [.ref y0, .int (i3 0), .ref y1, .null, .null, .null, .null, .int (i3 0), .null, .null, .int (i3 0), .int (i3 0), .int (i3 0), .int (i3 0), .int (i3 0), .null, .null, .null, .null, .null, .int (i3 0), .int (i3 0), .int (i3 0), .int (i3 0), .null, .null, .int (i3 0), .int (i3 0), .int (i3 0), .null, .null, .null, .null, .null, .int (i3 0), .int (i3 0)])), (y0, .inl (cI, (4, .inl (ct_f ct_pump 4)))), (y1, .inl (cI, (5, .inl fun _ => i3 0)))] := hD
  refine lv_aload_n hx hb ct_y39 rfl (lv_at hl 0 rfl) ?_
  refine lv_iconst (v := 5) hx hb ct_y40 (by decide +kernel) ?_
  refine va_newa (atype := .int) (a0 := (5, .inl fun _ => i3 0)) (N' := 5) hx hb (hts (.arrayClass .int) (ct_m 2 rfl)) rfl hK hP hD hS hA (fun cA => by rw [i3_zero]; rfl) (by decide +kernel) (by decide +kernel) (Nat.le_of_ble_eq_true rfl) (by omega) (by omega) ct_y41 (fun y2 c1 H hK hP hD hS => ?_)
  obtain rfl : cI = c1 := ct_int1 (hK.2 0 _ rfl).2 (hK.2 1 _ rfl).2
  have hK : va_K (dC, dI) vwCl [(cI, .int)] s := hK.sub [0] rfl
  refine W.widen (k := cells + 3) (n := slots + 14) (by omega) (by omega) ?_
  refine va_putF (D := (dC, dI)) (ci := 8) (v := .ref y2) (ty := .array .int) (C := RX8) (T := TX8) (N := 36) hx hb hts (ct_u 8 (by decide)) tyX8 tyX8_ok nmX8 hown hK hP hD hS 0 rfl rfl 3 (by decide) (hts (.fieldLink RX8 16 "JustFivePoundsModel" "moreOf" "[I") (ct_m 73 rfl)) (fun _ h9 => h9) rfl hin rfl (by decide +kernel) rfl rfl (Nat.le_of_ble_eq_true rfl) ct_y43 (fun H locs hP hD hS => ?_)
  have hP : va_P (dC, dI) vwCl [(h8, .inr (8, [.ref y0, .int (i3 0), .ref y1, .ref y2, .null, .null, .null, .int (i3 0), .null, .null, .int (i3 0), .int (i3 0), .int (i3 0), .int (i3 0), .int (i3 0), .null, .null, .null, .null, .null, .int (i3 0), .int (i3 0), .int (i3 0), .int (i3 0), .null, .null, .int (i3 0), .int (i3 0), .int (i3 0), .null, .null, .null, .null, .null, .int (i3 0), .int (i3 0)])), (y0, .inl (cI, (4, .inl (ct_f ct_pump 4)))), (y1, .inl (cI, (5, .inl fun _ => i3 0))), (y2, .inl (cI, (5, .inl fun _ => i3 0)))] H := hP
  have hD : va_D A [(h8, .inr (8, [.ref y0, .int (i3 0), .ref y1, .ref y2, .null, .null, .null, .int (i3 0), .null, .null, .int (i3 0), .int (i3 0), .int (i3 0), .int (i3 0), .int (i3 0), .null, .null, .null, .null, .null, .int (i3 0), .int (i3 0), .int (i3 0), .int (i3 0), .null, .null, .int (i3 0), .int (i3 0), .int (i3 0), .null, .null, .null, .null, .null, .int (i3 0), .int (i3 0)])), (y0, .inl (cI, (4, .inl (ct_f ct_pump 4)))), (y1, .inl (cI, (5, .inl fun _ => i3 0))), (y2, .inl (cI, (5, .inl fun _ => i3 0)))] := hD
  refine lv_aload_n hx hb ct_y46 rfl (lv_at hl 0 rfl) ?_
  refine lv_bipush (v := 10) hx hb ct_y47 (by decide +kernel) ?_
  refine va_newa (atype := .int) (a0 := (10, .inl fun _ => i3 0)) (N' := 10) hx hb (hts (.arrayClass .int) (ct_m 2 rfl)) rfl hK hP hD hS hA (fun cA => by rw [i3_zero]; rfl) (by decide +kernel) (by decide +kernel) (Nat.le_of_ble_eq_true rfl) (by omega) (by omega) ct_y49 (fun y3 c1 H hK hP hD hS => ?_)
  obtain rfl : cI = c1 := ct_int1 (hK.2 0 _ rfl).2 (hK.2 1 _ rfl).2
  have hK : va_K (dC, dI) vwCl [(cI, .int)] s := hK.sub [0] rfl
  refine W.widen (k := cells + 4) (n := slots + 24) (by omega) (by omega) ?_
  refine va_putF (D := (dC, dI)) (ci := 8) (v := .ref y3) (ty := .array .int) (C := RX8) (T := TX8) (N := 36) hx hb hts (ct_u 8 (by decide)) tyX8 tyX8_ok nmX8 hown hK hP hD hS 0 rfl rfl 4 (by decide) (hts (.fieldLink RX8 19 "JustFivePoundsModel" "trained" "[I") (ct_m 74 rfl)) (fun _ h9 => h9) rfl hin rfl (by decide +kernel) rfl rfl (Nat.le_of_ble_eq_true rfl) ct_y51 (fun H locs hP hD hS => ?_)
  have hP : va_P (dC, dI) vwCl [(h8, .inr (8, [.ref y0, .int (i3 0), .ref y1, .ref y2, .ref y3, .null, .null, .int (i3 0), .null, .null, .int (i3 0), .int (i3 0), .int (i3 0), .int (i3 0), .int (i3 0), .null, .null, .null, .null, .null, .int (i3 0), .int (i3 0), .int (i3 0), .int (i3 0), .null, .null, .int (i3 0), .int (i3 0), .int (i3 0), .null, .null, .null, .null, .null, .int (i3 0), .int (i3 0)])), (y0, .inl (cI, (4, .inl (ct_f ct_pump 4)))), (y1, .inl (cI, (5, .inl fun _ => i3 0))), (y2, .inl (cI, (5, .inl fun _ => i3 0))), (y3, .inl (cI, (10, .inl fun _ => i3 0)))] H := hP
  have hD : va_D A [(h8, .inr (8, [.ref y0, .int (i3 0), .ref y1, .ref y2, .ref y3, .null, .null, .int (i3 0), .null, .null, .int (i3 0), .int (i3 0), .int (i3 0), .int (i3 0), .int (i3 0), .null, .null, .null, .null, .null, .int (i3 0), .int (i3 0), .int (i3 0), .int (i3 0), .null, .null, .int (i3 0), .int (i3 0), .int (i3 0), .null, .null, .null, .null, .null, .int (i3 0), .int (i3 0)])), (y0, .inl (cI, (4, .inl (ct_f ct_pump 4)))), (y1, .inl (cI, (5, .inl fun _ => i3 0))), (y2, .inl (cI, (5, .inl fun _ => i3 0))), (y3, .inl (cI, (10, .inl fun _ => i3 0)))] := hD
  refine lv_aload_n hx hb ct_y54 rfl (lv_at hl 0 rfl) ?_
  refine lv_iconst (v := 3) hx hb ct_y55 (by decide +kernel) ?_
  refine va_newa (atype := .int) (a0 := (3, .inl fun _ => i3 0)) (N' := 3) hx hb (hts (.arrayClass .int) (ct_m 2 rfl)) rfl hK hP hD hS hA (fun cA => by rw [i3_zero]; rfl) (by decide +kernel) (by decide +kernel) (Nat.le_of_ble_eq_true rfl) (by omega) (by omega) ct_y56 (fun y4 c1 H hK hP hD hS => ?_)
  obtain rfl : cI = c1 := ct_int1 (hK.2 0 _ rfl).2 (hK.2 1 _ rfl).2
  have hK : va_K (dC, dI) vwCl [(cI, .int)] s := hK.sub [0] rfl
  refine W.widen (k := cells + 5) (n := slots + 27) (by omega) (by omega) ?_
  refine va_putF (D := (dC, dI)) (ci := 8) (v := .ref y4) (ty := .array .int) (C := RX8) (T := TX8) (N := 36) hx hb hts (ct_u 8 (by decide)) tyX8 tyX8_ok nmX8 hown hK hP hD hS 0 rfl rfl 5 (by decide) (hts (.fieldLink RX8 22 "JustFivePoundsModel" "booked" "[I") (ct_m 75 rfl)) (fun _ h9 => h9) rfl hin rfl (by decide +kernel) rfl rfl (Nat.le_of_ble_eq_true rfl) ct_y58 (fun H locs hP hD hS => ?_)
  have hP : va_P (dC, dI) vwCl [(h8, .inr (8, [.ref y0, .int (i3 0), .ref y1, .ref y2, .ref y3, .ref y4, .null, .int (i3 0), .null, .null, .int (i3 0), .int (i3 0), .int (i3 0), .int (i3 0), .int (i3 0), .null, .null, .null, .null, .null, .int (i3 0), .int (i3 0), .int (i3 0), .int (i3 0), .null, .null, .int (i3 0), .int (i3 0), .int (i3 0), .null, .null, .null, .null, .null, .int (i3 0), .int (i3 0)])), (y0, .inl (cI, (4, .inl (ct_f ct_pump 4)))), (y1, .inl (cI, (5, .inl fun _ => i3 0))), (y2, .inl (cI, (5, .inl fun _ => i3 0))), (y3, .inl (cI, (10, .inl fun _ => i3 0))), (y4, .inl (cI, (3, .inl fun _ => i3 0)))] H := hP
  have hD : va_D A [(h8, .inr (8, [.ref y0, .int (i3 0), .ref y1, .ref y2, .ref y3, .ref y4, .null, .int (i3 0), .null, .null, .int (i3 0), .int (i3 0), .int (i3 0), .int (i3 0), .int (i3 0), .null, .null, .null, .null, .null, .int (i3 0), .int (i3 0), .int (i3 0), .int (i3 0), .null, .null, .int (i3 0), .int (i3 0), .int (i3 0), .null, .null, .null, .null, .null, .int (i3 0), .int (i3 0)])), (y0, .inl (cI, (4, .inl (ct_f ct_pump 4)))), (y1, .inl (cI, (5, .inl fun _ => i3 0))), (y2, .inl (cI, (5, .inl fun _ => i3 0))), (y3, .inl (cI, (10, .inl fun _ => i3 0))), (y4, .inl (cI, (3, .inl fun _ => i3 0)))] := hD
  refine lv_aload_n hx hb ct_y61 rfl (lv_at hl 0 rfl) ?_
  refine lv_sipush (v := 160) hx hb ct_y62 (by decide +kernel) ?_
  refine va_newa (atype := .int) (a0 := (160, .inl fun _ => i3 0)) (N' := 160) hx hb (hts (.arrayClass .int) (ct_m 2 rfl)) rfl hK hP hD hS hA (fun cA => by rw [i3_zero]; rfl) (by decide +kernel) (by decide +kernel) (Nat.le_of_ble_eq_true rfl) (by omega) (by omega) ct_y65 (fun y5 c1 H hK hP hD hS => ?_)
  obtain rfl : cI = c1 := ct_int1 (hK.2 0 _ rfl).2 (hK.2 1 _ rfl).2
  have hK : va_K (dC, dI) vwCl [(cI, .int)] s := hK.sub [0] rfl
  refine W.widen (k := cells + 6) (n := slots + 187) (by omega) (by omega) ?_
  refine va_putF (D := (dC, dI)) (ci := 8) (v := .ref y5) (ty := .array .int) (C := RX8) (T := TX8) (N := 36) hx hb hts (ct_u 8 (by decide)) tyX8 tyX8_ok nmX8 hown hK hP hD hS 0 rfl rfl 6 (by decide) (hts (.fieldLink RX8 25 "JustFivePoundsModel" "tape" "[I") (ct_m 76 rfl)) (fun _ h9 => h9) rfl hin rfl (by decide +kernel) rfl rfl (Nat.le_of_ble_eq_true rfl) ct_y67 (fun H locs hP hD hS => ?_)
  have hP : va_P (dC, dI) vwCl [(h8, .inr (8, [.ref y0, .int (i3 0), .ref y1, .ref y2, .ref y3, .ref y4, .ref y5, .int (i3 0), .null, .null, .int (i3 0), .int (i3 0), .int (i3 0), .int (i3 0), .int (i3 0), .null, .null, .null, .null, .null, .int (i3 0), .int (i3 0), .int (i3 0), .int (i3 0), .null, .null, .int (i3 0), .int (i3 0), .int (i3 0), .null, .null, .null, .null, .null, .int (i3 0), .int (i3 0)])), (y0, .inl (cI, (4, .inl (ct_f ct_pump 4)))), (y1, .inl (cI, (5, .inl fun _ => i3 0))), (y2, .inl (cI, (5, .inl fun _ => i3 0))), (y3, .inl (cI, (10, .inl fun _ => i3 0))), (y4, .inl (cI, (3, .inl fun _ => i3 0))), (y5, .inl (cI, (160, .inl fun _ => i3 0)))] H := hP
  have hD : va_D A [(h8, .inr (8, [.ref y0, .int (i3 0), .ref y1, .ref y2, .ref y3, .ref y4, .ref y5, .int (i3 0), .null, .null, .int (i3 0), .int (i3 0), .int (i3 0), .int (i3 0), .int (i3 0), .null, .null, .null, .null, .null, .int (i3 0), .int (i3 0), .int (i3 0), .int (i3 0), .null, .null, .int (i3 0), .int (i3 0), .int (i3 0), .null, .null, .null, .null, .null, .int (i3 0), .int (i3 0)])), (y0, .inl (cI, (4, .inl (ct_f ct_pump 4)))), (y1, .inl (cI, (5, .inl fun _ => i3 0))), (y2, .inl (cI, (5, .inl fun _ => i3 0))), (y3, .inl (cI, (10, .inl fun _ => i3 0))), (y4, .inl (cI, (3, .inl fun _ => i3 0))), (y5, .inl (cI, (160, .inl fun _ => i3 0)))] := hD
  refine lv_aload_n hx hb ct_y70 rfl (lv_at hl 0 rfl) ?_
  refine lv_sipush (v := 1200) hx hb ct_y71 (by decide +kernel) ?_
  refine va_newa (atype := .int) (a0 := (1200, .inl fun _ => i3 0)) (N' := 1200) hx hb (hts (.arrayClass .int) (ct_m 2 rfl)) rfl hK hP hD hS hA (fun cA => by rw [i3_zero]; rfl) (by decide +kernel) (by decide +kernel) (Nat.le_of_ble_eq_true rfl) (by omega) (by omega) ct_y74 (fun y6 c1 H hK hP hD hS => ?_)
  obtain rfl : cI = c1 := ct_int1 (hK.2 0 _ rfl).2 (hK.2 1 _ rfl).2
  have hK : va_K (dC, dI) vwCl [(cI, .int)] s := hK.sub [0] rfl
  refine W.widen (k := cells + 7) (n := slots + 1387) (by omega) (by omega) ?_
  refine va_putF (D := (dC, dI)) (ci := 8) (v := .ref y6) (ty := .array .int) (C := RX8) (T := TX8) (N := 36) hx hb hts (ct_u 8 (by decide)) tyX8 tyX8_ok nmX8 hown hK hP hD hS 0 rfl rfl 8 (by decide) (hts (.fieldLink RX8 28 "JustFivePoundsModel" "codes" "[I") (ct_m 77 rfl)) (fun _ h9 => h9) rfl hin rfl (by decide +kernel) rfl rfl (Nat.le_of_ble_eq_true rfl) ct_y76 (fun H locs hP hD hS => ?_)
  have hP : va_P (dC, dI) vwCl [(h8, .inr (8, [.ref y0, .int (i3 0), .ref y1, .ref y2, .ref y3, .ref y4, .ref y5, .int (i3 0), .ref y6, .null, .int (i3 0), .int (i3 0), .int (i3 0), .int (i3 0), .int (i3 0), .null, .null, .null, .null, .null, .int (i3 0), .int (i3 0), .int (i3 0), .int (i3 0), .null, .null, .int (i3 0), .int (i3 0), .int (i3 0), .null, .null, .null, .null, .null, .int (i3 0), .int (i3 0)])), (y0, .inl (cI, (4, .inl (ct_f ct_pump 4)))), (y1, .inl (cI, (5, .inl fun _ => i3 0))), (y2, .inl (cI, (5, .inl fun _ => i3 0))), (y3, .inl (cI, (10, .inl fun _ => i3 0))), (y4, .inl (cI, (3, .inl fun _ => i3 0))), (y5, .inl (cI, (160, .inl fun _ => i3 0))), (y6, .inl (cI, (1200, .inl fun _ => i3 0)))] H := hP
  have hD : va_D A [(h8, .inr (8, [.ref y0, .int (i3 0), .ref y1, .ref y2, .ref y3, .ref y4, .ref y5, .int (i3 0), .ref y6, .null, .int (i3 0), .int (i3 0), .int (i3 0), .int (i3 0), .int (i3 0), .null, .null, .null, .null, .null, .int (i3 0), .int (i3 0), .int (i3 0), .int (i3 0), .null, .null, .int (i3 0), .int (i3 0), .int (i3 0), .null, .null, .null, .null, .null, .int (i3 0), .int (i3 0)])), (y0, .inl (cI, (4, .inl (ct_f ct_pump 4)))), (y1, .inl (cI, (5, .inl fun _ => i3 0))), (y2, .inl (cI, (5, .inl fun _ => i3 0))), (y3, .inl (cI, (10, .inl fun _ => i3 0))), (y4, .inl (cI, (3, .inl fun _ => i3 0))), (y5, .inl (cI, (160, .inl fun _ => i3 0))), (y6, .inl (cI, (1200, .inl fun _ => i3 0)))] := hD
  refine lv_aload_n hx hb ct_y79 rfl (lv_at hl 0 rfl) ?_
  refine lv_bipush (v := 24) hx hb ct_y80 (by decide +kernel) ?_
  refine va_newa (atype := .int) (a0 := (24, .inl fun _ => i3 0)) (N' := 24) hx hb (hts (.arrayClass .int) (ct_m 2 rfl)) rfl hK hP hD hS hA (fun cA => by rw [i3_zero]; rfl) (by decide +kernel) (by decide +kernel) (Nat.le_of_ble_eq_true rfl) (by omega) (by omega) ct_y82 (fun y7 c1 H hK hP hD hS => ?_)
  obtain rfl : cI = c1 := ct_int1 (hK.2 0 _ rfl).2 (hK.2 1 _ rfl).2
  have hK : va_K (dC, dI) vwCl [(cI, .int)] s := hK.sub [0] rfl
  refine W.widen (k := cells + 8) (n := slots + 1411) (by omega) (by omega) ?_
  refine va_putF (D := (dC, dI)) (ci := 8) (v := .ref y7) (ty := .array .int) (C := RX8) (T := TX8) (N := 36) hx hb hts (ct_u 8 (by decide)) tyX8 tyX8_ok nmX8 hown hK hP hD hS 0 rfl rfl 9 (by decide) (hts (.fieldLink RX8 31 "JustFivePoundsModel" "starts" "[I") (ct_m 78 rfl)) (fun _ h9 => h9) rfl hin rfl (by decide +kernel) rfl rfl (Nat.le_of_ble_eq_true rfl) ct_y84 (fun H locs hP hD hS => ?_)
  have hP : va_P (dC, dI) vwCl [(h8, .inr (8, [.ref y0, .int (i3 0), .ref y1, .ref y2, .ref y3, .ref y4, .ref y5, .int (i3 0), .ref y6, .ref y7, .int (i3 0), .int (i3 0), .int (i3 0), .int (i3 0), .int (i3 0), .null, .null, .null, .null, .null, .int (i3 0), .int (i3 0), .int (i3 0), .int (i3 0), .null, .null, .int (i3 0), .int (i3 0), .int (i3 0), .null, .null, .null, .null, .null, .int (i3 0), .int (i3 0)])), (y0, .inl (cI, (4, .inl (ct_f ct_pump 4)))), (y1, .inl (cI, (5, .inl fun _ => i3 0))), (y2, .inl (cI, (5, .inl fun _ => i3 0))), (y3, .inl (cI, (10, .inl fun _ => i3 0))), (y4, .inl (cI, (3, .inl fun _ => i3 0))), (y5, .inl (cI, (160, .inl fun _ => i3 0))), (y6, .inl (cI, (1200, .inl fun _ => i3 0))), (y7, .inl (cI, (24, .inl fun _ => i3 0)))] H := hP
  have hD : va_D A [(h8, .inr (8, [.ref y0, .int (i3 0), .ref y1, .ref y2, .ref y3, .ref y4, .ref y5, .int (i3 0), .ref y6, .ref y7, .int (i3 0), .int (i3 0), .int (i3 0), .int (i3 0), .int (i3 0), .null, .null, .null, .null, .null, .int (i3 0), .int (i3 0), .int (i3 0), .int (i3 0), .null, .null, .int (i3 0), .int (i3 0), .int (i3 0), .null, .null, .null, .null, .null, .int (i3 0), .int (i3 0)])), (y0, .inl (cI, (4, .inl (ct_f ct_pump 4)))), (y1, .inl (cI, (5, .inl fun _ => i3 0))), (y2, .inl (cI, (5, .inl fun _ => i3 0))), (y3, .inl (cI, (10, .inl fun _ => i3 0))), (y4, .inl (cI, (3, .inl fun _ => i3 0))), (y5, .inl (cI, (160, .inl fun _ => i3 0))), (y6, .inl (cI, (1200, .inl fun _ => i3 0))), (y7, .inl (cI, (24, .inl fun _ => i3 0)))] := hD
  refine lv_aload_n hx hb ct_y87 rfl (lv_at hl 0 rfl) ?_
  refine lv_bipush (v := 17) hx hb ct_y88 (by decide +kernel) ?_
  refine va_newa (atype := .int) (a0 := (17, .inl fun _ => i3 0)) (N' := 17) hx hb (hts (.arrayClass .int) (ct_m 2 rfl)) rfl hK hP hD hS hA (fun cA => by rw [i3_zero]; rfl) (by decide +kernel) (by decide +kernel) (Nat.le_of_ble_eq_true rfl) (by omega) (by omega) ct_y90 (fun y8 c1 H hK hP hD hS => ?_)
  obtain rfl : cI = c1 := ct_int1 (hK.2 0 _ rfl).2 (hK.2 1 _ rfl).2
  have hK : va_K (dC, dI) vwCl [(cI, .int)] s := hK.sub [0] rfl
  refine W.widen (k := cells + 9) (n := slots + 1428) (by omega) (by omega) ?_
  refine va_putF (D := (dC, dI)) (ci := 8) (v := .ref y8) (ty := .array .int) (C := RX8) (T := TX8) (N := 36) hx hb hts (ct_u 8 (by decide)) tyX8 tyX8_ok nmX8 hown hK hP hD hS 0 rfl rfl 15 (by decide) (hts (.fieldLink RX8 34 "JustFivePoundsModel" "imageRows" "[I") (ct_m 79 rfl)) (fun _ h9 => h9) rfl hin rfl (by decide +kernel) rfl rfl (Nat.le_of_ble_eq_true rfl) ct_y92 (fun H locs hP hD hS => ?_)
  have hP : va_P (dC, dI) vwCl [(h8, .inr (8, [.ref y0, .int (i3 0), .ref y1, .ref y2, .ref y3, .ref y4, .ref y5, .int (i3 0), .ref y6, .ref y7, .int (i3 0), .int (i3 0), .int (i3 0), .int (i3 0), .int (i3 0), .ref y8, .null, .null, .null, .null, .int (i3 0), .int (i3 0), .int (i3 0), .int (i3 0), .null, .null, .int (i3 0), .int (i3 0), .int (i3 0), .null, .null, .null, .null, .null, .int (i3 0), .int (i3 0)])), (y0, .inl (cI, (4, .inl (ct_f ct_pump 4)))), (y1, .inl (cI, (5, .inl fun _ => i3 0))), (y2, .inl (cI, (5, .inl fun _ => i3 0))), (y3, .inl (cI, (10, .inl fun _ => i3 0))), (y4, .inl (cI, (3, .inl fun _ => i3 0))), (y5, .inl (cI, (160, .inl fun _ => i3 0))), (y6, .inl (cI, (1200, .inl fun _ => i3 0))), (y7, .inl (cI, (24, .inl fun _ => i3 0))), (y8, .inl (cI, (17, .inl fun _ => i3 0)))] H := hP
  have hD : va_D A [(h8, .inr (8, [.ref y0, .int (i3 0), .ref y1, .ref y2, .ref y3, .ref y4, .ref y5, .int (i3 0), .ref y6, .ref y7, .int (i3 0), .int (i3 0), .int (i3 0), .int (i3 0), .int (i3 0), .ref y8, .null, .null, .null, .null, .int (i3 0), .int (i3 0), .int (i3 0), .int (i3 0), .null, .null, .int (i3 0), .int (i3 0), .int (i3 0), .null, .null, .null, .null, .null, .int (i3 0), .int (i3 0)])), (y0, .inl (cI, (4, .inl (ct_f ct_pump 4)))), (y1, .inl (cI, (5, .inl fun _ => i3 0))), (y2, .inl (cI, (5, .inl fun _ => i3 0))), (y3, .inl (cI, (10, .inl fun _ => i3 0))), (y4, .inl (cI, (3, .inl fun _ => i3 0))), (y5, .inl (cI, (160, .inl fun _ => i3 0))), (y6, .inl (cI, (1200, .inl fun _ => i3 0))), (y7, .inl (cI, (24, .inl fun _ => i3 0))), (y8, .inl (cI, (17, .inl fun _ => i3 0)))] := hD
  refine lv_aload_n hx hb ct_y95 rfl (lv_at hl 0 rfl) ?_
  refine lv_iconst (v := 4) hx hb ct_y96 (by decide +kernel) ?_
  refine va_newa (atype := .int) (a0 := (4, .inl fun _ => i3 0)) (N' := 4) hx hb (hts (.arrayClass .int) (ct_m 2 rfl)) rfl hK hP hD hS hA (fun cA => by rw [i3_zero]; rfl) (by decide +kernel) (by decide +kernel) (Nat.le_of_ble_eq_true rfl) (by omega) (by omega) ct_y97 (fun y9 c1 H hK hP hD hS => ?_)
  obtain rfl : cI = c1 := ct_int1 (hK.2 0 _ rfl).2 (hK.2 1 _ rfl).2
  have hK : va_K (dC, dI) vwCl [(cI, .int)] s := hK.sub [0] rfl
  refine W.widen (k := cells + 10) (n := slots + 1432) (by omega) (by omega) ?_
  have hP : va_P (dC, dI) vwCl ([(h8, .inr (8, [.ref y0, .int (i3 0), .ref y1, .ref y2, .ref y3, .ref y4, .ref y5, .int (i3 0), .ref y6, .ref y7, .int (i3 0), .int (i3 0), .int (i3 0), .int (i3 0), .int (i3 0), .ref y8, .null, .null, .null, .null, .int (i3 0), .int (i3 0), .int (i3 0), .int (i3 0), .null, .null, .int (i3 0), .int (i3 0), .int (i3 0), .null, .null, .null, .null, .null, .int (i3 0), .int (i3 0)])), (y0, .inl (cI, (4, .inl (ct_f ct_pump 4)))), (y1, .inl (cI, (5, .inl fun _ => i3 0))), (y2, .inl (cI, (5, .inl fun _ => i3 0))), (y3, .inl (cI, (10, .inl fun _ => i3 0))), (y4, .inl (cI, (3, .inl fun _ => i3 0))), (y5, .inl (cI, (160, .inl fun _ => i3 0))), (y6, .inl (cI, (1200, .inl fun _ => i3 0))), (y7, .inl (cI, (24, .inl fun _ => i3 0))), (y8, .inl (cI, (17, .inl fun _ => i3 0)))] ++ [(y9, .inl (cI, (4, .inl (ct_f ct_sort 0))))]) H := by rw [← ct_f0]; exact hP
  have hD : va_D A ([(h8, .inr (8, [.ref y0, .int (i3 0), .ref y1, .ref y2, .ref y3, .ref y4, .ref y5, .int (i3 0), .ref y6, .ref y7, .int (i3 0), .int (i3 0), .int (i3 0), .int (i3 0), .int (i3 0), .ref y8, .null, .null, .null, .null, .int (i3 0), .int (i3 0), .int (i3 0), .int (i3 0), .null, .null, .int (i3 0), .int (i3 0), .int (i3 0), .null, .null, .null, .null, .null, .int (i3 0), .int (i3 0)])), (y0, .inl (cI, (4, .inl (ct_f ct_pump 4)))), (y1, .inl (cI, (5, .inl fun _ => i3 0))), (y2, .inl (cI, (5, .inl fun _ => i3 0))), (y3, .inl (cI, (10, .inl fun _ => i3 0))), (y4, .inl (cI, (3, .inl fun _ => i3 0))), (y5, .inl (cI, (160, .inl fun _ => i3 0))), (y6, .inl (cI, (1200, .inl fun _ => i3 0))), (y7, .inl (cI, (24, .inl fun _ => i3 0))), (y8, .inl (cI, (17, .inl fun _ => i3 0)))] ++ [(y9, .inl (cI, (4, .inl (ct_f ct_sort 0))))]) := by rw [← ct_f0]; exact hD
  refine lv_dup hx hb ct_y99 rfl ?_
  refine lv_iconst (v := 0) hx hb ct_y100 (by decide +kernel) ?_
  refine lv_iconst (v := -1) hx hb ct_y101 (by decide +kernel) ?_
  refine ct_ias (k2 := 1) hx hb hK rfl (by decide +kernel) (by decide +kernel) (by unfold vp_in; decide +kernel) ct_y102 hP hD hS (fun H locs hP hD hS => ?_)
  refine lv_dup hx hb ct_y103 rfl ?_
  refine lv_iconst (v := 1) hx hb ct_y104 (by decide +kernel) ?_
  refine lv_iconst (v := -1) hx hb ct_y105 (by decide +kernel) ?_
  refine ct_ias (k2 := 2) hx hb hK rfl (by decide +kernel) (by decide +kernel) (by unfold vp_in; decide +kernel) ct_y106 hP hD hS (fun H locs hP hD hS => ?_)
  refine lv_dup hx hb ct_y107 rfl ?_
  refine lv_iconst (v := 2) hx hb ct_y108 (by decide +kernel) ?_
  refine lv_iconst (v := -1) hx hb ct_y109 (by decide +kernel) ?_
  refine ct_ias (k2 := 3) hx hb hK rfl (by decide +kernel) (by decide +kernel) (by unfold vp_in; decide +kernel) ct_y110 hP hD hS (fun H locs hP hD hS => ?_)
  refine lv_dup hx hb ct_y111 rfl ?_
  refine lv_iconst (v := 3) hx hb ct_y112 (by decide +kernel) ?_
  refine lv_iconst (v := -1) hx hb ct_y113 (by decide +kernel) ?_
  refine ct_ias (k2 := 4) hx hb hK rfl (by decide +kernel) (by decide +kernel) (by unfold vp_in; decide +kernel) ct_y114 hP hD hS (fun H locs hP hD hS => ?_)
  refine va_putF (D := (dC, dI)) (ci := 8) (v := .ref y9) (ty := .array .int) (C := RX8) (T := TX8) (N := 36) hx hb hts (ct_u 8 (by decide)) tyX8 tyX8_ok nmX8 hown hK hP hD hS 0 rfl rfl 16 (by decide) (hts (.fieldLink RX8 37 "JustFivePoundsModel" "sheetSort" "[I") (ct_m 80 rfl)) (fun _ h9 => h9) rfl hin rfl (by decide +kernel) rfl rfl (Nat.le_of_ble_eq_true rfl) ct_y115 (fun H locs hP hD hS => ?_)
  have hP : va_P (dC, dI) vwCl [(h8, .inr (8, [.ref y0, .int (i3 0), .ref y1, .ref y2, .ref y3, .ref y4, .ref y5, .int (i3 0), .ref y6, .ref y7, .int (i3 0), .int (i3 0), .int (i3 0), .int (i3 0), .int (i3 0), .ref y8, .ref y9, .null, .null, .null, .int (i3 0), .int (i3 0), .int (i3 0), .int (i3 0), .null, .null, .int (i3 0), .int (i3 0), .int (i3 0), .null, .null, .null, .null, .null, .int (i3 0), .int (i3 0)])), (y0, .inl (cI, (4, .inl (ct_f ct_pump 4)))), (y1, .inl (cI, (5, .inl fun _ => i3 0))), (y2, .inl (cI, (5, .inl fun _ => i3 0))), (y3, .inl (cI, (10, .inl fun _ => i3 0))), (y4, .inl (cI, (3, .inl fun _ => i3 0))), (y5, .inl (cI, (160, .inl fun _ => i3 0))), (y6, .inl (cI, (1200, .inl fun _ => i3 0))), (y7, .inl (cI, (24, .inl fun _ => i3 0))), (y8, .inl (cI, (17, .inl fun _ => i3 0))), (y9, .inl (cI, (4, .inl (ct_f ct_sort 4))))] H := hP
  have hD : va_D A [(h8, .inr (8, [.ref y0, .int (i3 0), .ref y1, .ref y2, .ref y3, .ref y4, .ref y5, .int (i3 0), .ref y6, .ref y7, .int (i3 0), .int (i3 0), .int (i3 0), .int (i3 0), .int (i3 0), .ref y8, .ref y9, .null, .null, .null, .int (i3 0), .int (i3 0), .int (i3 0), .int (i3 0), .null, .null, .int (i3 0), .int (i3 0), .int (i3 0), .null, .null, .null, .null, .null, .int (i3 0), .int (i3 0)])), (y0, .inl (cI, (4, .inl (ct_f ct_pump 4)))), (y1, .inl (cI, (5, .inl fun _ => i3 0))), (y2, .inl (cI, (5, .inl fun _ => i3 0))), (y3, .inl (cI, (10, .inl fun _ => i3 0))), (y4, .inl (cI, (3, .inl fun _ => i3 0))), (y5, .inl (cI, (160, .inl fun _ => i3 0))), (y6, .inl (cI, (1200, .inl fun _ => i3 0))), (y7, .inl (cI, (24, .inl fun _ => i3 0))), (y8, .inl (cI, (17, .inl fun _ => i3 0))), (y9, .inl (cI, (4, .inl (ct_f ct_sort 4))))] := hD
  refine lv_aload_n hx hb ct_y118 rfl (lv_at hl 0 rfl) ?_
  refine lv_iconst (v := 4) hx hb ct_y119 (by decide +kernel) ?_
  refine va_newa (atype := .int) (a0 := (4, .inl fun _ => i3 0)) (N' := 4) hx hb (hts (.arrayClass .int) (ct_m 2 rfl)) rfl hK hP hD hS hA (fun cA => by rw [i3_zero]; rfl) (by decide +kernel) (by decide +kernel) (Nat.le_of_ble_eq_true rfl) (by omega) (by omega) ct_y120 (fun y10 c1 H hK hP hD hS => ?_)
  obtain rfl : cI = c1 := ct_int1 (hK.2 0 _ rfl).2 (hK.2 1 _ rfl).2
  have hK : va_K (dC, dI) vwCl [(cI, .int)] s := hK.sub [0] rfl
  refine W.widen (k := cells + 11) (n := slots + 1436) (by omega) (by omega) ?_
  refine va_putF (D := (dC, dI)) (ci := 8) (v := .ref y10) (ty := .array .int) (C := RX8) (T := TX8) (N := 36) hx hb hts (ct_u 8 (by decide)) tyX8 tyX8_ok nmX8 hown hK hP hD hS 0 rfl rfl 17 (by decide) (hts (.fieldLink RX8 40 "JustFivePoundsModel" "sheetSize" "[I") (ct_m 81 rfl)) (fun _ h9 => h9) rfl hin rfl (by decide +kernel) rfl rfl (Nat.le_of_ble_eq_true rfl) ct_y122 (fun H locs hP hD hS => ?_)
  have hP : va_P (dC, dI) vwCl [(h8, .inr (8, [.ref y0, .int (i3 0), .ref y1, .ref y2, .ref y3, .ref y4, .ref y5, .int (i3 0), .ref y6, .ref y7, .int (i3 0), .int (i3 0), .int (i3 0), .int (i3 0), .int (i3 0), .ref y8, .ref y9, .ref y10, .null, .null, .int (i3 0), .int (i3 0), .int (i3 0), .int (i3 0), .null, .null, .int (i3 0), .int (i3 0), .int (i3 0), .null, .null, .null, .null, .null, .int (i3 0), .int (i3 0)])), (y0, .inl (cI, (4, .inl (ct_f ct_pump 4)))), (y1, .inl (cI, (5, .inl fun _ => i3 0))), (y2, .inl (cI, (5, .inl fun _ => i3 0))), (y3, .inl (cI, (10, .inl fun _ => i3 0))), (y4, .inl (cI, (3, .inl fun _ => i3 0))), (y5, .inl (cI, (160, .inl fun _ => i3 0))), (y6, .inl (cI, (1200, .inl fun _ => i3 0))), (y7, .inl (cI, (24, .inl fun _ => i3 0))), (y8, .inl (cI, (17, .inl fun _ => i3 0))), (y9, .inl (cI, (4, .inl (ct_f ct_sort 4)))), (y10, .inl (cI, (4, .inl fun _ => i3 0)))] H := hP
  have hD : va_D A [(h8, .inr (8, [.ref y0, .int (i3 0), .ref y1, .ref y2, .ref y3, .ref y4, .ref y5, .int (i3 0), .ref y6, .ref y7, .int (i3 0), .int (i3 0), .int (i3 0), .int (i3 0), .int (i3 0), .ref y8, .ref y9, .ref y10, .null, .null, .int (i3 0), .int (i3 0), .int (i3 0), .int (i3 0), .null, .null, .int (i3 0), .int (i3 0), .int (i3 0), .null, .null, .null, .null, .null, .int (i3 0), .int (i3 0)])), (y0, .inl (cI, (4, .inl (ct_f ct_pump 4)))), (y1, .inl (cI, (5, .inl fun _ => i3 0))), (y2, .inl (cI, (5, .inl fun _ => i3 0))), (y3, .inl (cI, (10, .inl fun _ => i3 0))), (y4, .inl (cI, (3, .inl fun _ => i3 0))), (y5, .inl (cI, (160, .inl fun _ => i3 0))), (y6, .inl (cI, (1200, .inl fun _ => i3 0))), (y7, .inl (cI, (24, .inl fun _ => i3 0))), (y8, .inl (cI, (17, .inl fun _ => i3 0))), (y9, .inl (cI, (4, .inl (ct_f ct_sort 4)))), (y10, .inl (cI, (4, .inl fun _ => i3 0)))] := hD
  refine lv_aload_n hx hb ct_y125 rfl (lv_at hl 0 rfl) ?_
  refine lv_sipush (v := 160) hx hb ct_y126 (by decide +kernel) ?_
  refine va_newa (atype := .int) (a0 := (160, .inl fun _ => i3 0)) (N' := 160) hx hb (hts (.arrayClass .int) (ct_m 2 rfl)) rfl hK hP hD hS hA (fun cA => by rw [i3_zero]; rfl) (by decide +kernel) (by decide +kernel) (Nat.le_of_ble_eq_true rfl) (by omega) (by omega) ct_y129 (fun y11 c1 H hK hP hD hS => ?_)
  obtain rfl : cI = c1 := ct_int1 (hK.2 0 _ rfl).2 (hK.2 1 _ rfl).2
  have hK : va_K (dC, dI) vwCl [(cI, .int)] s := hK.sub [0] rfl
  refine W.widen (k := cells + 12) (n := slots + 1596) (by omega) (by omega) ?_
  refine va_putF (D := (dC, dI)) (ci := 8) (v := .ref y11) (ty := .array .int) (C := RX8) (T := TX8) (N := 36) hx hb hts (ct_u 8 (by decide)) tyX8 tyX8_ok nmX8 hown hK hP hD hS 0 rfl rfl 18 (by decide) (hts (.fieldLink RX8 43 "JustFivePoundsModel" "cells" "[I") (ct_m 82 rfl)) (fun _ h9 => h9) rfl hin rfl (by decide +kernel) rfl rfl (Nat.le_of_ble_eq_true rfl) ct_y131 (fun H locs hP hD hS => ?_)
  have hP : va_P (dC, dI) vwCl [(h8, .inr (8, [.ref y0, .int (i3 0), .ref y1, .ref y2, .ref y3, .ref y4, .ref y5, .int (i3 0), .ref y6, .ref y7, .int (i3 0), .int (i3 0), .int (i3 0), .int (i3 0), .int (i3 0), .ref y8, .ref y9, .ref y10, .ref y11, .null, .int (i3 0), .int (i3 0), .int (i3 0), .int (i3 0), .null, .null, .int (i3 0), .int (i3 0), .int (i3 0), .null, .null, .null, .null, .null, .int (i3 0), .int (i3 0)])), (y0, .inl (cI, (4, .inl (ct_f ct_pump 4)))), (y1, .inl (cI, (5, .inl fun _ => i3 0))), (y2, .inl (cI, (5, .inl fun _ => i3 0))), (y3, .inl (cI, (10, .inl fun _ => i3 0))), (y4, .inl (cI, (3, .inl fun _ => i3 0))), (y5, .inl (cI, (160, .inl fun _ => i3 0))), (y6, .inl (cI, (1200, .inl fun _ => i3 0))), (y7, .inl (cI, (24, .inl fun _ => i3 0))), (y8, .inl (cI, (17, .inl fun _ => i3 0))), (y9, .inl (cI, (4, .inl (ct_f ct_sort 4)))), (y10, .inl (cI, (4, .inl fun _ => i3 0))), (y11, .inl (cI, (160, .inl fun _ => i3 0)))] H := hP
  have hD : va_D A [(h8, .inr (8, [.ref y0, .int (i3 0), .ref y1, .ref y2, .ref y3, .ref y4, .ref y5, .int (i3 0), .ref y6, .ref y7, .int (i3 0), .int (i3 0), .int (i3 0), .int (i3 0), .int (i3 0), .ref y8, .ref y9, .ref y10, .ref y11, .null, .int (i3 0), .int (i3 0), .int (i3 0), .int (i3 0), .null, .null, .int (i3 0), .int (i3 0), .int (i3 0), .null, .null, .null, .null, .null, .int (i3 0), .int (i3 0)])), (y0, .inl (cI, (4, .inl (ct_f ct_pump 4)))), (y1, .inl (cI, (5, .inl fun _ => i3 0))), (y2, .inl (cI, (5, .inl fun _ => i3 0))), (y3, .inl (cI, (10, .inl fun _ => i3 0))), (y4, .inl (cI, (3, .inl fun _ => i3 0))), (y5, .inl (cI, (160, .inl fun _ => i3 0))), (y6, .inl (cI, (1200, .inl fun _ => i3 0))), (y7, .inl (cI, (24, .inl fun _ => i3 0))), (y8, .inl (cI, (17, .inl fun _ => i3 0))), (y9, .inl (cI, (4, .inl (ct_f ct_sort 4)))), (y10, .inl (cI, (4, .inl fun _ => i3 0))), (y11, .inl (cI, (160, .inl fun _ => i3 0)))] := hD
  refine lv_aload_n hx hb ct_y134 rfl (lv_at hl 0 rfl) ?_
  refine lv_bipush (v := 59) hx hb ct_y135 (by decide +kernel) ?_
  refine va_newa (atype := .int) (a0 := (59, .inl fun _ => i3 0)) (N' := 59) hx hb (hts (.arrayClass .int) (ct_m 2 rfl)) rfl hK hP hD hS hA (fun cA => by rw [i3_zero]; rfl) (by decide +kernel) (by decide +kernel) (Nat.le_of_ble_eq_true rfl) (by omega) (by omega) ct_y137 (fun y12 c1 H hK hP hD hS => ?_)
  obtain rfl : cI = c1 := ct_int1 (hK.2 0 _ rfl).2 (hK.2 1 _ rfl).2
  have hK : va_K (dC, dI) vwCl [(cI, .int)] s := hK.sub [0] rfl
  refine W.widen (k := cells + 13) (n := slots + 1655) (by omega) (by omega) ?_
  have hP : va_P (dC, dI) vwCl ([(h8, .inr (8, [.ref y0, .int (i3 0), .ref y1, .ref y2, .ref y3, .ref y4, .ref y5, .int (i3 0), .ref y6, .ref y7, .int (i3 0), .int (i3 0), .int (i3 0), .int (i3 0), .int (i3 0), .ref y8, .ref y9, .ref y10, .ref y11, .null, .int (i3 0), .int (i3 0), .int (i3 0), .int (i3 0), .null, .null, .int (i3 0), .int (i3 0), .int (i3 0), .null, .null, .null, .null, .null, .int (i3 0), .int (i3 0)])), (y0, .inl (cI, (4, .inl (ct_f ct_pump 4)))), (y1, .inl (cI, (5, .inl fun _ => i3 0))), (y2, .inl (cI, (5, .inl fun _ => i3 0))), (y3, .inl (cI, (10, .inl fun _ => i3 0))), (y4, .inl (cI, (3, .inl fun _ => i3 0))), (y5, .inl (cI, (160, .inl fun _ => i3 0))), (y6, .inl (cI, (1200, .inl fun _ => i3 0))), (y7, .inl (cI, (24, .inl fun _ => i3 0))), (y8, .inl (cI, (17, .inl fun _ => i3 0))), (y9, .inl (cI, (4, .inl (ct_f ct_sort 4)))), (y10, .inl (cI, (4, .inl fun _ => i3 0))), (y11, .inl (cI, (160, .inl fun _ => i3 0)))] ++ [(y12, .inl (cI, (59, .inl (ct_f ct_law 0))))]) H := by rw [← ct_f0]; exact hP
  have hD : va_D A ([(h8, .inr (8, [.ref y0, .int (i3 0), .ref y1, .ref y2, .ref y3, .ref y4, .ref y5, .int (i3 0), .ref y6, .ref y7, .int (i3 0), .int (i3 0), .int (i3 0), .int (i3 0), .int (i3 0), .ref y8, .ref y9, .ref y10, .ref y11, .null, .int (i3 0), .int (i3 0), .int (i3 0), .int (i3 0), .null, .null, .int (i3 0), .int (i3 0), .int (i3 0), .null, .null, .null, .null, .null, .int (i3 0), .int (i3 0)])), (y0, .inl (cI, (4, .inl (ct_f ct_pump 4)))), (y1, .inl (cI, (5, .inl fun _ => i3 0))), (y2, .inl (cI, (5, .inl fun _ => i3 0))), (y3, .inl (cI, (10, .inl fun _ => i3 0))), (y4, .inl (cI, (3, .inl fun _ => i3 0))), (y5, .inl (cI, (160, .inl fun _ => i3 0))), (y6, .inl (cI, (1200, .inl fun _ => i3 0))), (y7, .inl (cI, (24, .inl fun _ => i3 0))), (y8, .inl (cI, (17, .inl fun _ => i3 0))), (y9, .inl (cI, (4, .inl (ct_f ct_sort 4)))), (y10, .inl (cI, (4, .inl fun _ => i3 0))), (y11, .inl (cI, (160, .inl fun _ => i3 0)))] ++ [(y12, .inl (cI, (59, .inl (ct_f ct_law 0))))]) := by rw [← ct_f0]; exact hD
  refine lv_dup hx hb ct_y139 rfl ?_
  refine lv_iconst (v := 0) hx hb ct_y140 (by decide +kernel) ?_
  refine lv_bipush (v := 114) hx hb ct_y141 (by decide +kernel) ?_
  refine ct_ias (k2 := 1) hx hb hK rfl (by decide +kernel) (by decide +kernel) (by unfold vp_in; decide +kernel) ct_y143 hP hD hS (fun H locs hP hD hS => ?_)
  refine lv_dup hx hb ct_y144 rfl ?_
  refine lv_iconst (v := 1) hx hb ct_y145 (by decide +kernel) ?_
  refine lv_bipush (v := 117) hx hb ct_y146 (by decide +kernel) ?_
  refine ct_ias (k2 := 2) hx hb hK rfl (by decide +kernel) (by decide +kernel) (by unfold vp_in; decide +kernel) ct_y148 hP hD hS (fun H locs hP hD hS => ?_)
  refine lv_dup hx hb ct_y149 rfl ?_
  refine lv_iconst (v := 2) hx hb ct_y150 (by decide +kernel) ?_
  refine lv_bipush (v := 110) hx hb ct_y151 (by decide +kernel) ?_
  refine ct_ias (k2 := 3) hx hb hK rfl (by decide +kernel) (by decide +kernel) (by unfold vp_in; decide +kernel) ct_y153 hP hD hS (fun H locs hP hD hS => ?_)
  refine lv_dup hx hb ct_y154 rfl ?_
  refine lv_iconst (v := 3) hx hb ct_y155 (by decide +kernel) ?_
  refine lv_bipush (v := 115) hx hb ct_y156 (by decide +kernel) ?_
  refine ct_ias (k2 := 4) hx hb hK rfl (by decide +kernel) (by decide +kernel) (by unfold vp_in; decide +kernel) ct_y158 hP hD hS (fun H locs hP hD hS => ?_)
  refine lv_dup hx hb ct_y159 rfl ?_
  refine lv_iconst (v := 4) hx hb ct_y160 (by decide +kernel) ?_
  refine lv_bipush (v := 32) hx hb ct_y161 (by decide +kernel) ?_
  refine ct_ias (k2 := 5) hx hb hK rfl (by decide +kernel) (by decide +kernel) (by unfold vp_in; decide +kernel) ct_y163 hP hD hS (fun H locs hP hD hS => ?_)
  refine lv_dup hx hb ct_y164 rfl ?_
  refine lv_iconst (v := 5) hx hb ct_y165 (by decide +kernel) ?_
  refine lv_bipush (v := 110) hx hb ct_y166 (by decide +kernel) ?_
  refine ct_ias (k2 := 6) hx hb hK rfl (by decide +kernel) (by decide +kernel) (by unfold vp_in; decide +kernel) ct_y168 hP hD hS (fun H locs hP hD hS => ?_)
  refine lv_dup hx hb ct_y169 rfl ?_
  refine lv_bipush (v := 6) hx hb ct_y170 (by decide +kernel) ?_
  refine lv_bipush (v := 111) hx hb ct_y172 (by decide +kernel) ?_
  refine ct_ias (k2 := 7) hx hb hK rfl (by decide +kernel) (by decide +kernel) (by unfold vp_in; decide +kernel) ct_y174 hP hD hS (fun H locs hP hD hS => ?_)
  refine lv_dup hx hb ct_y175 rfl ?_
  refine lv_bipush (v := 7) hx hb ct_y176 (by decide +kernel) ?_
  refine lv_bipush (v := 116) hx hb ct_y178 (by decide +kernel) ?_
  refine ct_ias (k2 := 8) hx hb hK rfl (by decide +kernel) (by decide +kernel) (by unfold vp_in; decide +kernel) ct_y180 hP hD hS (fun H locs hP hD hS => ?_)
  refine lv_dup hx hb ct_y181 rfl ?_
  refine lv_bipush (v := 8) hx hb ct_y182 (by decide +kernel) ?_
  refine lv_bipush (v := 99) hx hb ct_y184 (by decide +kernel) ?_
  refine ct_ias (k2 := 9) hx hb hK rfl (by decide +kernel) (by decide +kernel) (by unfold vp_in; decide +kernel) ct_y186 hP hD hS (fun H locs hP hD hS => ?_)
  refine lv_dup hx hb ct_y187 rfl ?_
  refine lv_bipush (v := 9) hx hb ct_y188 (by decide +kernel) ?_
  refine lv_bipush (v := 104) hx hb ct_y190 (by decide +kernel) ?_
  refine ct_ias (k2 := 10) hx hb hK rfl (by decide +kernel) (by decide +kernel) (by unfold vp_in; decide +kernel) ct_y192 hP hD hS (fun H locs hP hD hS => ?_)
  refine lv_dup hx hb ct_y193 rfl ?_
  refine lv_bipush (v := 10) hx hb ct_y194 (by decide +kernel) ?_
  refine lv_bipush (v := 32) hx hb ct_y196 (by decide +kernel) ?_
  refine ct_ias (k2 := 11) hx hb hK rfl (by decide +kernel) (by decide +kernel) (by unfold vp_in; decide +kernel) ct_y198 hP hD hS (fun H locs hP hD hS => ?_)
  refine lv_dup hx hb ct_y199 rfl ?_
  refine lv_bipush (v := 11) hx hb ct_y200 (by decide +kernel) ?_
  refine lv_bipush (v := 42) hx hb ct_y202 (by decide +kernel) ?_
  refine ct_ias (k2 := 12) hx hb hK rfl (by decide +kernel) (by decide +kernel) (by unfold vp_in; decide +kernel) ct_y204 hP hD hS (fun H locs hP hD hS => ?_)
  refine lv_dup hx hb ct_y205 rfl ?_
  refine lv_bipush (v := 12) hx hb ct_y206 (by decide +kernel) ?_
  refine lv_bipush (v := 32) hx hb ct_y208 (by decide +kernel) ?_
  refine ct_ias (k2 := 13) hx hb hK rfl (by decide +kernel) (by decide +kernel) (by unfold vp_in; decide +kernel) ct_y210 hP hD hS (fun H locs hP hD hS => ?_)
  refine lv_dup hx hb ct_y211 rfl ?_
  refine lv_bipush (v := 13) hx hb ct_y212 (by decide +kernel) ?_
  refine lv_bipush (v := 110) hx hb ct_y214 (by decide +kernel) ?_
  refine ct_ias (k2 := 14) hx hb hK rfl (by decide +kernel) (by decide +kernel) (by unfold vp_in; decide +kernel) ct_y216 hP hD hS (fun H locs hP hD hS => ?_)
  refine lv_dup hx hb ct_y217 rfl ?_
  refine lv_bipush (v := 14) hx hb ct_y218 (by decide +kernel) ?_
  refine lv_bipush (v := 111) hx hb ct_y220 (by decide +kernel) ?_
  refine ct_ias (k2 := 15) hx hb hK rfl (by decide +kernel) (by decide +kernel) (by unfold vp_in; decide +kernel) ct_y222 hP hD hS (fun H locs hP hD hS => ?_)
  refine lv_dup hx hb ct_y223 rfl ?_
  refine lv_bipush (v := 15) hx hb ct_y224 (by decide +kernel) ?_
  refine lv_bipush (v := 116) hx hb ct_y226 (by decide +kernel) ?_
  refine ct_ias (k2 := 16) hx hb hK rfl (by decide +kernel) (by decide +kernel) (by unfold vp_in; decide +kernel) ct_y228 hP hD hS (fun H locs hP hD hS => ?_)
  refine lv_dup hx hb ct_y229 rfl ?_
  refine lv_bipush (v := 16) hx hb ct_y230 (by decide +kernel) ?_
  refine lv_bipush (v := 99) hx hb ct_y232 (by decide +kernel) ?_
  refine ct_ias (k2 := 17) hx hb hK rfl (by decide +kernel) (by decide +kernel) (by unfold vp_in; decide +kernel) ct_y234 hP hD hS (fun H locs hP hD hS => ?_)
  refine lv_dup hx hb ct_y235 rfl ?_
  refine lv_bipush (v := 17) hx hb ct_y236 (by decide +kernel) ?_
  refine lv_bipush (v := 104) hx hb ct_y238 (by decide +kernel) ?_
  refine ct_ias (k2 := 18) hx hb hK rfl (by decide +kernel) (by decide +kernel) (by unfold vp_in; decide +kernel) ct_y240 hP hD hS (fun H locs hP hD hS => ?_)
  refine lv_dup hx hb ct_y241 rfl ?_
  refine lv_bipush (v := 18) hx hb ct_y242 (by decide +kernel) ?_
  refine lv_bipush (v := 32) hx hb ct_y244 (by decide +kernel) ?_
  refine ct_ias (k2 := 19) hx hb hK rfl (by decide +kernel) (by decide +kernel) (by unfold vp_in; decide +kernel) ct_y246 hP hD hS (fun H locs hP hD hS => ?_)
  refine lv_dup hx hb ct_y247 rfl ?_
  refine lv_bipush (v := 19) hx hb ct_y248 (by decide +kernel) ?_
  refine lv_bipush (v := 42) hx hb ct_y250 (by decide +kernel) ?_
  refine ct_ias (k2 := 20) hx hb hK rfl (by decide +kernel) (by decide +kernel) (by unfold vp_in; decide +kernel) ct_y252 hP hD hS (fun H locs hP hD hS => ?_)
  refine lv_dup hx hb ct_y253 rfl ?_
  refine lv_bipush (v := 20) hx hb ct_y254 (by decide +kernel) ?_
  refine lv_bipush (v := 32) hx hb ct_y256 (by decide +kernel) ?_
  refine ct_ias (k2 := 21) hx hb hK rfl (by decide +kernel) (by decide +kernel) (by unfold vp_in; decide +kernel) ct_y258 hP hD hS (fun H locs hP hD hS => ?_)
  refine lv_dup hx hb ct_y259 rfl ?_
  refine lv_bipush (v := 21) hx hb ct_y260 (by decide +kernel) ?_
  refine lv_bipush (v := 51) hx hb ct_y262 (by decide +kernel) ?_
  refine ct_ias (k2 := 22) hx hb hK rfl (by decide +kernel) (by decide +kernel) (by unfold vp_in; decide +kernel) ct_y264 hP hD hS (fun H locs hP hD hS => ?_)
  refine lv_dup hx hb ct_y265 rfl ?_
  refine lv_bipush (v := 22) hx hb ct_y266 (by decide +kernel) ?_
  refine lv_bipush (v := 32) hx hb ct_y268 (by decide +kernel) ?_
  refine ct_ias (k2 := 23) hx hb hK rfl (by decide +kernel) (by decide +kernel) (by unfold vp_in; decide +kernel) ct_y270 hP hD hS (fun H locs hP hD hS => ?_)
  refine lv_dup hx hb ct_y271 rfl ?_
  refine lv_bipush (v := 23) hx hb ct_y272 (by decide +kernel) ?_
  refine lv_bipush (v := 59) hx hb ct_y274 (by decide +kernel) ?_
  refine ct_ias (k2 := 24) hx hb hK rfl (by decide +kernel) (by decide +kernel) (by unfold vp_in; decide +kernel) ct_y276 hP hD hS (fun H locs hP hD hS => ?_)
  refine lv_dup hx hb ct_y277 rfl ?_
  refine lv_bipush (v := 24) hx hb ct_y278 (by decide +kernel) ?_
  refine lv_bipush (v := 32) hx hb ct_y280 (by decide +kernel) ?_
  refine ct_ias (k2 := 25) hx hb hK rfl (by decide +kernel) (by decide +kernel) (by unfold vp_in; decide +kernel) ct_y282 hP hD hS (fun H locs hP hD hS => ?_)
  refine lv_dup hx hb ct_y283 rfl ?_
  refine lv_bipush (v := 25) hx hb ct_y284 (by decide +kernel) ?_
  refine lv_bipush (v := 108) hx hb ct_y286 (by decide +kernel) ?_
  refine ct_ias (k2 := 26) hx hb hK rfl (by decide +kernel) (by decide +kernel) (by unfold vp_in; decide +kernel) ct_y288 hP hD hS (fun H locs hP hD hS => ?_)
  refine lv_dup hx hb ct_y289 rfl ?_
  refine lv_bipush (v := 26) hx hb ct_y290 (by decide +kernel) ?_
  refine lv_bipush (v := 97) hx hb ct_y292 (by decide +kernel) ?_
  refine ct_ias (k2 := 27) hx hb hK rfl (by decide +kernel) (by decide +kernel) (by unfold vp_in; decide +kernel) ct_y294 hP hD hS (fun H locs hP hD hS => ?_)
  refine lv_dup hx hb ct_y295 rfl ?_
  refine lv_bipush (v := 27) hx hb ct_y296 (by decide +kernel) ?_
  refine lv_bipush (v := 116) hx hb ct_y298 (by decide +kernel) ?_
  refine ct_ias (k2 := 28) hx hb hK rfl (by decide +kernel) (by decide +kernel) (by unfold vp_in; decide +kernel) ct_y300 hP hD hS (fun H locs hP hD hS => ?_)
  refine lv_dup hx hb ct_y301 rfl ?_
  refine lv_bipush (v := 28) hx hb ct_y302 (by decide +kernel) ?_
  refine lv_bipush (v := 101) hx hb ct_y304 (by decide +kernel) ?_
  refine ct_ias (k2 := 29) hx hb hK rfl (by decide +kernel) (by decide +kernel) (by unfold vp_in; decide +kernel) ct_y306 hP hD hS (fun H locs hP hD hS => ?_)
  refine lv_dup hx hb ct_y307 rfl ?_
  refine lv_bipush (v := 29) hx hb ct_y308 (by decide +kernel) ?_
  refine lv_bipush (v := 32) hx hb ct_y310 (by decide +kernel) ?_
  refine ct_ias (k2 := 30) hx hb hK rfl (by decide +kernel) (by decide +kernel) (by unfold vp_in; decide +kernel) ct_y312 hP hD hS (fun H locs hP hD hS => ?_)
  refine lv_dup hx hb ct_y313 rfl ?_
  refine lv_bipush (v := 30) hx hb ct_y314 (by decide +kernel) ?_
  refine lv_bipush (v := 51) hx hb ct_y316 (by decide +kernel) ?_
  refine ct_ias (k2 := 31) hx hb hK rfl (by decide +kernel) (by decide +kernel) (by unfold vp_in; decide +kernel) ct_y318 hP hD hS (fun H locs hP hD hS => ?_)
  refine lv_dup hx hb ct_y319 rfl ?_
  refine lv_bipush (v := 31) hx hb ct_y320 (by decide +kernel) ?_
  refine lv_bipush (v := 32) hx hb ct_y322 (by decide +kernel) ?_
  refine ct_ias (k2 := 32) hx hb hK rfl (by decide +kernel) (by decide +kernel) (by unfold vp_in; decide +kernel) ct_y324 hP hD hS (fun H locs hP hD hS => ?_)
  refine lv_dup hx hb ct_y325 rfl ?_
  refine lv_bipush (v := 32) hx hb ct_y326 (by decide +kernel) ?_
  refine lv_bipush (v := 45) hx hb ct_y328 (by decide +kernel) ?_
  refine ct_ias (k2 := 33) hx hb hK rfl (by decide +kernel) (by decide +kernel) (by unfold vp_in; decide +kernel) ct_y330 hP hD hS (fun H locs hP hD hS => ?_)
  refine lv_dup hx hb ct_y331 rfl ?_
  refine lv_bipush (v := 33) hx hb ct_y332 (by decide +kernel) ?_
  refine lv_bipush (v := 32) hx hb ct_y334 (by decide +kernel) ?_
  refine ct_ias (k2 := 34) hx hb hK rfl (by decide +kernel) (by decide +kernel) (by unfold vp_in; decide +kernel) ct_y336 hP hD hS (fun H locs hP hD hS => ?_)
  refine lv_dup hx hb ct_y337 rfl ?_
  refine lv_bipush (v := 34) hx hb ct_y338 (by decide +kernel) ?_
  refine lv_bipush (v := 97) hx hb ct_y340 (by decide +kernel) ?_
  refine ct_ias (k2 := 35) hx hb hK rfl (by decide +kernel) (by decide +kernel) (by unfold vp_in; decide +kernel) ct_y342 hP hD hS (fun H locs hP hD hS => ?_)
  refine lv_dup hx hb ct_y343 rfl ?_
  refine lv_bipush (v := 35) hx hb ct_y344 (by decide +kernel) ?_
  refine lv_bipush (v := 102) hx hb ct_y346 (by decide +kernel) ?_
  refine ct_ias (k2 := 36) hx hb hK rfl (by decide +kernel) (by decide +kernel) (by unfold vp_in; decide +kernel) ct_y348 hP hD hS (fun H locs hP hD hS => ?_)
  refine lv_dup hx hb ct_y349 rfl ?_
  refine lv_bipush (v := 36) hx hb ct_y350 (by decide +kernel) ?_
  refine lv_bipush (v := 116) hx hb ct_y352 (by decide +kernel) ?_
  refine ct_ias (k2 := 37) hx hb hK rfl (by decide +kernel) (by decide +kernel) (by unfold vp_in; decide +kernel) ct_y354 hP hD hS (fun H locs hP hD hS => ?_)
  refine lv_dup hx hb ct_y355 rfl ?_
  refine lv_bipush (v := 37) hx hb ct_y356 (by decide +kernel) ?_
  refine lv_bipush (v := 101) hx hb ct_y358 (by decide +kernel) ?_
  refine ct_ias (k2 := 38) hx hb hK rfl (by decide +kernel) (by decide +kernel) (by unfold vp_in; decide +kernel) ct_y360 hP hD hS (fun H locs hP hD hS => ?_)
  refine lv_dup hx hb ct_y361 rfl ?_
  refine lv_bipush (v := 38) hx hb ct_y362 (by decide +kernel) ?_
  refine lv_bipush (v := 114) hx hb ct_y364 (by decide +kernel) ?_
  refine ct_ias (k2 := 39) hx hb hK rfl (by decide +kernel) (by decide +kernel) (by unfold vp_in; decide +kernel) ct_y366 hP hD hS (fun H locs hP hD hS => ?_)
  refine lv_dup hx hb ct_y367 rfl ?_
  refine lv_bipush (v := 39) hx hb ct_y368 (by decide +kernel) ?_
  refine lv_bipush (v := 32) hx hb ct_y370 (by decide +kernel) ?_
  refine ct_ias (k2 := 40) hx hb hK rfl (by decide +kernel) (by decide +kernel) (by unfold vp_in; decide +kernel) ct_y372 hP hD hS (fun H locs hP hD hS => ?_)
  refine lv_dup hx hb ct_y373 rfl ?_
  refine lv_bipush (v := 40) hx hb ct_y374 (by decide +kernel) ?_
  refine lv_bipush (v := 59) hx hb ct_y376 (by decide +kernel) ?_
  refine ct_ias (k2 := 41) hx hb hK rfl (by decide +kernel) (by decide +kernel) (by unfold vp_in; decide +kernel) ct_y378 hP hD hS (fun H locs hP hD hS => ?_)
  refine lv_dup hx hb ct_y379 rfl ?_
  refine lv_bipush (v := 41) hx hb ct_y380 (by decide +kernel) ?_
  refine lv_bipush (v := 32) hx hb ct_y382 (by decide +kernel) ?_
  refine ct_ias (k2 := 42) hx hb hK rfl (by decide +kernel) (by decide +kernel) (by unfold vp_in; decide +kernel) ct_y384 hP hD hS (fun H locs hP hD hS => ?_)
  refine lv_dup hx hb ct_y385 rfl ?_
  refine lv_bipush (v := 42) hx hb ct_y386 (by decide +kernel) ?_
  refine lv_bipush (v := 99) hx hb ct_y388 (by decide +kernel) ?_
  refine ct_ias (k2 := 43) hx hb hK rfl (by decide +kernel) (by decide +kernel) (by unfold vp_in; decide +kernel) ct_y390 hP hD hS (fun H locs hP hD hS => ?_)
  refine lv_dup hx hb ct_y391 rfl ?_
  refine lv_bipush (v := 43) hx hb ct_y392 (by decide +kernel) ?_
  refine lv_bipush (v := 111) hx hb ct_y394 (by decide +kernel) ?_
  refine ct_ias (k2 := 44) hx hb hK rfl (by decide +kernel) (by decide +kernel) (by unfold vp_in; decide +kernel) ct_y396 hP hD hS (fun H locs hP hD hS => ?_)
  refine lv_dup hx hb ct_y397 rfl ?_
  refine lv_bipush (v := 44) hx hb ct_y398 (by decide +kernel) ?_
  refine lv_bipush (v := 115) hx hb ct_y400 (by decide +kernel) ?_
  refine ct_ias (k2 := 45) hx hb hK rfl (by decide +kernel) (by decide +kernel) (by unfold vp_in; decide +kernel) ct_y402 hP hD hS (fun H locs hP hD hS => ?_)
  refine lv_dup hx hb ct_y403 rfl ?_
  refine lv_bipush (v := 45) hx hb ct_y404 (by decide +kernel) ?_
  refine lv_bipush (v := 116) hx hb ct_y406 (by decide +kernel) ?_
  refine ct_ias (k2 := 46) hx hb hK rfl (by decide +kernel) (by decide +kernel) (by unfold vp_in; decide +kernel) ct_y408 hP hD hS (fun H locs hP hD hS => ?_)
  refine lv_dup hx hb ct_y409 rfl ?_
  refine lv_bipush (v := 46) hx hb ct_y410 (by decide +kernel) ?_
  refine lv_bipush (v := 115) hx hb ct_y412 (by decide +kernel) ?_
  refine ct_ias (k2 := 47) hx hb hK rfl (by decide +kernel) (by decide +kernel) (by unfold vp_in; decide +kernel) ct_y414 hP hD hS (fun H locs hP hD hS => ?_)
  refine lv_dup hx hb ct_y415 rfl ?_
  refine lv_bipush (v := 47) hx hb ct_y416 (by decide +kernel) ?_
  refine lv_bipush (v := 32) hx hb ct_y418 (by decide +kernel) ?_
  refine ct_ias (k2 := 48) hx hb hK rfl (by decide +kernel) (by decide +kernel) (by unfold vp_in; decide +kernel) ct_y420 hP hD hS (fun H locs hP hD hS => ?_)
  refine lv_dup hx hb ct_y421 rfl ?_
  refine lv_bipush (v := 48) hx hb ct_y422 (by decide +kernel) ?_
  refine lv_bipush (v := 111) hx hb ct_y424 (by decide +kernel) ?_
  refine ct_ias (k2 := 49) hx hb hK rfl (by decide +kernel) (by decide +kernel) (by unfold vp_in; decide +kernel) ct_y426 hP hD hS (fun H locs hP hD hS => ?_)
  refine lv_dup hx hb ct_y427 rfl ?_
  refine lv_bipush (v := 49) hx hb ct_y428 (by decide +kernel) ?_
  refine lv_bipush (v := 102) hx hb ct_y430 (by decide +kernel) ?_
  refine ct_ias (k2 := 50) hx hb hK rfl (by decide +kernel) (by decide +kernel) (by unfold vp_in; decide +kernel) ct_y432 hP hD hS (fun H locs hP hD hS => ?_)
  refine lv_dup hx hb ct_y433 rfl ?_
  refine lv_bipush (v := 50) hx hb ct_y434 (by decide +kernel) ?_
  refine lv_bipush (v := 102) hx hb ct_y436 (by decide +kernel) ?_
  refine ct_ias (k2 := 51) hx hb hK rfl (by decide +kernel) (by decide +kernel) (by unfold vp_in; decide +kernel) ct_y438 hP hD hS (fun H locs hP hD hS => ?_)
  refine lv_dup hx hb ct_y439 rfl ?_
  refine lv_bipush (v := 51) hx hb ct_y440 (by decide +kernel) ?_
  refine lv_bipush (v := 32) hx hb ct_y442 (by decide +kernel) ?_
  refine ct_ias (k2 := 52) hx hb hK rfl (by decide +kernel) (by decide +kernel) (by unfold vp_in; decide +kernel) ct_y444 hP hD hS (fun H locs hP hD hS => ?_)
  refine lv_dup hx hb ct_y445 rfl ?_
  refine lv_bipush (v := 52) hx hb ct_y446 (by decide +kernel) ?_
  refine lv_bipush (v := 42) hx hb ct_y448 (by decide +kernel) ?_
  refine ct_ias (k2 := 53) hx hb hK rfl (by decide +kernel) (by decide +kernel) (by unfold vp_in; decide +kernel) ct_y450 hP hD hS (fun H locs hP hD hS => ?_)
  refine lv_dup hx hb ct_y451 rfl ?_
  refine lv_bipush (v := 53) hx hb ct_y452 (by decide +kernel) ?_
  refine lv_bipush (v := 32) hx hb ct_y454 (by decide +kernel) ?_
  refine ct_ias (k2 := 54) hx hb hK rfl (by decide +kernel) (by decide +kernel) (by unfold vp_in; decide +kernel) ct_y456 hP hD hS (fun H locs hP hD hS => ?_)
  refine lv_dup hx hb ct_y457 rfl ?_
  refine lv_bipush (v := 54) hx hb ct_y458 (by decide +kernel) ?_
  refine lv_bipush (v := 111) hx hb ct_y460 (by decide +kernel) ?_
  refine ct_ias (k2 := 55) hx hb hK rfl (by decide +kernel) (by decide +kernel) (by unfold vp_in; decide +kernel) ct_y462 hP hD hS (fun H locs hP hD hS => ?_)
  refine lv_dup hx hb ct_y463 rfl ?_
  refine lv_bipush (v := 55) hx hb ct_y464 (by decide +kernel) ?_
  refine lv_bipush (v := 102) hx hb ct_y466 (by decide +kernel) ?_
  refine ct_ias (k2 := 56) hx hb hK rfl (by decide +kernel) (by decide +kernel) (by unfold vp_in; decide +kernel) ct_y468 hP hD hS (fun H locs hP hD hS => ?_)
  refine lv_dup hx hb ct_y469 rfl ?_
  refine lv_bipush (v := 56) hx hb ct_y470 (by decide +kernel) ?_
  refine lv_bipush (v := 102) hx hb ct_y472 (by decide +kernel) ?_
  refine ct_ias (k2 := 57) hx hb hK rfl (by decide +kernel) (by decide +kernel) (by unfold vp_in; decide +kernel) ct_y474 hP hD hS (fun H locs hP hD hS => ?_)
  refine lv_dup hx hb ct_y475 rfl ?_
  refine lv_bipush (v := 57) hx hb ct_y476 (by decide +kernel) ?_
  refine lv_bipush (v := 32) hx hb ct_y478 (by decide +kernel) ?_
  refine ct_ias (k2 := 58) hx hb hK rfl (by decide +kernel) (by decide +kernel) (by unfold vp_in; decide +kernel) ct_y480 hP hD hS (fun H locs hP hD hS => ?_)
  refine lv_dup hx hb ct_y481 rfl ?_
  refine lv_bipush (v := 58) hx hb ct_y482 (by decide +kernel) ?_
  refine lv_bipush (v := 59) hx hb ct_y484 (by decide +kernel) ?_
  refine ct_ias (k2 := 59) hx hb hK rfl (by decide +kernel) (by decide +kernel) (by unfold vp_in; decide +kernel) ct_y486 hP hD hS (fun H locs hP hD hS => ?_)
  refine va_putF (D := (dC, dI)) (ci := 8) (v := .ref y12) (ty := .array .int) (C := RX8) (T := TX8) (N := 36) hx hb hts (ct_u 8 (by decide)) tyX8 tyX8_ok nmX8 hown hK hP hD hS 0 rfl rfl 19 (by decide) (hts (.fieldLink RX8 46 "JustFivePoundsModel" "law" "[I") (ct_m 83 rfl)) (fun _ h9 => h9) rfl hin rfl (by decide +kernel) rfl rfl (Nat.le_of_ble_eq_true rfl) ct_y487 (fun H locs hP hD hS => ?_)
  have hP : va_P (dC, dI) vwCl [(h8, .inr (8, [.ref y0, .int (i3 0), .ref y1, .ref y2, .ref y3, .ref y4, .ref y5, .int (i3 0), .ref y6, .ref y7, .int (i3 0), .int (i3 0), .int (i3 0), .int (i3 0), .int (i3 0), .ref y8, .ref y9, .ref y10, .ref y11, .ref y12, .int (i3 0), .int (i3 0), .int (i3 0), .int (i3 0), .null, .null, .int (i3 0), .int (i3 0), .int (i3 0), .null, .null, .null, .null, .null, .int (i3 0), .int (i3 0)])), (y0, .inl (cI, (4, .inl (ct_f ct_pump 4)))), (y1, .inl (cI, (5, .inl fun _ => i3 0))), (y2, .inl (cI, (5, .inl fun _ => i3 0))), (y3, .inl (cI, (10, .inl fun _ => i3 0))), (y4, .inl (cI, (3, .inl fun _ => i3 0))), (y5, .inl (cI, (160, .inl fun _ => i3 0))), (y6, .inl (cI, (1200, .inl fun _ => i3 0))), (y7, .inl (cI, (24, .inl fun _ => i3 0))), (y8, .inl (cI, (17, .inl fun _ => i3 0))), (y9, .inl (cI, (4, .inl (ct_f ct_sort 4)))), (y10, .inl (cI, (4, .inl fun _ => i3 0))), (y11, .inl (cI, (160, .inl fun _ => i3 0))), (y12, .inl (cI, (59, .inl (ct_f ct_law 59))))] H := hP
  have hD : va_D A [(h8, .inr (8, [.ref y0, .int (i3 0), .ref y1, .ref y2, .ref y3, .ref y4, .ref y5, .int (i3 0), .ref y6, .ref y7, .int (i3 0), .int (i3 0), .int (i3 0), .int (i3 0), .int (i3 0), .ref y8, .ref y9, .ref y10, .ref y11, .ref y12, .int (i3 0), .int (i3 0), .int (i3 0), .int (i3 0), .null, .null, .int (i3 0), .int (i3 0), .int (i3 0), .null, .null, .null, .null, .null, .int (i3 0), .int (i3 0)])), (y0, .inl (cI, (4, .inl (ct_f ct_pump 4)))), (y1, .inl (cI, (5, .inl fun _ => i3 0))), (y2, .inl (cI, (5, .inl fun _ => i3 0))), (y3, .inl (cI, (10, .inl fun _ => i3 0))), (y4, .inl (cI, (3, .inl fun _ => i3 0))), (y5, .inl (cI, (160, .inl fun _ => i3 0))), (y6, .inl (cI, (1200, .inl fun _ => i3 0))), (y7, .inl (cI, (24, .inl fun _ => i3 0))), (y8, .inl (cI, (17, .inl fun _ => i3 0))), (y9, .inl (cI, (4, .inl (ct_f ct_sort 4)))), (y10, .inl (cI, (4, .inl fun _ => i3 0))), (y11, .inl (cI, (160, .inl fun _ => i3 0))), (y12, .inl (cI, (59, .inl (ct_f ct_law 59))))] := hD
  refine lv_aload_n hx hb ct_y490 rfl (lv_at hl 0 rfl) ?_
  refine lv_bipush (v := 96) hx hb ct_y491 (by decide +kernel) ?_
  refine va_newa (atype := .int) (a0 := (96, .inl fun _ => i3 0)) (N' := 96) hx hb (hts (.arrayClass .int) (ct_m 2 rfl)) rfl hK hP hD hS hA (fun cA => by rw [i3_zero]; rfl) (by decide +kernel) (by decide +kernel) (Nat.le_of_ble_eq_true rfl) (by omega) (by omega) ct_y493 (fun y13 c1 H hK hP hD hS => ?_)
  obtain rfl : cI = c1 := ct_int1 (hK.2 0 _ rfl).2 (hK.2 1 _ rfl).2
  have hK : va_K (dC, dI) vwCl [(cI, .int)] s := hK.sub [0] rfl
  refine W.widen (k := cells + 14) (n := slots + 1751) (by omega) (by omega) ?_
  have hP : va_P (dC, dI) vwCl ([(h8, .inr (8, [.ref y0, .int (i3 0), .ref y1, .ref y2, .ref y3, .ref y4, .ref y5, .int (i3 0), .ref y6, .ref y7, .int (i3 0), .int (i3 0), .int (i3 0), .int (i3 0), .int (i3 0), .ref y8, .ref y9, .ref y10, .ref y11, .ref y12, .int (i3 0), .int (i3 0), .int (i3 0), .int (i3 0), .null, .null, .int (i3 0), .int (i3 0), .int (i3 0), .null, .null, .null, .null, .null, .int (i3 0), .int (i3 0)])), (y0, .inl (cI, (4, .inl (ct_f ct_pump 4)))), (y1, .inl (cI, (5, .inl fun _ => i3 0))), (y2, .inl (cI, (5, .inl fun _ => i3 0))), (y3, .inl (cI, (10, .inl fun _ => i3 0))), (y4, .inl (cI, (3, .inl fun _ => i3 0))), (y5, .inl (cI, (160, .inl fun _ => i3 0))), (y6, .inl (cI, (1200, .inl fun _ => i3 0))), (y7, .inl (cI, (24, .inl fun _ => i3 0))), (y8, .inl (cI, (17, .inl fun _ => i3 0))), (y9, .inl (cI, (4, .inl (ct_f ct_sort 4)))), (y10, .inl (cI, (4, .inl fun _ => i3 0))), (y11, .inl (cI, (160, .inl fun _ => i3 0))), (y12, .inl (cI, (59, .inl (ct_f ct_law 59))))] ++ [(y13, .inl (cI, (96, .inl (ct_f mo_words 0))))]) H := by rw [← ct_f0]; exact hP
  have hD : va_D A ([(h8, .inr (8, [.ref y0, .int (i3 0), .ref y1, .ref y2, .ref y3, .ref y4, .ref y5, .int (i3 0), .ref y6, .ref y7, .int (i3 0), .int (i3 0), .int (i3 0), .int (i3 0), .int (i3 0), .ref y8, .ref y9, .ref y10, .ref y11, .ref y12, .int (i3 0), .int (i3 0), .int (i3 0), .int (i3 0), .null, .null, .int (i3 0), .int (i3 0), .int (i3 0), .null, .null, .null, .null, .null, .int (i3 0), .int (i3 0)])), (y0, .inl (cI, (4, .inl (ct_f ct_pump 4)))), (y1, .inl (cI, (5, .inl fun _ => i3 0))), (y2, .inl (cI, (5, .inl fun _ => i3 0))), (y3, .inl (cI, (10, .inl fun _ => i3 0))), (y4, .inl (cI, (3, .inl fun _ => i3 0))), (y5, .inl (cI, (160, .inl fun _ => i3 0))), (y6, .inl (cI, (1200, .inl fun _ => i3 0))), (y7, .inl (cI, (24, .inl fun _ => i3 0))), (y8, .inl (cI, (17, .inl fun _ => i3 0))), (y9, .inl (cI, (4, .inl (ct_f ct_sort 4)))), (y10, .inl (cI, (4, .inl fun _ => i3 0))), (y11, .inl (cI, (160, .inl fun _ => i3 0))), (y12, .inl (cI, (59, .inl (ct_f ct_law 59))))] ++ [(y13, .inl (cI, (96, .inl (ct_f mo_words 0))))]) := by rw [← ct_f0]; exact hD
  refine lv_dup hx hb ct_y495 rfl ?_
  refine lv_iconst (v := 0) hx hb ct_y496 (by decide +kernel) ?_
  refine lv_bipush (v := 114) hx hb ct_y497 (by decide +kernel) ?_
  refine ct_ias (k2 := 1) hx hb hK rfl (by decide +kernel) (by decide +kernel) (by unfold vp_in; decide +kernel) ct_y499 hP hD hS (fun H locs hP hD hS => ?_)
  refine lv_dup hx hb ct_y500 rfl ?_
  refine lv_iconst (v := 1) hx hb ct_y501 (by decide +kernel) ?_
  refine lv_bipush (v := 117) hx hb ct_y502 (by decide +kernel) ?_
  refine ct_ias (k2 := 2) hx hb hK rfl (by decide +kernel) (by decide +kernel) (by unfold vp_in; decide +kernel) ct_y504 hP hD hS (fun H locs hP hD hS => ?_)
  refine lv_dup hx hb ct_y505 rfl ?_
  refine lv_iconst (v := 2) hx hb ct_y506 (by decide +kernel) ?_
  refine lv_bipush (v := 110) hx hb ct_y507 (by decide +kernel) ?_
  refine ct_ias (k2 := 3) hx hb hK rfl (by decide +kernel) (by decide +kernel) (by unfold vp_in; decide +kernel) ct_y509 hP hD hS (fun H locs hP hD hS => ?_)
  refine lv_dup hx hb ct_y510 rfl ?_
  refine lv_iconst (v := 3) hx hb ct_y511 (by decide +kernel) ?_
  refine lv_bipush (v := 115) hx hb ct_y512 (by decide +kernel) ?_
  refine ct_ias (k2 := 4) hx hb hK rfl (by decide +kernel) (by decide +kernel) (by unfold vp_in; decide +kernel) ct_y514 hP hD hS (fun H locs hP hD hS => ?_)
  refine lv_dup hx hb ct_y515 rfl ?_
  refine lv_iconst (v := 4) hx hb ct_y516 (by decide +kernel) ?_
  refine lv_bipush (v := 32) hx hb ct_y517 (by decide +kernel) ?_
  refine ct_ias (k2 := 5) hx hb hK rfl (by decide +kernel) (by decide +kernel) (by unfold vp_in; decide +kernel) ct_y519 hP hD hS (fun H locs hP hD hS => ?_)
  refine lv_dup hx hb ct_y520 rfl ?_
  refine lv_iconst (v := 5) hx hb ct_y521 (by decide +kernel) ?_
  refine lv_bipush (v := 32) hx hb ct_y522 (by decide +kernel) ?_
  refine ct_ias (k2 := 6) hx hb hK rfl (by decide +kernel) (by decide +kernel) (by unfold vp_in; decide +kernel) ct_y524 hP hD hS (fun H locs hP hD hS => ?_)
  refine lv_dup hx hb ct_y525 rfl ?_
  refine lv_bipush (v := 6) hx hb ct_y526 (by decide +kernel) ?_
  refine lv_bipush (v := 32) hx hb ct_y528 (by decide +kernel) ?_
  refine ct_ias (k2 := 7) hx hb hK rfl (by decide +kernel) (by decide +kernel) (by unfold vp_in; decide +kernel) ct_y530 hP hD hS (fun H locs hP hD hS => ?_)
  refine lv_dup hx hb ct_y531 rfl ?_
  refine lv_bipush (v := 7) hx hb ct_y532 (by decide +kernel) ?_
  refine lv_bipush (v := 32) hx hb ct_y534 (by decide +kernel) ?_
  refine ct_ias (k2 := 8) hx hb hK rfl (by decide +kernel) (by decide +kernel) (by unfold vp_in; decide +kernel) ct_y536 hP hD hS (fun H locs hP hD hS => ?_)
  refine lv_dup hx hb ct_y537 rfl ?_
  refine lv_bipush (v := 8) hx hb ct_y538 (by decide +kernel) ?_
  refine lv_bipush (v := 108) hx hb ct_y540 (by decide +kernel) ?_
  refine ct_ias (k2 := 9) hx hb hK rfl (by decide +kernel) (by decide +kernel) (by unfold vp_in; decide +kernel) ct_y542 hP hD hS (fun H locs hP hD hS => ?_)
  refine lv_dup hx hb ct_y543 rfl ?_
  refine lv_bipush (v := 9) hx hb ct_y544 (by decide +kernel) ?_
  refine lv_bipush (v := 97) hx hb ct_y546 (by decide +kernel) ?_
  refine ct_ias (k2 := 10) hx hb hK rfl (by decide +kernel) (by decide +kernel) (by unfold vp_in; decide +kernel) ct_y548 hP hD hS (fun H locs hP hD hS => ?_)
  refine lv_dup hx hb ct_y549 rfl ?_
  refine lv_bipush (v := 10) hx hb ct_y550 (by decide +kernel) ?_
  refine lv_bipush (v := 116) hx hb ct_y552 (by decide +kernel) ?_
  refine ct_ias (k2 := 11) hx hb hK rfl (by decide +kernel) (by decide +kernel) (by unfold vp_in; decide +kernel) ct_y554 hP hD hS (fun H locs hP hD hS => ?_)
  refine lv_dup hx hb ct_y555 rfl ?_
  refine lv_bipush (v := 11) hx hb ct_y556 (by decide +kernel) ?_
  refine lv_bipush (v := 101) hx hb ct_y558 (by decide +kernel) ?_
  refine ct_ias (k2 := 12) hx hb hK rfl (by decide +kernel) (by decide +kernel) (by unfold vp_in; decide +kernel) ct_y560 hP hD hS (fun H locs hP hD hS => ?_)
  refine lv_dup hx hb ct_y561 rfl ?_
  refine lv_bipush (v := 12) hx hb ct_y562 (by decide +kernel) ?_
  refine lv_bipush (v := 32) hx hb ct_y564 (by decide +kernel) ?_
  refine ct_ias (k2 := 13) hx hb hK rfl (by decide +kernel) (by decide +kernel) (by unfold vp_in; decide +kernel) ct_y566 hP hD hS (fun H locs hP hD hS => ?_)
  refine lv_dup hx hb ct_y567 rfl ?_
  refine lv_bipush (v := 13) hx hb ct_y568 (by decide +kernel) ?_
  refine lv_bipush (v := 32) hx hb ct_y570 (by decide +kernel) ?_
  refine ct_ias (k2 := 14) hx hb hK rfl (by decide +kernel) (by decide +kernel) (by unfold vp_in; decide +kernel) ct_y572 hP hD hS (fun H locs hP hD hS => ?_)
  refine lv_dup hx hb ct_y573 rfl ?_
  refine lv_bipush (v := 14) hx hb ct_y574 (by decide +kernel) ?_
  refine lv_bipush (v := 32) hx hb ct_y576 (by decide +kernel) ?_
  refine ct_ias (k2 := 15) hx hb hK rfl (by decide +kernel) (by decide +kernel) (by unfold vp_in; decide +kernel) ct_y578 hP hD hS (fun H locs hP hD hS => ?_)
  refine lv_dup hx hb ct_y579 rfl ?_
  refine lv_bipush (v := 15) hx hb ct_y580 (by decide +kernel) ?_
  refine lv_bipush (v := 32) hx hb ct_y582 (by decide +kernel) ?_
  refine ct_ias (k2 := 16) hx hb hK rfl (by decide +kernel) (by decide +kernel) (by unfold vp_in; decide +kernel) ct_y584 hP hD hS (fun H locs hP hD hS => ?_)
  refine lv_dup hx hb ct_y585 rfl ?_
  refine lv_bipush (v := 16) hx hb ct_y586 (by decide +kernel) ?_
  refine lv_bipush (v := 99) hx hb ct_y588 (by decide +kernel) ?_
  refine ct_ias (k2 := 17) hx hb hK rfl (by decide +kernel) (by decide +kernel) (by unfold vp_in; decide +kernel) ct_y590 hP hD hS (fun H locs hP hD hS => ?_)
  refine lv_dup hx hb ct_y591 rfl ?_
  refine lv_bipush (v := 17) hx hb ct_y592 (by decide +kernel) ?_
  refine lv_bipush (v := 111) hx hb ct_y594 (by decide +kernel) ?_
  refine ct_ias (k2 := 18) hx hb hK rfl (by decide +kernel) (by decide +kernel) (by unfold vp_in; decide +kernel) ct_y596 hP hD hS (fun H locs hP hD hS => ?_)
  refine lv_dup hx hb ct_y597 rfl ?_
  refine lv_bipush (v := 18) hx hb ct_y598 (by decide +kernel) ?_
  refine lv_bipush (v := 115) hx hb ct_y600 (by decide +kernel) ?_
  refine ct_ias (k2 := 19) hx hb hK rfl (by decide +kernel) (by decide +kernel) (by unfold vp_in; decide +kernel) ct_y602 hP hD hS (fun H locs hP hD hS => ?_)
  refine lv_dup hx hb ct_y603 rfl ?_
  refine lv_bipush (v := 19) hx hb ct_y604 (by decide +kernel) ?_
  refine lv_bipush (v := 116) hx hb ct_y606 (by decide +kernel) ?_
  refine ct_ias (k2 := 20) hx hb hK rfl (by decide +kernel) (by decide +kernel) (by unfold vp_in; decide +kernel) ct_y608 hP hD hS (fun H locs hP hD hS => ?_)
  refine lv_dup hx hb ct_y609 rfl ?_
  refine lv_bipush (v := 20) hx hb ct_y610 (by decide +kernel) ?_
  refine lv_bipush (v := 115) hx hb ct_y612 (by decide +kernel) ?_
  refine ct_ias (k2 := 21) hx hb hK rfl (by decide +kernel) (by decide +kernel) (by unfold vp_in; decide +kernel) ct_y614 hP hD hS (fun H locs hP hD hS => ?_)
  refine lv_dup hx hb ct_y615 rfl ?_
  refine lv_bipush (v := 21) hx hb ct_y616 (by decide +kernel) ?_
  refine lv_bipush (v := 32) hx hb ct_y618 (by decide +kernel) ?_
  refine ct_ias (k2 := 22) hx hb hK rfl (by decide +kernel) (by decide +kernel) (by unfold vp_in; decide +kernel) ct_y620 hP hD hS (fun H locs hP hD hS => ?_)
  refine lv_dup hx hb ct_y621 rfl ?_
  refine lv_bipush (v := 22) hx hb ct_y622 (by decide +kernel) ?_
  refine lv_bipush (v := 32) hx hb ct_y624 (by decide +kernel) ?_
  refine ct_ias (k2 := 23) hx hb hK rfl (by decide +kernel) (by decide +kernel) (by unfold vp_in; decide +kernel) ct_y626 hP hD hS (fun H locs hP hD hS => ?_)
  refine lv_dup hx hb ct_y627 rfl ?_
  refine lv_bipush (v := 23) hx hb ct_y628 (by decide +kernel) ?_
  refine lv_bipush (v := 32) hx hb ct_y630 (by decide +kernel) ?_
  refine ct_ias (k2 := 24) hx hb hK rfl (by decide +kernel) (by decide +kernel) (by unfold vp_in; decide +kernel) ct_y632 hP hD hS (fun H locs hP hD hS => ?_)
  refine lv_dup hx hb ct_y633 rfl ?_
  refine lv_bipush (v := 24) hx hb ct_y634 (by decide +kernel) ?_
  refine lv_bipush (v := 110) hx hb ct_y636 (by decide +kernel) ?_
  refine ct_ias (k2 := 25) hx hb hK rfl (by decide +kernel) (by decide +kernel) (by unfold vp_in; decide +kernel) ct_y638 hP hD hS (fun H locs hP hD hS => ?_)
  refine lv_dup hx hb ct_y639 rfl ?_
  refine lv_bipush (v := 25) hx hb ct_y640 (by decide +kernel) ?_
  refine lv_bipush (v := 111) hx hb ct_y642 (by decide +kernel) ?_
  refine ct_ias (k2 := 26) hx hb hK rfl (by decide +kernel) (by decide +kernel) (by unfold vp_in; decide +kernel) ct_y644 hP hD hS (fun H locs hP hD hS => ?_)
  refine lv_dup hx hb ct_y645 rfl ?_
  refine lv_bipush (v := 26) hx hb ct_y646 (by decide +kernel) ?_
  refine lv_bipush (v := 116) hx hb ct_y648 (by decide +kernel) ?_
  refine ct_ias (k2 := 27) hx hb hK rfl (by decide +kernel) (by decide +kernel) (by unfold vp_in; decide +kernel) ct_y650 hP hD hS (fun H locs hP hD hS => ?_)
  refine lv_dup hx hb ct_y651 rfl ?_
  refine lv_bipush (v := 27) hx hb ct_y652 (by decide +kernel) ?_
  refine lv_bipush (v := 99) hx hb ct_y654 (by decide +kernel) ?_
  refine ct_ias (k2 := 28) hx hb hK rfl (by decide +kernel) (by decide +kernel) (by unfold vp_in; decide +kernel) ct_y656 hP hD hS (fun H locs hP hD hS => ?_)
  refine lv_dup hx hb ct_y657 rfl ?_
  refine lv_bipush (v := 28) hx hb ct_y658 (by decide +kernel) ?_
  refine lv_bipush (v := 104) hx hb ct_y660 (by decide +kernel) ?_
  refine ct_ias (k2 := 29) hx hb hK rfl (by decide +kernel) (by decide +kernel) (by unfold vp_in; decide +kernel) ct_y662 hP hD hS (fun H locs hP hD hS => ?_)
  refine lv_dup hx hb ct_y663 rfl ?_
  refine lv_bipush (v := 29) hx hb ct_y664 (by decide +kernel) ?_
  refine lv_bipush (v := 32) hx hb ct_y666 (by decide +kernel) ?_
  refine ct_ias (k2 := 30) hx hb hK rfl (by decide +kernel) (by decide +kernel) (by unfold vp_in; decide +kernel) ct_y668 hP hD hS (fun H locs hP hD hS => ?_)
  refine lv_dup hx hb ct_y669 rfl ?_
  refine lv_bipush (v := 30) hx hb ct_y670 (by decide +kernel) ?_
  refine lv_bipush (v := 32) hx hb ct_y672 (by decide +kernel) ?_
  refine ct_ias (k2 := 31) hx hb hK rfl (by decide +kernel) (by decide +kernel) (by unfold vp_in; decide +kernel) ct_y674 hP hD hS (fun H locs hP hD hS => ?_)
  refine lv_dup hx hb ct_y675 rfl ?_
  refine lv_bipush (v := 31) hx hb ct_y676 (by decide +kernel) ?_
  refine lv_bipush (v := 32) hx hb ct_y678 (by decide +kernel) ?_
  refine ct_ias (k2 := 32) hx hb hK rfl (by decide +kernel) (by decide +kernel) (by unfold vp_in; decide +kernel) ct_y680 hP hD hS (fun H locs hP hD hS => ?_)
  refine lv_dup hx hb ct_y681 rfl ?_
  refine lv_bipush (v := 32) hx hb ct_y682 (by decide +kernel) ?_
  refine lv_bipush (v := 97) hx hb ct_y684 (by decide +kernel) ?_
  refine ct_ias (k2 := 33) hx hb hK rfl (by decide +kernel) (by decide +kernel) (by unfold vp_in; decide +kernel) ct_y686 hP hD hS (fun H locs hP hD hS => ?_)
  refine lv_dup hx hb ct_y687 rfl ?_
  refine lv_bipush (v := 33) hx hb ct_y688 (by decide +kernel) ?_
  refine lv_bipush (v := 102) hx hb ct_y690 (by decide +kernel) ?_
  refine ct_ias (k2 := 34) hx hb hK rfl (by decide +kernel) (by decide +kernel) (by unfold vp_in; decide +kernel) ct_y692 hP hD hS (fun H locs hP hD hS => ?_)
  refine lv_dup hx hb ct_y693 rfl ?_
  refine lv_bipush (v := 34) hx hb ct_y694 (by decide +kernel) ?_
  refine lv_bipush (v := 116) hx hb ct_y696 (by decide +kernel) ?_
  refine ct_ias (k2 := 35) hx hb hK rfl (by decide +kernel) (by decide +kernel) (by unfold vp_in; decide +kernel) ct_y698 hP hD hS (fun H locs hP hD hS => ?_)
  refine lv_dup hx hb ct_y699 rfl ?_
  refine lv_bipush (v := 35) hx hb ct_y700 (by decide +kernel) ?_
  refine lv_bipush (v := 101) hx hb ct_y702 (by decide +kernel) ?_
  refine ct_ias (k2 := 36) hx hb hK rfl (by decide +kernel) (by decide +kernel) (by unfold vp_in; decide +kernel) ct_y704 hP hD hS (fun H locs hP hD hS => ?_)
  refine lv_dup hx hb ct_y705 rfl ?_
  refine lv_bipush (v := 36) hx hb ct_y706 (by decide +kernel) ?_
  refine lv_bipush (v := 114) hx hb ct_y708 (by decide +kernel) ?_
  refine ct_ias (k2 := 37) hx hb hK rfl (by decide +kernel) (by decide +kernel) (by unfold vp_in; decide +kernel) ct_y710 hP hD hS (fun H locs hP hD hS => ?_)
  refine lv_dup hx hb ct_y711 rfl ?_
  refine lv_bipush (v := 37) hx hb ct_y712 (by decide +kernel) ?_
  refine lv_bipush (v := 32) hx hb ct_y714 (by decide +kernel) ?_
  refine ct_ias (k2 := 38) hx hb hK rfl (by decide +kernel) (by decide +kernel) (by unfold vp_in; decide +kernel) ct_y716 hP hD hS (fun H locs hP hD hS => ?_)
  refine lv_dup hx hb ct_y717 rfl ?_
  refine lv_bipush (v := 38) hx hb ct_y718 (by decide +kernel) ?_
  refine lv_bipush (v := 32) hx hb ct_y720 (by decide +kernel) ?_
  refine ct_ias (k2 := 39) hx hb hK rfl (by decide +kernel) (by decide +kernel) (by unfold vp_in; decide +kernel) ct_y722 hP hD hS (fun H locs hP hD hS => ?_)
  refine lv_dup hx hb ct_y723 rfl ?_
  refine lv_bipush (v := 39) hx hb ct_y724 (by decide +kernel) ?_
  refine lv_bipush (v := 32) hx hb ct_y726 (by decide +kernel) ?_
  refine ct_ias (k2 := 40) hx hb hK rfl (by decide +kernel) (by decide +kernel) (by unfold vp_in; decide +kernel) ct_y728 hP hD hS (fun H locs hP hD hS => ?_)
  refine lv_dup hx hb ct_y729 rfl ?_
  refine lv_bipush (v := 40) hx hb ct_y730 (by decide +kernel) ?_
  refine lv_bipush (v := 111) hx hb ct_y732 (by decide +kernel) ?_
  refine ct_ias (k2 := 41) hx hb hK rfl (by decide +kernel) (by decide +kernel) (by unfold vp_in; decide +kernel) ct_y734 hP hD hS (fun H locs hP hD hS => ?_)
  refine lv_dup hx hb ct_y735 rfl ?_
  refine lv_bipush (v := 41) hx hb ct_y736 (by decide +kernel) ?_
  refine lv_bipush (v := 102) hx hb ct_y738 (by decide +kernel) ?_
  refine ct_ias (k2 := 42) hx hb hK rfl (by decide +kernel) (by decide +kernel) (by unfold vp_in; decide +kernel) ct_y740 hP hD hS (fun H locs hP hD hS => ?_)
  refine lv_dup hx hb ct_y741 rfl ?_
  refine lv_bipush (v := 42) hx hb ct_y742 (by decide +kernel) ?_
  refine lv_bipush (v := 102) hx hb ct_y744 (by decide +kernel) ?_
  refine ct_ias (k2 := 43) hx hb hK rfl (by decide +kernel) (by decide +kernel) (by unfold vp_in; decide +kernel) ct_y746 hP hD hS (fun H locs hP hD hS => ?_)
  refine lv_dup hx hb ct_y747 rfl ?_
  refine lv_bipush (v := 43) hx hb ct_y748 (by decide +kernel) ?_
  refine lv_bipush (v := 32) hx hb ct_y750 (by decide +kernel) ?_
  refine ct_ias (k2 := 44) hx hb hK rfl (by decide +kernel) (by decide +kernel) (by unfold vp_in; decide +kernel) ct_y752 hP hD hS (fun H locs hP hD hS => ?_)
  refine lv_dup hx hb ct_y753 rfl ?_
  refine lv_bipush (v := 44) hx hb ct_y754 (by decide +kernel) ?_
  refine lv_bipush (v := 32) hx hb ct_y756 (by decide +kernel) ?_
  refine ct_ias (k2 := 45) hx hb hK rfl (by decide +kernel) (by decide +kernel) (by unfold vp_in; decide +kernel) ct_y758 hP hD hS (fun H locs hP hD hS => ?_)
  refine lv_dup hx hb ct_y759 rfl ?_
  refine lv_bipush (v := 45) hx hb ct_y760 (by decide +kernel) ?_
  refine lv_bipush (v := 32) hx hb ct_y762 (by decide +kernel) ?_
  refine ct_ias (k2 := 46) hx hb hK rfl (by decide +kernel) (by decide +kernel) (by unfold vp_in; decide +kernel) ct_y764 hP hD hS (fun H locs hP hD hS => ?_)
  refine lv_dup hx hb ct_y765 rfl ?_
  refine lv_bipush (v := 46) hx hb ct_y766 (by decide +kernel) ?_
  refine lv_bipush (v := 32) hx hb ct_y768 (by decide +kernel) ?_
  refine ct_ias (k2 := 47) hx hb hK rfl (by decide +kernel) (by decide +kernel) (by unfold vp_in; decide +kernel) ct_y770 hP hD hS (fun H locs hP hD hS => ?_)
  refine lv_dup hx hb ct_y771 rfl ?_
  refine lv_bipush (v := 47) hx hb ct_y772 (by decide +kernel) ?_
  refine lv_bipush (v := 32) hx hb ct_y774 (by decide +kernel) ?_
  refine ct_ias (k2 := 48) hx hb hK rfl (by decide +kernel) (by decide +kernel) (by unfold vp_in; decide +kernel) ct_y776 hP hD hS (fun H locs hP hD hS => ?_)
  refine lv_dup hx hb ct_y777 rfl ?_
  refine lv_bipush (v := 48) hx hb ct_y778 (by decide +kernel) ?_
  refine lv_bipush (v := 111) hx hb ct_y780 (by decide +kernel) ?_
  refine ct_ias (k2 := 49) hx hb hK rfl (by decide +kernel) (by decide +kernel) (by unfold vp_in; decide +kernel) ct_y782 hP hD hS (fun H locs hP hD hS => ?_)
  refine lv_dup hx hb ct_y783 rfl ?_
  refine lv_bipush (v := 49) hx hb ct_y784 (by decide +kernel) ?_
  refine lv_bipush (v := 118) hx hb ct_y786 (by decide +kernel) ?_
  refine ct_ias (k2 := 50) hx hb hK rfl (by decide +kernel) (by decide +kernel) (by unfold vp_in; decide +kernel) ct_y788 hP hD hS (fun H locs hP hD hS => ?_)
  refine lv_dup hx hb ct_y789 rfl ?_
  refine lv_bipush (v := 50) hx hb ct_y790 (by decide +kernel) ?_
  refine lv_bipush (v := 101) hx hb ct_y792 (by decide +kernel) ?_
  refine ct_ias (k2 := 51) hx hb hK rfl (by decide +kernel) (by decide +kernel) (by unfold vp_in; decide +kernel) ct_y794 hP hD hS (fun H locs hP hD hS => ?_)
  refine lv_dup hx hb ct_y795 rfl ?_
  refine lv_bipush (v := 51) hx hb ct_y796 (by decide +kernel) ?_
  refine lv_bipush (v := 114) hx hb ct_y798 (by decide +kernel) ?_
  refine ct_ias (k2 := 52) hx hb hK rfl (by decide +kernel) (by decide +kernel) (by unfold vp_in; decide +kernel) ct_y800 hP hD hS (fun H locs hP hD hS => ?_)
  refine lv_dup hx hb ct_y801 rfl ?_
  refine lv_bipush (v := 52) hx hb ct_y802 (by decide +kernel) ?_
  refine lv_bipush (v := 32) hx hb ct_y804 (by decide +kernel) ?_
  refine ct_ias (k2 := 53) hx hb hK rfl (by decide +kernel) (by decide +kernel) (by unfold vp_in; decide +kernel) ct_y806 hP hD hS (fun H locs hP hD hS => ?_)
  refine lv_dup hx hb ct_y807 rfl ?_
  refine lv_bipush (v := 53) hx hb ct_y808 (by decide +kernel) ?_
  refine lv_bipush (v := 32) hx hb ct_y810 (by decide +kernel) ?_
  refine ct_ias (k2 := 54) hx hb hK rfl (by decide +kernel) (by decide +kernel) (by unfold vp_in; decide +kernel) ct_y812 hP hD hS (fun H locs hP hD hS => ?_)
  refine lv_dup hx hb ct_y813 rfl ?_
  refine lv_bipush (v := 54) hx hb ct_y814 (by decide +kernel) ?_
  refine lv_bipush (v := 32) hx hb ct_y816 (by decide +kernel) ?_
  refine ct_ias (k2 := 55) hx hb hK rfl (by decide +kernel) (by decide +kernel) (by unfold vp_in; decide +kernel) ct_y818 hP hD hS (fun H locs hP hD hS => ?_)
  refine lv_dup hx hb ct_y819 rfl ?_
  refine lv_bipush (v := 55) hx hb ct_y820 (by decide +kernel) ?_
  refine lv_bipush (v := 32) hx hb ct_y822 (by decide +kernel) ?_
  refine ct_ias (k2 := 56) hx hb hK rfl (by decide +kernel) (by decide +kernel) (by unfold vp_in; decide +kernel) ct_y824 hP hD hS (fun H locs hP hD hS => ?_)
  refine lv_dup hx hb ct_y825 rfl ?_
  refine lv_bipush (v := 56) hx hb ct_y826 (by decide +kernel) ?_
  refine lv_bipush (v := 109) hx hb ct_y828 (by decide +kernel) ?_
  refine ct_ias (k2 := 57) hx hb hK rfl (by decide +kernel) (by decide +kernel) (by unfold vp_in; decide +kernel) ct_y830 hP hD hS (fun H locs hP hD hS => ?_)
  refine lv_dup hx hb ct_y831 rfl ?_
  refine lv_bipush (v := 57) hx hb ct_y832 (by decide +kernel) ?_
  refine lv_bipush (v := 111) hx hb ct_y834 (by decide +kernel) ?_
  refine ct_ias (k2 := 58) hx hb hK rfl (by decide +kernel) (by decide +kernel) (by unfold vp_in; decide +kernel) ct_y836 hP hD hS (fun H locs hP hD hS => ?_)
  refine lv_dup hx hb ct_y837 rfl ?_
  refine lv_bipush (v := 58) hx hb ct_y838 (by decide +kernel) ?_
  refine lv_bipush (v := 114) hx hb ct_y840 (by decide +kernel) ?_
  refine ct_ias (k2 := 59) hx hb hK rfl (by decide +kernel) (by decide +kernel) (by unfold vp_in; decide +kernel) ct_y842 hP hD hS (fun H locs hP hD hS => ?_)
  refine lv_dup hx hb ct_y843 rfl ?_
  refine lv_bipush (v := 59) hx hb ct_y844 (by decide +kernel) ?_
  refine lv_bipush (v := 101) hx hb ct_y846 (by decide +kernel) ?_
  refine ct_ias (k2 := 60) hx hb hK rfl (by decide +kernel) (by decide +kernel) (by unfold vp_in; decide +kernel) ct_y848 hP hD hS (fun H locs hP hD hS => ?_)
  refine lv_dup hx hb ct_y849 rfl ?_
  refine lv_bipush (v := 60) hx hb ct_y850 (by decide +kernel) ?_
  refine lv_bipush (v := 32) hx hb ct_y852 (by decide +kernel) ?_
  refine ct_ias (k2 := 61) hx hb hK rfl (by decide +kernel) (by decide +kernel) (by unfold vp_in; decide +kernel) ct_y854 hP hD hS (fun H locs hP hD hS => ?_)
  refine lv_dup hx hb ct_y855 rfl ?_
  refine lv_bipush (v := 61) hx hb ct_y856 (by decide +kernel) ?_
  refine lv_bipush (v := 32) hx hb ct_y858 (by decide +kernel) ?_
  refine ct_ias (k2 := 62) hx hb hK rfl (by decide +kernel) (by decide +kernel) (by unfold vp_in; decide +kernel) ct_y860 hP hD hS (fun H locs hP hD hS => ?_)
  refine lv_dup hx hb ct_y861 rfl ?_
  refine lv_bipush (v := 62) hx hb ct_y862 (by decide +kernel) ?_
  refine lv_bipush (v := 32) hx hb ct_y864 (by decide +kernel) ?_
  refine ct_ias (k2 := 63) hx hb hK rfl (by decide +kernel) (by decide +kernel) (by unfold vp_in; decide +kernel) ct_y866 hP hD hS (fun H locs hP hD hS => ?_)
  refine lv_dup hx hb ct_y867 rfl ?_
  refine lv_bipush (v := 63) hx hb ct_y868 (by decide +kernel) ?_
  refine lv_bipush (v := 32) hx hb ct_y870 (by decide +kernel) ?_
  refine ct_ias (k2 := 64) hx hb hK rfl (by decide +kernel) (by decide +kernel) (by unfold vp_in; decide +kernel) ct_y872 hP hD hS (fun H locs hP hD hS => ?_)
  refine lv_dup hx hb ct_y873 rfl ?_
  refine lv_bipush (v := 64) hx hb ct_y874 (by decide +kernel) ?_
  refine lv_bipush (v := 112) hx hb ct_y876 (by decide +kernel) ?_
  refine ct_ias (k2 := 65) hx hb hK rfl (by decide +kernel) (by decide +kernel) (by unfold vp_in; decide +kernel) ct_y878 hP hD hS (fun H locs hP hD hS => ?_)
  refine lv_dup hx hb ct_y879 rfl ?_
  refine lv_bipush (v := 65) hx hb ct_y880 (by decide +kernel) ?_
  refine lv_bipush (v := 114) hx hb ct_y882 (by decide +kernel) ?_
  refine ct_ias (k2 := 66) hx hb hK rfl (by decide +kernel) (by decide +kernel) (by unfold vp_in; decide +kernel) ct_y884 hP hD hS (fun H locs hP hD hS => ?_)
  refine lv_dup hx hb ct_y885 rfl ?_
  refine lv_bipush (v := 66) hx hb ct_y886 (by decide +kernel) ?_
  refine lv_bipush (v := 105) hx hb ct_y888 (by decide +kernel) ?_
  refine ct_ias (k2 := 67) hx hb hK rfl (by decide +kernel) (by decide +kernel) (by unfold vp_in; decide +kernel) ct_y890 hP hD hS (fun H locs hP hD hS => ?_)
  refine lv_dup hx hb ct_y891 rfl ?_
  refine lv_bipush (v := 67) hx hb ct_y892 (by decide +kernel) ?_
  refine lv_bipush (v := 99) hx hb ct_y894 (by decide +kernel) ?_
  refine ct_ias (k2 := 68) hx hb hK rfl (by decide +kernel) (by decide +kernel) (by unfold vp_in; decide +kernel) ct_y896 hP hD hS (fun H locs hP hD hS => ?_)
  refine lv_dup hx hb ct_y897 rfl ?_
  refine lv_bipush (v := 68) hx hb ct_y898 (by decide +kernel) ?_
  refine lv_bipush (v := 101) hx hb ct_y900 (by decide +kernel) ?_
  refine ct_ias (k2 := 69) hx hb hK rfl (by decide +kernel) (by decide +kernel) (by unfold vp_in; decide +kernel) ct_y902 hP hD hS (fun H locs hP hD hS => ?_)
  refine lv_dup hx hb ct_y903 rfl ?_
  refine lv_bipush (v := 69) hx hb ct_y904 (by decide +kernel) ?_
  refine lv_bipush (v := 32) hx hb ct_y906 (by decide +kernel) ?_
  refine ct_ias (k2 := 70) hx hb hK rfl (by decide +kernel) (by decide +kernel) (by unfold vp_in; decide +kernel) ct_y908 hP hD hS (fun H locs hP hD hS => ?_)
  refine lv_dup hx hb ct_y909 rfl ?_
  refine lv_bipush (v := 70) hx hb ct_y910 (by decide +kernel) ?_
  refine lv_bipush (v := 32) hx hb ct_y912 (by decide +kernel) ?_
  refine ct_ias (k2 := 71) hx hb hK rfl (by decide +kernel) (by decide +kernel) (by unfold vp_in; decide +kernel) ct_y914 hP hD hS (fun H locs hP hD hS => ?_)
  refine lv_dup hx hb ct_y915 rfl ?_
  refine lv_bipush (v := 71) hx hb ct_y916 (by decide +kernel) ?_
  refine lv_bipush (v := 32) hx hb ct_y918 (by decide +kernel) ?_
  refine ct_ias (k2 := 72) hx hb hK rfl (by decide +kernel) (by decide +kernel) (by unfold vp_in; decide +kernel) ct_y920 hP hD hS (fun H locs hP hD hS => ?_)
  refine lv_dup hx hb ct_y921 rfl ?_
  refine lv_bipush (v := 72) hx hb ct_y922 (by decide +kernel) ?_
  refine lv_bipush (v := 111) hx hb ct_y924 (by decide +kernel) ?_
  refine ct_ias (k2 := 73) hx hb hK rfl (by decide +kernel) (by decide +kernel) (by unfold vp_in; decide +kernel) ct_y926 hP hD hS (fun H locs hP hD hS => ?_)
  refine lv_dup hx hb ct_y927 rfl ?_
  refine lv_bipush (v := 73) hx hb ct_y928 (by decide +kernel) ?_
  refine lv_bipush (v := 114) hx hb ct_y930 (by decide +kernel) ?_
  refine ct_ias (k2 := 74) hx hb hK rfl (by decide +kernel) (by decide +kernel) (by unfold vp_in; decide +kernel) ct_y932 hP hD hS (fun H locs hP hD hS => ?_)
  refine lv_dup hx hb ct_y933 rfl ?_
  refine lv_bipush (v := 74) hx hb ct_y934 (by decide +kernel) ?_
  refine lv_bipush (v := 32) hx hb ct_y936 (by decide +kernel) ?_
  refine ct_ias (k2 := 75) hx hb hK rfl (by decide +kernel) (by decide +kernel) (by unfold vp_in; decide +kernel) ct_y938 hP hD hS (fun H locs hP hD hS => ?_)
  refine lv_dup hx hb ct_y939 rfl ?_
  refine lv_bipush (v := 75) hx hb ct_y940 (by decide +kernel) ?_
  refine lv_bipush (v := 32) hx hb ct_y942 (by decide +kernel) ?_
  refine ct_ias (k2 := 76) hx hb hK rfl (by decide +kernel) (by decide +kernel) (by unfold vp_in; decide +kernel) ct_y944 hP hD hS (fun H locs hP hD hS => ?_)
  refine lv_dup hx hb ct_y945 rfl ?_
  refine lv_bipush (v := 76) hx hb ct_y946 (by decide +kernel) ?_
  refine lv_bipush (v := 32) hx hb ct_y948 (by decide +kernel) ?_
  refine ct_ias (k2 := 77) hx hb hK rfl (by decide +kernel) (by decide +kernel) (by unfold vp_in; decide +kernel) ct_y950 hP hD hS (fun H locs hP hD hS => ?_)
  refine lv_dup hx hb ct_y951 rfl ?_
  refine lv_bipush (v := 77) hx hb ct_y952 (by decide +kernel) ?_
  refine lv_bipush (v := 32) hx hb ct_y954 (by decide +kernel) ?_
  refine ct_ias (k2 := 78) hx hb hK rfl (by decide +kernel) (by decide +kernel) (by unfold vp_in; decide +kernel) ct_y956 hP hD hS (fun H locs hP hD hS => ?_)
  refine lv_dup hx hb ct_y957 rfl ?_
  refine lv_bipush (v := 78) hx hb ct_y958 (by decide +kernel) ?_
  refine lv_bipush (v := 32) hx hb ct_y960 (by decide +kernel) ?_
  refine ct_ias (k2 := 79) hx hb hK rfl (by decide +kernel) (by decide +kernel) (by unfold vp_in; decide +kernel) ct_y962 hP hD hS (fun H locs hP hD hS => ?_)
  refine lv_dup hx hb ct_y963 rfl ?_
  refine lv_bipush (v := 79) hx hb ct_y964 (by decide +kernel) ?_
  refine lv_bipush (v := 32) hx hb ct_y966 (by decide +kernel) ?_
  refine ct_ias (k2 := 80) hx hb hK rfl (by decide +kernel) (by decide +kernel) (by unfold vp_in; decide +kernel) ct_y968 hP hD hS (fun H locs hP hD hS => ?_)
  refine lv_dup hx hb ct_y969 rfl ?_
  refine lv_bipush (v := 80) hx hb ct_y970 (by decide +kernel) ?_
  refine lv_bipush (v := 97) hx hb ct_y972 (by decide +kernel) ?_
  refine ct_ias (k2 := 81) hx hb hK rfl (by decide +kernel) (by decide +kernel) (by unfold vp_in; decide +kernel) ct_y974 hP hD hS (fun H locs hP hD hS => ?_)
  refine lv_dup hx hb ct_y975 rfl ?_
  refine lv_bipush (v := 81) hx hb ct_y976 (by decide +kernel) ?_
  refine lv_bipush (v := 110) hx hb ct_y978 (by decide +kernel) ?_
  refine ct_ias (k2 := 82) hx hb hK rfl (by decide +kernel) (by decide +kernel) (by unfold vp_in; decide +kernel) ct_y980 hP hD hS (fun H locs hP hD hS => ?_)
  refine lv_dup hx hb ct_y981 rfl ?_
  refine lv_bipush (v := 82) hx hb ct_y982 (by decide +kernel) ?_
  refine lv_bipush (v := 100) hx hb ct_y984 (by decide +kernel) ?_
  refine ct_ias (k2 := 83) hx hb hK rfl (by decide +kernel) (by decide +kernel) (by unfold vp_in; decide +kernel) ct_y986 hP hD hS (fun H locs hP hD hS => ?_)
  refine lv_dup hx hb ct_y987 rfl ?_
  refine lv_bipush (v := 83) hx hb ct_y988 (by decide +kernel) ?_
  refine lv_bipush (v := 32) hx hb ct_y990 (by decide +kernel) ?_
  refine ct_ias (k2 := 84) hx hb hK rfl (by decide +kernel) (by decide +kernel) (by unfold vp_in; decide +kernel) ct_y992 hP hD hS (fun H locs hP hD hS => ?_)
  refine lv_dup hx hb ct_y993 rfl ?_
  refine lv_bipush (v := 84) hx hb ct_y994 (by decide +kernel) ?_
  refine lv_bipush (v := 32) hx hb ct_y996 (by decide +kernel) ?_
  refine ct_ias (k2 := 85) hx hb hK rfl (by decide +kernel) (by decide +kernel) (by unfold vp_in; decide +kernel) ct_y998 hP hD hS (fun H locs hP hD hS => ?_)
  refine lv_dup hx hb ct_y999 rfl ?_
  refine lv_bipush (v := 85) hx hb ct_y1000 (by decide +kernel) ?_
  refine lv_bipush (v := 32) hx hb ct_y1002 (by decide +kernel) ?_
  refine ct_ias (k2 := 86) hx hb hK rfl (by decide +kernel) (by decide +kernel) (by unfold vp_in; decide +kernel) ct_y1004 hP hD hS (fun H locs hP hD hS => ?_)
  refine lv_dup hx hb ct_y1005 rfl ?_
  refine lv_bipush (v := 86) hx hb ct_y1006 (by decide +kernel) ?_
  refine lv_bipush (v := 32) hx hb ct_y1008 (by decide +kernel) ?_
  refine ct_ias (k2 := 87) hx hb hK rfl (by decide +kernel) (by decide +kernel) (by unfold vp_in; decide +kernel) ct_y1010 hP hD hS (fun H locs hP hD hS => ?_)
  refine lv_dup hx hb ct_y1011 rfl ?_
  refine lv_bipush (v := 87) hx hb ct_y1012 (by decide +kernel) ?_
  refine lv_bipush (v := 32) hx hb ct_y1014 (by decide +kernel) ?_
  refine ct_ias (k2 := 88) hx hb hK rfl (by decide +kernel) (by decide +kernel) (by unfold vp_in; decide +kernel) ct_y1016 hP hD hS (fun H locs hP hD hS => ?_)
  refine lv_dup hx hb ct_y1017 rfl ?_
  refine lv_bipush (v := 88) hx hb ct_y1018 (by decide +kernel) ?_
  refine lv_bipush (v := 110) hx hb ct_y1020 (by decide +kernel) ?_
  refine ct_ias (k2 := 89) hx hb hK rfl (by decide +kernel) (by decide +kernel) (by unfold vp_in; decide +kernel) ct_y1022 hP hD hS (fun H locs hP hD hS => ?_)
  refine lv_dup hx hb ct_y1023 rfl ?_
  refine lv_bipush (v := 89) hx hb ct_y1024 (by decide +kernel) ?_
  refine lv_bipush (v := 111) hx hb ct_y1026 (by decide +kernel) ?_
  refine ct_ias (k2 := 90) hx hb hK rfl (by decide +kernel) (by decide +kernel) (by unfold vp_in; decide +kernel) ct_y1028 hP hD hS (fun H locs hP hD hS => ?_)
  refine lv_dup hx hb ct_y1029 rfl ?_
  refine lv_bipush (v := 90) hx hb ct_y1030 (by decide +kernel) ?_
  refine lv_bipush (v := 116) hx hb ct_y1032 (by decide +kernel) ?_
  refine ct_ias (k2 := 91) hx hb hK rfl (by decide +kernel) (by decide +kernel) (by unfold vp_in; decide +kernel) ct_y1034 hP hD hS (fun H locs hP hD hS => ?_)
  refine lv_dup hx hb ct_y1035 rfl ?_
  refine lv_bipush (v := 91) hx hb ct_y1036 (by decide +kernel) ?_
  refine lv_bipush (v := 32) hx hb ct_y1038 (by decide +kernel) ?_
  refine ct_ias (k2 := 92) hx hb hK rfl (by decide +kernel) (by decide +kernel) (by unfold vp_in; decide +kernel) ct_y1040 hP hD hS (fun H locs hP hD hS => ?_)
  refine lv_dup hx hb ct_y1041 rfl ?_
  refine lv_bipush (v := 92) hx hb ct_y1042 (by decide +kernel) ?_
  refine lv_bipush (v := 32) hx hb ct_y1044 (by decide +kernel) ?_
  refine ct_ias (k2 := 93) hx hb hK rfl (by decide +kernel) (by decide +kernel) (by unfold vp_in; decide +kernel) ct_y1046 hP hD hS (fun H locs hP hD hS => ?_)
  refine lv_dup hx hb ct_y1047 rfl ?_
  refine lv_bipush (v := 93) hx hb ct_y1048 (by decide +kernel) ?_
  refine lv_bipush (v := 32) hx hb ct_y1050 (by decide +kernel) ?_
  refine ct_ias (k2 := 94) hx hb hK rfl (by decide +kernel) (by decide +kernel) (by unfold vp_in; decide +kernel) ct_y1052 hP hD hS (fun H locs hP hD hS => ?_)
  refine lv_dup hx hb ct_y1053 rfl ?_
  refine lv_bipush (v := 94) hx hb ct_y1054 (by decide +kernel) ?_
  refine lv_bipush (v := 32) hx hb ct_y1056 (by decide +kernel) ?_
  refine ct_ias (k2 := 95) hx hb hK rfl (by decide +kernel) (by decide +kernel) (by unfold vp_in; decide +kernel) ct_y1058 hP hD hS (fun H locs hP hD hS => ?_)
  refine lv_dup hx hb ct_y1059 rfl ?_
  refine lv_bipush (v := 95) hx hb ct_y1060 (by decide +kernel) ?_
  refine lv_bipush (v := 32) hx hb ct_y1062 (by decide +kernel) ?_
  refine ct_ias (k2 := 96) hx hb hK rfl (by decide +kernel) (by decide +kernel) (by unfold vp_in; decide +kernel) ct_y1064 hP hD hS (fun H locs hP hD hS => ?_)
  refine va_putF (D := (dC, dI)) (ci := 8) (v := .ref y13) (ty := .array .int) (C := RX8) (T := TX8) (N := 36) hx hb hts (ct_u 8 (by decide)) tyX8 tyX8_ok nmX8 hown hK hP hD hS 0 rfl rfl 24 (by decide) (hts (.fieldLink RX8 49 "JustFivePoundsModel" "words" "[I") (ct_m 84 rfl)) (fun _ h9 => h9) rfl hin rfl (by decide +kernel) rfl rfl (Nat.le_of_ble_eq_true rfl) ct_y1065 (fun H locs hP hD hS => ?_)
  have hP : va_P (dC, dI) vwCl [(h8, .inr (8, [.ref y0, .int (i3 0), .ref y1, .ref y2, .ref y3, .ref y4, .ref y5, .int (i3 0), .ref y6, .ref y7, .int (i3 0), .int (i3 0), .int (i3 0), .int (i3 0), .int (i3 0), .ref y8, .ref y9, .ref y10, .ref y11, .ref y12, .int (i3 0), .int (i3 0), .int (i3 0), .int (i3 0), .ref y13, .null, .int (i3 0), .int (i3 0), .int (i3 0), .null, .null, .null, .null, .null, .int (i3 0), .int (i3 0)])), (y0, .inl (cI, (4, .inl (ct_f ct_pump 4)))), (y1, .inl (cI, (5, .inl fun _ => i3 0))), (y2, .inl (cI, (5, .inl fun _ => i3 0))), (y3, .inl (cI, (10, .inl fun _ => i3 0))), (y4, .inl (cI, (3, .inl fun _ => i3 0))), (y5, .inl (cI, (160, .inl fun _ => i3 0))), (y6, .inl (cI, (1200, .inl fun _ => i3 0))), (y7, .inl (cI, (24, .inl fun _ => i3 0))), (y8, .inl (cI, (17, .inl fun _ => i3 0))), (y9, .inl (cI, (4, .inl (ct_f ct_sort 4)))), (y10, .inl (cI, (4, .inl fun _ => i3 0))), (y11, .inl (cI, (160, .inl fun _ => i3 0))), (y12, .inl (cI, (59, .inl (ct_f ct_law 59)))), (y13, .inl (cI, (96, .inl (ct_f mo_words 96))))] H := hP
  have hD : va_D A [(h8, .inr (8, [.ref y0, .int (i3 0), .ref y1, .ref y2, .ref y3, .ref y4, .ref y5, .int (i3 0), .ref y6, .ref y7, .int (i3 0), .int (i3 0), .int (i3 0), .int (i3 0), .int (i3 0), .ref y8, .ref y9, .ref y10, .ref y11, .ref y12, .int (i3 0), .int (i3 0), .int (i3 0), .int (i3 0), .ref y13, .null, .int (i3 0), .int (i3 0), .int (i3 0), .null, .null, .null, .null, .null, .int (i3 0), .int (i3 0)])), (y0, .inl (cI, (4, .inl (ct_f ct_pump 4)))), (y1, .inl (cI, (5, .inl fun _ => i3 0))), (y2, .inl (cI, (5, .inl fun _ => i3 0))), (y3, .inl (cI, (10, .inl fun _ => i3 0))), (y4, .inl (cI, (3, .inl fun _ => i3 0))), (y5, .inl (cI, (160, .inl fun _ => i3 0))), (y6, .inl (cI, (1200, .inl fun _ => i3 0))), (y7, .inl (cI, (24, .inl fun _ => i3 0))), (y8, .inl (cI, (17, .inl fun _ => i3 0))), (y9, .inl (cI, (4, .inl (ct_f ct_sort 4)))), (y10, .inl (cI, (4, .inl fun _ => i3 0))), (y11, .inl (cI, (160, .inl fun _ => i3 0))), (y12, .inl (cI, (59, .inl (ct_f ct_law 59)))), (y13, .inl (cI, (96, .inl (ct_f mo_words 96))))] := hD
  refine lv_aload_n hx hb ct_y1068 rfl (lv_at hl 0 rfl) ?_
  refine lv_sipush (v := 200) hx hb ct_y1069 (by decide +kernel) ?_
  refine va_newa (atype := .int) (a0 := (200, .inl fun _ => i3 0)) (N' := 200) hx hb (hts (.arrayClass .int) (ct_m 2 rfl)) rfl hK hP hD hS hA (fun cA => by rw [i3_zero]; rfl) (by decide +kernel) (by decide +kernel) (Nat.le_of_ble_eq_true rfl) (by omega) (by omega) ct_y1072 (fun y14 c1 H hK hP hD hS => ?_)
  obtain rfl : cI = c1 := ct_int1 (hK.2 0 _ rfl).2 (hK.2 1 _ rfl).2
  have hK : va_K (dC, dI) vwCl [(cI, .int)] s := hK.sub [0] rfl
  refine W.widen (k := cells + 15) (n := slots + 1951) (by omega) (by omega) ?_
  refine va_putF (D := (dC, dI)) (ci := 8) (v := .ref y14) (ty := .array .int) (C := RX8) (T := TX8) (N := 36) hx hb hts (ct_u 8 (by decide)) tyX8 tyX8_ok nmX8 hown hK hP hD hS 0 rfl rfl 25 (by decide) (hts (.fieldLink RX8 52 "JustFivePoundsModel" "held" "[I") (ct_m 85 rfl)) (fun _ h9 => h9) rfl hin rfl (by decide +kernel) rfl rfl (Nat.le_of_ble_eq_true rfl) ct_y1074 (fun H locs hP hD hS => ?_)
  have hP : va_P (dC, dI) vwCl [(h8, .inr (8, [.ref y0, .int (i3 0), .ref y1, .ref y2, .ref y3, .ref y4, .ref y5, .int (i3 0), .ref y6, .ref y7, .int (i3 0), .int (i3 0), .int (i3 0), .int (i3 0), .int (i3 0), .ref y8, .ref y9, .ref y10, .ref y11, .ref y12, .int (i3 0), .int (i3 0), .int (i3 0), .int (i3 0), .ref y13, .ref y14, .int (i3 0), .int (i3 0), .int (i3 0), .null, .null, .null, .null, .null, .int (i3 0), .int (i3 0)])), (y0, .inl (cI, (4, .inl (ct_f ct_pump 4)))), (y1, .inl (cI, (5, .inl fun _ => i3 0))), (y2, .inl (cI, (5, .inl fun _ => i3 0))), (y3, .inl (cI, (10, .inl fun _ => i3 0))), (y4, .inl (cI, (3, .inl fun _ => i3 0))), (y5, .inl (cI, (160, .inl fun _ => i3 0))), (y6, .inl (cI, (1200, .inl fun _ => i3 0))), (y7, .inl (cI, (24, .inl fun _ => i3 0))), (y8, .inl (cI, (17, .inl fun _ => i3 0))), (y9, .inl (cI, (4, .inl (ct_f ct_sort 4)))), (y10, .inl (cI, (4, .inl fun _ => i3 0))), (y11, .inl (cI, (160, .inl fun _ => i3 0))), (y12, .inl (cI, (59, .inl (ct_f ct_law 59)))), (y13, .inl (cI, (96, .inl (ct_f mo_words 96)))), (y14, .inl (cI, (200, .inl fun _ => i3 0)))] H := hP
  have hD : va_D A [(h8, .inr (8, [.ref y0, .int (i3 0), .ref y1, .ref y2, .ref y3, .ref y4, .ref y5, .int (i3 0), .ref y6, .ref y7, .int (i3 0), .int (i3 0), .int (i3 0), .int (i3 0), .int (i3 0), .ref y8, .ref y9, .ref y10, .ref y11, .ref y12, .int (i3 0), .int (i3 0), .int (i3 0), .int (i3 0), .ref y13, .ref y14, .int (i3 0), .int (i3 0), .int (i3 0), .null, .null, .null, .null, .null, .int (i3 0), .int (i3 0)])), (y0, .inl (cI, (4, .inl (ct_f ct_pump 4)))), (y1, .inl (cI, (5, .inl fun _ => i3 0))), (y2, .inl (cI, (5, .inl fun _ => i3 0))), (y3, .inl (cI, (10, .inl fun _ => i3 0))), (y4, .inl (cI, (3, .inl fun _ => i3 0))), (y5, .inl (cI, (160, .inl fun _ => i3 0))), (y6, .inl (cI, (1200, .inl fun _ => i3 0))), (y7, .inl (cI, (24, .inl fun _ => i3 0))), (y8, .inl (cI, (17, .inl fun _ => i3 0))), (y9, .inl (cI, (4, .inl (ct_f ct_sort 4)))), (y10, .inl (cI, (4, .inl fun _ => i3 0))), (y11, .inl (cI, (160, .inl fun _ => i3 0))), (y12, .inl (cI, (59, .inl (ct_f ct_law 59)))), (y13, .inl (cI, (96, .inl (ct_f mo_words 96)))), (y14, .inl (cI, (200, .inl fun _ => i3 0)))] := hD
  refine lv_aload_n hx hb ct_y1077 rfl (lv_at hl 0 rfl) ?_
  refine lv_sipush (v := 200) hx hb ct_y1078 (by decide +kernel) ?_
  refine va_newa (atype := .int) (a0 := (200, .inl fun _ => i3 0)) (N' := 200) hx hb (hts (.arrayClass .int) (ct_m 2 rfl)) rfl hK hP hD hS hA (fun cA => by rw [i3_zero]; rfl) (by decide +kernel) (by decide +kernel) (Nat.le_of_ble_eq_true rfl) (by omega) (by omega) ct_y1081 (fun y15 c1 H hK hP hD hS => ?_)
  obtain rfl : cI = c1 := ct_int1 (hK.2 0 _ rfl).2 (hK.2 1 _ rfl).2
  have hK : va_K (dC, dI) vwCl [(cI, .int)] s := hK.sub [0] rfl
  refine W.widen (k := cells + 16) (n := slots + 2151) (by omega) (by omega) ?_
  refine va_putF (D := (dC, dI)) (ci := 8) (v := .ref y15) (ty := .array .int) (C := RX8) (T := TX8) (N := 36) hx hb hts (ct_u 8 (by decide)) tyX8 tyX8_ok nmX8 hown hK hP hD hS 0 rfl rfl 29 (by decide) (hts (.fieldLink RX8 55 "JustFivePoundsModel" "stack" "[I") (ct_m 86 rfl)) (fun _ h9 => h9) rfl hin rfl (by decide +kernel) rfl rfl (Nat.le_of_ble_eq_true rfl) ct_y1083 (fun H locs hP hD hS => ?_)
  have hP : va_P (dC, dI) vwCl [(h8, .inr (8, [.ref y0, .int (i3 0), .ref y1, .ref y2, .ref y3, .ref y4, .ref y5, .int (i3 0), .ref y6, .ref y7, .int (i3 0), .int (i3 0), .int (i3 0), .int (i3 0), .int (i3 0), .ref y8, .ref y9, .ref y10, .ref y11, .ref y12, .int (i3 0), .int (i3 0), .int (i3 0), .int (i3 0), .ref y13, .ref y14, .int (i3 0), .int (i3 0), .int (i3 0), .ref y15, .null, .null, .null, .null, .int (i3 0), .int (i3 0)])), (y0, .inl (cI, (4, .inl (ct_f ct_pump 4)))), (y1, .inl (cI, (5, .inl fun _ => i3 0))), (y2, .inl (cI, (5, .inl fun _ => i3 0))), (y3, .inl (cI, (10, .inl fun _ => i3 0))), (y4, .inl (cI, (3, .inl fun _ => i3 0))), (y5, .inl (cI, (160, .inl fun _ => i3 0))), (y6, .inl (cI, (1200, .inl fun _ => i3 0))), (y7, .inl (cI, (24, .inl fun _ => i3 0))), (y8, .inl (cI, (17, .inl fun _ => i3 0))), (y9, .inl (cI, (4, .inl (ct_f ct_sort 4)))), (y10, .inl (cI, (4, .inl fun _ => i3 0))), (y11, .inl (cI, (160, .inl fun _ => i3 0))), (y12, .inl (cI, (59, .inl (ct_f ct_law 59)))), (y13, .inl (cI, (96, .inl (ct_f mo_words 96)))), (y14, .inl (cI, (200, .inl fun _ => i3 0))), (y15, .inl (cI, (200, .inl fun _ => i3 0)))] H := hP
  have hD : va_D A [(h8, .inr (8, [.ref y0, .int (i3 0), .ref y1, .ref y2, .ref y3, .ref y4, .ref y5, .int (i3 0), .ref y6, .ref y7, .int (i3 0), .int (i3 0), .int (i3 0), .int (i3 0), .int (i3 0), .ref y8, .ref y9, .ref y10, .ref y11, .ref y12, .int (i3 0), .int (i3 0), .int (i3 0), .int (i3 0), .ref y13, .ref y14, .int (i3 0), .int (i3 0), .int (i3 0), .ref y15, .null, .null, .null, .null, .int (i3 0), .int (i3 0)])), (y0, .inl (cI, (4, .inl (ct_f ct_pump 4)))), (y1, .inl (cI, (5, .inl fun _ => i3 0))), (y2, .inl (cI, (5, .inl fun _ => i3 0))), (y3, .inl (cI, (10, .inl fun _ => i3 0))), (y4, .inl (cI, (3, .inl fun _ => i3 0))), (y5, .inl (cI, (160, .inl fun _ => i3 0))), (y6, .inl (cI, (1200, .inl fun _ => i3 0))), (y7, .inl (cI, (24, .inl fun _ => i3 0))), (y8, .inl (cI, (17, .inl fun _ => i3 0))), (y9, .inl (cI, (4, .inl (ct_f ct_sort 4)))), (y10, .inl (cI, (4, .inl fun _ => i3 0))), (y11, .inl (cI, (160, .inl fun _ => i3 0))), (y12, .inl (cI, (59, .inl (ct_f ct_law 59)))), (y13, .inl (cI, (96, .inl (ct_f mo_words 96)))), (y14, .inl (cI, (200, .inl fun _ => i3 0))), (y15, .inl (cI, (200, .inl fun _ => i3 0)))] := hD
  refine lv_aload_n hx hb ct_y1086 rfl (lv_at hl 0 rfl) ?_
  refine lv_bipush (v := 6) hx hb ct_y1087 (by decide +kernel) ?_
  refine va_newa (atype := .int) (a0 := (6, .inl fun _ => i3 0)) (N' := 6) hx hb (hts (.arrayClass .int) (ct_m 2 rfl)) rfl hK hP hD hS hA (fun cA => by rw [i3_zero]; rfl) (by decide +kernel) (by decide +kernel) (Nat.le_of_ble_eq_true rfl) (by omega) (by omega) ct_y1089 (fun y16 c1 H hK hP hD hS => ?_)
  obtain rfl : cI = c1 := ct_int1 (hK.2 0 _ rfl).2 (hK.2 1 _ rfl).2
  have hK : va_K (dC, dI) vwCl [(cI, .int)] s := hK.sub [0] rfl
  refine W.widen (k := cells + 17) (n := slots + 2157) (by omega) (by omega) ?_
  refine va_putF (D := (dC, dI)) (ci := 8) (v := .ref y16) (ty := .array .int) (C := RX8) (T := TX8) (N := 36) hx hb hts (ct_u 8 (by decide)) tyX8 tyX8_ok nmX8 hown hK hP hD hS 0 rfl rfl 30 (by decide) (hts (.fieldLink RX8 58 "JustFivePoundsModel" "named" "[I") (ct_m 87 rfl)) (fun _ h9 => h9) rfl hin rfl (by decide +kernel) rfl rfl (Nat.le_of_ble_eq_true rfl) ct_y1091 (fun H locs hP hD hS => ?_)
  have hP : va_P (dC, dI) vwCl [(h8, .inr (8, [.ref y0, .int (i3 0), .ref y1, .ref y2, .ref y3, .ref y4, .ref y5, .int (i3 0), .ref y6, .ref y7, .int (i3 0), .int (i3 0), .int (i3 0), .int (i3 0), .int (i3 0), .ref y8, .ref y9, .ref y10, .ref y11, .ref y12, .int (i3 0), .int (i3 0), .int (i3 0), .int (i3 0), .ref y13, .ref y14, .int (i3 0), .int (i3 0), .int (i3 0), .ref y15, .ref y16, .null, .null, .null, .int (i3 0), .int (i3 0)])), (y0, .inl (cI, (4, .inl (ct_f ct_pump 4)))), (y1, .inl (cI, (5, .inl fun _ => i3 0))), (y2, .inl (cI, (5, .inl fun _ => i3 0))), (y3, .inl (cI, (10, .inl fun _ => i3 0))), (y4, .inl (cI, (3, .inl fun _ => i3 0))), (y5, .inl (cI, (160, .inl fun _ => i3 0))), (y6, .inl (cI, (1200, .inl fun _ => i3 0))), (y7, .inl (cI, (24, .inl fun _ => i3 0))), (y8, .inl (cI, (17, .inl fun _ => i3 0))), (y9, .inl (cI, (4, .inl (ct_f ct_sort 4)))), (y10, .inl (cI, (4, .inl fun _ => i3 0))), (y11, .inl (cI, (160, .inl fun _ => i3 0))), (y12, .inl (cI, (59, .inl (ct_f ct_law 59)))), (y13, .inl (cI, (96, .inl (ct_f mo_words 96)))), (y14, .inl (cI, (200, .inl fun _ => i3 0))), (y15, .inl (cI, (200, .inl fun _ => i3 0))), (y16, .inl (cI, (6, .inl fun _ => i3 0)))] H := hP
  have hD : va_D A [(h8, .inr (8, [.ref y0, .int (i3 0), .ref y1, .ref y2, .ref y3, .ref y4, .ref y5, .int (i3 0), .ref y6, .ref y7, .int (i3 0), .int (i3 0), .int (i3 0), .int (i3 0), .int (i3 0), .ref y8, .ref y9, .ref y10, .ref y11, .ref y12, .int (i3 0), .int (i3 0), .int (i3 0), .int (i3 0), .ref y13, .ref y14, .int (i3 0), .int (i3 0), .int (i3 0), .ref y15, .ref y16, .null, .null, .null, .int (i3 0), .int (i3 0)])), (y0, .inl (cI, (4, .inl (ct_f ct_pump 4)))), (y1, .inl (cI, (5, .inl fun _ => i3 0))), (y2, .inl (cI, (5, .inl fun _ => i3 0))), (y3, .inl (cI, (10, .inl fun _ => i3 0))), (y4, .inl (cI, (3, .inl fun _ => i3 0))), (y5, .inl (cI, (160, .inl fun _ => i3 0))), (y6, .inl (cI, (1200, .inl fun _ => i3 0))), (y7, .inl (cI, (24, .inl fun _ => i3 0))), (y8, .inl (cI, (17, .inl fun _ => i3 0))), (y9, .inl (cI, (4, .inl (ct_f ct_sort 4)))), (y10, .inl (cI, (4, .inl fun _ => i3 0))), (y11, .inl (cI, (160, .inl fun _ => i3 0))), (y12, .inl (cI, (59, .inl (ct_f ct_law 59)))), (y13, .inl (cI, (96, .inl (ct_f mo_words 96)))), (y14, .inl (cI, (200, .inl fun _ => i3 0))), (y15, .inl (cI, (200, .inl fun _ => i3 0))), (y16, .inl (cI, (6, .inl fun _ => i3 0)))] := hD
  refine lv_aload_n hx hb ct_y1094 rfl (lv_at hl 0 rfl) ?_
  refine lv_iconst (v := 5) hx hb ct_y1095 (by decide +kernel) ?_
  refine va_newa (atype := .int) (a0 := (5, .inl fun _ => i3 0)) (N' := 5) hx hb (hts (.arrayClass .int) (ct_m 2 rfl)) rfl hK hP hD hS hA (fun cA => by rw [i3_zero]; rfl) (by decide +kernel) (by decide +kernel) (Nat.le_of_ble_eq_true rfl) (by omega) (by omega) ct_y1096 (fun y17 c1 H hK hP hD hS => ?_)
  obtain rfl : cI = c1 := ct_int1 (hK.2 0 _ rfl).2 (hK.2 1 _ rfl).2
  have hK : va_K (dC, dI) vwCl [(cI, .int)] s := hK.sub [0] rfl
  refine W.widen (k := cells + 18) (n := slots + 2162) (by omega) (by omega) ?_
  refine va_putF (D := (dC, dI)) (ci := 8) (v := .ref y17) (ty := .array .int) (C := RX8) (T := TX8) (N := 36) hx hb hts (ct_u 8 (by decide)) tyX8 tyX8_ok nmX8 hown hK hP hD hS 0 rfl rfl 31 (by decide) (hts (.fieldLink RX8 61 "JustFivePoundsModel" "ends0" "[I") (ct_m 88 rfl)) (fun _ h9 => h9) rfl hin rfl (by decide +kernel) rfl rfl (Nat.le_of_ble_eq_true rfl) ct_y1098 (fun H locs hP hD hS => ?_)
  have hP : va_P (dC, dI) vwCl [(h8, .inr (8, [.ref y0, .int (i3 0), .ref y1, .ref y2, .ref y3, .ref y4, .ref y5, .int (i3 0), .ref y6, .ref y7, .int (i3 0), .int (i3 0), .int (i3 0), .int (i3 0), .int (i3 0), .ref y8, .ref y9, .ref y10, .ref y11, .ref y12, .int (i3 0), .int (i3 0), .int (i3 0), .int (i3 0), .ref y13, .ref y14, .int (i3 0), .int (i3 0), .int (i3 0), .ref y15, .ref y16, .ref y17, .null, .null, .int (i3 0), .int (i3 0)])), (y0, .inl (cI, (4, .inl (ct_f ct_pump 4)))), (y1, .inl (cI, (5, .inl fun _ => i3 0))), (y2, .inl (cI, (5, .inl fun _ => i3 0))), (y3, .inl (cI, (10, .inl fun _ => i3 0))), (y4, .inl (cI, (3, .inl fun _ => i3 0))), (y5, .inl (cI, (160, .inl fun _ => i3 0))), (y6, .inl (cI, (1200, .inl fun _ => i3 0))), (y7, .inl (cI, (24, .inl fun _ => i3 0))), (y8, .inl (cI, (17, .inl fun _ => i3 0))), (y9, .inl (cI, (4, .inl (ct_f ct_sort 4)))), (y10, .inl (cI, (4, .inl fun _ => i3 0))), (y11, .inl (cI, (160, .inl fun _ => i3 0))), (y12, .inl (cI, (59, .inl (ct_f ct_law 59)))), (y13, .inl (cI, (96, .inl (ct_f mo_words 96)))), (y14, .inl (cI, (200, .inl fun _ => i3 0))), (y15, .inl (cI, (200, .inl fun _ => i3 0))), (y16, .inl (cI, (6, .inl fun _ => i3 0))), (y17, .inl (cI, (5, .inl fun _ => i3 0)))] H := hP
  have hD : va_D A [(h8, .inr (8, [.ref y0, .int (i3 0), .ref y1, .ref y2, .ref y3, .ref y4, .ref y5, .int (i3 0), .ref y6, .ref y7, .int (i3 0), .int (i3 0), .int (i3 0), .int (i3 0), .int (i3 0), .ref y8, .ref y9, .ref y10, .ref y11, .ref y12, .int (i3 0), .int (i3 0), .int (i3 0), .int (i3 0), .ref y13, .ref y14, .int (i3 0), .int (i3 0), .int (i3 0), .ref y15, .ref y16, .ref y17, .null, .null, .int (i3 0), .int (i3 0)])), (y0, .inl (cI, (4, .inl (ct_f ct_pump 4)))), (y1, .inl (cI, (5, .inl fun _ => i3 0))), (y2, .inl (cI, (5, .inl fun _ => i3 0))), (y3, .inl (cI, (10, .inl fun _ => i3 0))), (y4, .inl (cI, (3, .inl fun _ => i3 0))), (y5, .inl (cI, (160, .inl fun _ => i3 0))), (y6, .inl (cI, (1200, .inl fun _ => i3 0))), (y7, .inl (cI, (24, .inl fun _ => i3 0))), (y8, .inl (cI, (17, .inl fun _ => i3 0))), (y9, .inl (cI, (4, .inl (ct_f ct_sort 4)))), (y10, .inl (cI, (4, .inl fun _ => i3 0))), (y11, .inl (cI, (160, .inl fun _ => i3 0))), (y12, .inl (cI, (59, .inl (ct_f ct_law 59)))), (y13, .inl (cI, (96, .inl (ct_f mo_words 96)))), (y14, .inl (cI, (200, .inl fun _ => i3 0))), (y15, .inl (cI, (200, .inl fun _ => i3 0))), (y16, .inl (cI, (6, .inl fun _ => i3 0))), (y17, .inl (cI, (5, .inl fun _ => i3 0)))] := hD
  refine lv_aload_n hx hb ct_y1101 rfl (lv_at hl 0 rfl) ?_
  refine lv_iconst (v := 5) hx hb ct_y1102 (by decide +kernel) ?_
  refine va_newa (atype := .int) (a0 := (5, .inl fun _ => i3 0)) (N' := 5) hx hb (hts (.arrayClass .int) (ct_m 2 rfl)) rfl hK hP hD hS hA (fun cA => by rw [i3_zero]; rfl) (by decide +kernel) (by decide +kernel) (Nat.le_of_ble_eq_true rfl) (by omega) (by omega) ct_y1103 (fun y18 c1 H hK hP hD hS => ?_)
  obtain rfl : cI = c1 := ct_int1 (hK.2 0 _ rfl).2 (hK.2 1 _ rfl).2
  have hK : va_K (dC, dI) vwCl [(cI, .int)] s := hK.sub [0] rfl
  refine W.widen (k := cells + 19) (n := slots + 2167) (by omega) (by omega) ?_
  refine va_putF (D := (dC, dI)) (ci := 8) (v := .ref y18) (ty := .array .int) (C := RX8) (T := TX8) (N := 36) hx hb hts (ct_u 8 (by decide)) tyX8 tyX8_ok nmX8 hown hK hP hD hS 0 rfl rfl 32 (by decide) (hts (.fieldLink RX8 64 "JustFivePoundsModel" "tenths0" "[I") (ct_m 89 rfl)) (fun _ h9 => h9) rfl hin rfl (by decide +kernel) rfl rfl (Nat.le_of_ble_eq_true rfl) ct_y1105 (fun H locs hP hD hS => ?_)
  have hP : va_P (dC, dI) vwCl [(h8, .inr (8, [.ref y0, .int (i3 0), .ref y1, .ref y2, .ref y3, .ref y4, .ref y5, .int (i3 0), .ref y6, .ref y7, .int (i3 0), .int (i3 0), .int (i3 0), .int (i3 0), .int (i3 0), .ref y8, .ref y9, .ref y10, .ref y11, .ref y12, .int (i3 0), .int (i3 0), .int (i3 0), .int (i3 0), .ref y13, .ref y14, .int (i3 0), .int (i3 0), .int (i3 0), .ref y15, .ref y16, .ref y17, .ref y18, .null, .int (i3 0), .int (i3 0)])), (y0, .inl (cI, (4, .inl (ct_f ct_pump 4)))), (y1, .inl (cI, (5, .inl fun _ => i3 0))), (y2, .inl (cI, (5, .inl fun _ => i3 0))), (y3, .inl (cI, (10, .inl fun _ => i3 0))), (y4, .inl (cI, (3, .inl fun _ => i3 0))), (y5, .inl (cI, (160, .inl fun _ => i3 0))), (y6, .inl (cI, (1200, .inl fun _ => i3 0))), (y7, .inl (cI, (24, .inl fun _ => i3 0))), (y8, .inl (cI, (17, .inl fun _ => i3 0))), (y9, .inl (cI, (4, .inl (ct_f ct_sort 4)))), (y10, .inl (cI, (4, .inl fun _ => i3 0))), (y11, .inl (cI, (160, .inl fun _ => i3 0))), (y12, .inl (cI, (59, .inl (ct_f ct_law 59)))), (y13, .inl (cI, (96, .inl (ct_f mo_words 96)))), (y14, .inl (cI, (200, .inl fun _ => i3 0))), (y15, .inl (cI, (200, .inl fun _ => i3 0))), (y16, .inl (cI, (6, .inl fun _ => i3 0))), (y17, .inl (cI, (5, .inl fun _ => i3 0))), (y18, .inl (cI, (5, .inl fun _ => i3 0)))] H := hP
  have hD : va_D A [(h8, .inr (8, [.ref y0, .int (i3 0), .ref y1, .ref y2, .ref y3, .ref y4, .ref y5, .int (i3 0), .ref y6, .ref y7, .int (i3 0), .int (i3 0), .int (i3 0), .int (i3 0), .int (i3 0), .ref y8, .ref y9, .ref y10, .ref y11, .ref y12, .int (i3 0), .int (i3 0), .int (i3 0), .int (i3 0), .ref y13, .ref y14, .int (i3 0), .int (i3 0), .int (i3 0), .ref y15, .ref y16, .ref y17, .ref y18, .null, .int (i3 0), .int (i3 0)])), (y0, .inl (cI, (4, .inl (ct_f ct_pump 4)))), (y1, .inl (cI, (5, .inl fun _ => i3 0))), (y2, .inl (cI, (5, .inl fun _ => i3 0))), (y3, .inl (cI, (10, .inl fun _ => i3 0))), (y4, .inl (cI, (3, .inl fun _ => i3 0))), (y5, .inl (cI, (160, .inl fun _ => i3 0))), (y6, .inl (cI, (1200, .inl fun _ => i3 0))), (y7, .inl (cI, (24, .inl fun _ => i3 0))), (y8, .inl (cI, (17, .inl fun _ => i3 0))), (y9, .inl (cI, (4, .inl (ct_f ct_sort 4)))), (y10, .inl (cI, (4, .inl fun _ => i3 0))), (y11, .inl (cI, (160, .inl fun _ => i3 0))), (y12, .inl (cI, (59, .inl (ct_f ct_law 59)))), (y13, .inl (cI, (96, .inl (ct_f mo_words 96)))), (y14, .inl (cI, (200, .inl fun _ => i3 0))), (y15, .inl (cI, (200, .inl fun _ => i3 0))), (y16, .inl (cI, (6, .inl fun _ => i3 0))), (y17, .inl (cI, (5, .inl fun _ => i3 0))), (y18, .inl (cI, (5, .inl fun _ => i3 0)))] := hD
  refine lv_aload_n hx hb ct_y1108 rfl (lv_at hl 0 rfl) ?_
  refine lv_iconst (v := 5) hx hb ct_y1109 (by decide +kernel) ?_
  refine va_newa (atype := .int) (a0 := (5, .inl fun _ => i3 0)) (N' := 5) hx hb (hts (.arrayClass .int) (ct_m 2 rfl)) rfl hK hP hD hS hA (fun cA => by rw [i3_zero]; rfl) (by decide +kernel) (by decide +kernel) (Nat.le_of_ble_eq_true rfl) (by omega) (by omega) ct_y1110 (fun y19 c1 H hK hP hD hS => ?_)
  obtain rfl : cI = c1 := ct_int1 (hK.2 0 _ rfl).2 (hK.2 1 _ rfl).2
  have hK : va_K (dC, dI) vwCl [(cI, .int)] s := hK.sub [0] rfl
  refine W.widen (k := cells + 20) (n := slots + 2172) (by omega) (by omega) ?_
  refine va_putF (D := (dC, dI)) (ci := 8) (v := .ref y19) (ty := .array .int) (C := RX8) (T := TX8) (N := 36) hx hb hts (ct_u 8 (by decide)) tyX8 tyX8_ok nmX8 hown hK hP hD hS 0 rfl rfl 33 (by decide) (hts (.fieldLink RX8 67 "JustFivePoundsModel" "oftens" "[I") (ct_m 90 rfl)) (fun _ h9 => h9) rfl hin rfl (by decide +kernel) rfl rfl (Nat.le_of_ble_eq_true rfl) ct_y1112 (fun H locs hP hD hS => ?_)
  have hP : va_P (dC, dI) vwCl [(h8, .inr (8, [.ref y0, .int (i3 0), .ref y1, .ref y2, .ref y3, .ref y4, .ref y5, .int (i3 0), .ref y6, .ref y7, .int (i3 0), .int (i3 0), .int (i3 0), .int (i3 0), .int (i3 0), .ref y8, .ref y9, .ref y10, .ref y11, .ref y12, .int (i3 0), .int (i3 0), .int (i3 0), .int (i3 0), .ref y13, .ref y14, .int (i3 0), .int (i3 0), .int (i3 0), .ref y15, .ref y16, .ref y17, .ref y18, .ref y19, .int (i3 0), .int (i3 0)])), (y0, .inl (cI, (4, .inl (ct_f ct_pump 4)))), (y1, .inl (cI, (5, .inl fun _ => i3 0))), (y2, .inl (cI, (5, .inl fun _ => i3 0))), (y3, .inl (cI, (10, .inl fun _ => i3 0))), (y4, .inl (cI, (3, .inl fun _ => i3 0))), (y5, .inl (cI, (160, .inl fun _ => i3 0))), (y6, .inl (cI, (1200, .inl fun _ => i3 0))), (y7, .inl (cI, (24, .inl fun _ => i3 0))), (y8, .inl (cI, (17, .inl fun _ => i3 0))), (y9, .inl (cI, (4, .inl (ct_f ct_sort 4)))), (y10, .inl (cI, (4, .inl fun _ => i3 0))), (y11, .inl (cI, (160, .inl fun _ => i3 0))), (y12, .inl (cI, (59, .inl (ct_f ct_law 59)))), (y13, .inl (cI, (96, .inl (ct_f mo_words 96)))), (y14, .inl (cI, (200, .inl fun _ => i3 0))), (y15, .inl (cI, (200, .inl fun _ => i3 0))), (y16, .inl (cI, (6, .inl fun _ => i3 0))), (y17, .inl (cI, (5, .inl fun _ => i3 0))), (y18, .inl (cI, (5, .inl fun _ => i3 0))), (y19, .inl (cI, (5, .inl fun _ => i3 0)))] H := hP
  have hD : va_D A [(h8, .inr (8, [.ref y0, .int (i3 0), .ref y1, .ref y2, .ref y3, .ref y4, .ref y5, .int (i3 0), .ref y6, .ref y7, .int (i3 0), .int (i3 0), .int (i3 0), .int (i3 0), .int (i3 0), .ref y8, .ref y9, .ref y10, .ref y11, .ref y12, .int (i3 0), .int (i3 0), .int (i3 0), .int (i3 0), .ref y13, .ref y14, .int (i3 0), .int (i3 0), .int (i3 0), .ref y15, .ref y16, .ref y17, .ref y18, .ref y19, .int (i3 0), .int (i3 0)])), (y0, .inl (cI, (4, .inl (ct_f ct_pump 4)))), (y1, .inl (cI, (5, .inl fun _ => i3 0))), (y2, .inl (cI, (5, .inl fun _ => i3 0))), (y3, .inl (cI, (10, .inl fun _ => i3 0))), (y4, .inl (cI, (3, .inl fun _ => i3 0))), (y5, .inl (cI, (160, .inl fun _ => i3 0))), (y6, .inl (cI, (1200, .inl fun _ => i3 0))), (y7, .inl (cI, (24, .inl fun _ => i3 0))), (y8, .inl (cI, (17, .inl fun _ => i3 0))), (y9, .inl (cI, (4, .inl (ct_f ct_sort 4)))), (y10, .inl (cI, (4, .inl fun _ => i3 0))), (y11, .inl (cI, (160, .inl fun _ => i3 0))), (y12, .inl (cI, (59, .inl (ct_f ct_law 59)))), (y13, .inl (cI, (96, .inl (ct_f mo_words 96)))), (y14, .inl (cI, (200, .inl fun _ => i3 0))), (y15, .inl (cI, (200, .inl fun _ => i3 0))), (y16, .inl (cI, (6, .inl fun _ => i3 0))), (y17, .inl (cI, (5, .inl fun _ => i3 0))), (y18, .inl (cI, (5, .inl fun _ => i3 0))), (y19, .inl (cI, (5, .inl fun _ => i3 0)))] := hD
  exact kk H locs y0 y1 y2 y3 y4 y5 y6 y7 y8 y9 y10 y11 y12 y13 y14 y15 y16 y17 y18 y19 hP hD hS
