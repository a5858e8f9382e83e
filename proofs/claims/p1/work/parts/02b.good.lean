set_option maxRecDepth 100000 in
theorem xg60 : xm_good 60 := xm_good_of (by decide +kernel)
set_option maxRecDepth 100000 in
theorem xg61 : xm_good 61 := xm_good_of (by decide +kernel)
set_option maxRecDepth 100000 in
theorem xg62 : xm_good 62 := xm_good_of (by decide +kernel)
set_option maxRecDepth 100000 in
theorem xg63 : xm_good 63 := xm_good_of (by decide +kernel)
set_option maxRecDepth 100000 in
theorem xg64 : xm_good 64 := xm_good_of (by decide +kernel)
set_option maxRecDepth 100000 in
theorem xg65 : xm_good 65 := xm_good_of (by decide +kernel)
set_option maxRecDepth 100000 in
theorem xg66 : xm_good 66 := xm_good_of (by decide +kernel)
set_option maxRecDepth 100000 in
theorem xg67 : xm_good 67 := xm_good_of (by decide +kernel)
set_option maxRecDepth 100000 in
theorem xg68 : xm_good 68 := xm_good_of (by decide +kernel)
set_option maxRecDepth 100000 in
theorem xg69 : xm_good 69 := xm_good_of (by decide +kernel)
set_option maxRecDepth 100000 in
theorem xg70 : xm_good 70 := xm_good_of (by decide +kernel)
set_option maxRecDepth 100000 in
theorem xg71 : xm_good 71 := xm_good_of (by decide +kernel)
set_option maxRecDepth 100000 in
theorem xg72 : xm_good 72 := xm_good_of (by decide +kernel)
set_option maxRecDepth 100000 in
theorem xg73 : xm_good 73 := xm_good_of (by decide +kernel)
set_option maxRecDepth 100000 in
theorem xg74 : xm_good 74 := xm_good_of (by decide +kernel)
set_option maxRecDepth 100000 in
theorem xg75 : xm_good 75 := xm_good_of (by decide +kernel)
set_option maxRecDepth 100000 in
theorem xg76 : xm_good 76 := xm_good_of (by decide +kernel)
set_option maxRecDepth 100000 in
theorem xg77 : xm_good 77 := xm_good_of (by decide +kernel)
set_option maxRecDepth 100000 in
theorem xg78 : xm_good 78 := xm_good_of (by decide +kernel)
set_option maxRecDepth 100000 in
theorem xg79 : xm_good 79 := xm_good_of (by decide +kernel)
set_option maxRecDepth 100000 in
theorem xg80 : xm_good 80 := xm_good_of (by decide +kernel)
set_option maxRecDepth 100000 in
theorem xg81 : xm_good 81 := xm_good_of (by decide +kernel)
set_option maxRecDepth 100000 in
theorem xg82 : xm_good 82 := xm_good_of (by decide +kernel)
set_option maxRecDepth 100000 in
theorem xg83 : xm_good 83 := xm_good_of (by decide +kernel)
set_option maxRecDepth 100000 in
theorem xg84 : xm_good 84 := xm_good_of (by decide +kernel)
set_option maxRecDepth 100000 in
theorem xg85 : xm_good 85 := xm_good_of (by decide +kernel)
set_option maxRecDepth 100000 in
theorem xg86 : xm_good 86 := xm_good_of (by decide +kernel)
set_option maxRecDepth 100000 in
theorem xg87 : xm_good 87 := xm_good_of (by decide +kernel)
set_option maxRecDepth 100000 in
theorem xg88 : xm_good 88 := xm_good_of (by decide +kernel)
set_option maxRecDepth 100000 in
theorem xg89 : xm_good 89 := xm_good_of (by decide +kernel)
set_option maxRecDepth 100000 in
theorem xg90 : xm_good 90 := xm_good_of (by decide +kernel)
set_option maxRecDepth 100000 in
theorem xg91 : xm_good 91 := xm_good_of (by decide +kernel)
set_option maxRecDepth 100000 in
theorem xg92 : xm_good 92 := xm_good_of (by decide +kernel)
set_option maxRecDepth 100000 in
theorem xg93 : xm_good 93 := xm_good_of (by decide +kernel)
set_option maxRecDepth 100000 in
theorem xg94 : xm_good 94 := xm_good_of (by decide +kernel)
set_option maxRecDepth 100000 in
theorem xg95 : xm_good 95 := xm_good_of (by decide +kernel)
set_option maxRecDepth 100000 in
theorem xg96 : xm_good 96 := xm_good_of (by decide +kernel)
set_option maxRecDepth 100000 in
theorem xg97 : xm_good 97 := xm_good_of (by decide +kernel)
set_option maxRecDepth 100000 in
theorem xg98 : xm_good 98 := xm_good_of (by decide +kernel)
set_option maxRecDepth 100000 in
theorem xg99 : xm_good 99 := xm_good_of (by decide +kernel)
set_option maxRecDepth 100000 in
theorem xg100 : xm_good 100 := xm_good_of (by decide +kernel)
set_option maxRecDepth 100000 in
theorem xg101 : xm_good 101 := xm_good_of (by decide +kernel)
set_option maxRecDepth 100000 in
theorem xg102 : xm_good 102 := xm_good_of (by decide +kernel)
set_option maxRecDepth 100000 in
theorem xg103 : xm_good 103 := xm_good_of (by decide +kernel)
set_option maxRecDepth 100000 in
theorem xg104 : xm_good 104 := xm_good_of (by decide +kernel)
set_option maxRecDepth 100000 in
theorem xg105 : xm_good 105 := xm_good_of (by decide +kernel)
set_option maxRecDepth 100000 in
theorem xg106 : xm_good 106 := xm_good_of (by decide +kernel)
set_option maxRecDepth 100000 in
theorem xg107 : xm_good 107 := xm_good_of (by decide +kernel)
set_option maxRecDepth 100000 in
theorem xg108 : xm_good 108 := xm_good_of (by decide +kernel)
set_option maxRecDepth 100000 in
theorem xg109 : xm_good 109 := xm_good_of (by decide +kernel)
set_option maxRecDepth 100000 in
theorem xg110 : xm_good 110 := xm_good_of (by decide +kernel)
set_option maxRecDepth 100000 in
theorem xg111 : xm_good 111 := xm_good_of (by decide +kernel)
set_option maxRecDepth 100000 in
theorem xg112 : xm_good 112 := xm_good_of (by decide +kernel)
set_option maxRecDepth 100000 in
theorem xg113 : xm_good 113 := xm_good_of (by decide +kernel)
set_option maxRecDepth 100000 in
theorem xg114 : xm_good 114 := xm_good_of (by decide +kernel)
set_option maxRecDepth 100000 in
theorem xg115 : xm_good 115 := xm_good_of (by decide +kernel)
set_option maxRecDepth 100000 in
theorem xg116 : xm_good 116 := xm_good_of (by decide +kernel)
set_option maxRecDepth 100000 in
theorem xg117 : xm_good 117 := xm_good_of (by decide +kernel)
set_option maxRecDepth 100000 in
theorem xg118 : xm_good 118 := xm_good_of (by decide +kernel)
set_option maxRecDepth 100000 in
theorem xg119 : xm_good 119 := xm_good_of (by decide +kernel)
