set_option maxRecDepth 100000 in
theorem xg0 : xm_good 0 := xm_good_of (by decide +kernel)
set_option maxRecDepth 100000 in
theorem xg1 : xm_good 1 := xm_good_of (by decide +kernel)
set_option maxRecDepth 100000 in
theorem xg2 : xm_good 2 := xm_good_of (by decide +kernel)
set_option maxRecDepth 100000 in
theorem xg3 : xm_good 3 := xm_good_of (by decide +kernel)
set_option maxRecDepth 100000 in
theorem xg4 : xm_good 4 := xm_good_of (by decide +kernel)
set_option maxRecDepth 100000 in
theorem xg5 : xm_good 5 := xm_good_of (by decide +kernel)
set_option maxRecDepth 100000 in
theorem xg6 : xm_good 6 := xm_good_of (by decide +kernel)
set_option maxRecDepth 100000 in
theorem xg7 : xm_good 7 := xm_good_of (by decide +kernel)
set_option maxRecDepth 100000 in
theorem xg8 : xm_good 8 := xm_good_of (by decide +kernel)
set_option maxRecDepth 100000 in
theorem xg9 : xm_good 9 := xm_good_of (by decide +kernel)
set_option maxRecDepth 100000 in
theorem xg10 : xm_good 10 := xm_good_of (by decide +kernel)
set_option maxRecDepth 100000 in
theorem xg11 : xm_good 11 := xm_good_of (by decide +kernel)
set_option maxRecDepth 100000 in
theorem xg12 : xm_good 12 := xm_good_of (by decide +kernel)
set_option maxRecDepth 100000 in
theorem xg13 : xm_good 13 := xm_good_of (by decide +kernel)
set_option maxRecDepth 100000 in
theorem xg14 : xm_good 14 := xm_good_of (by decide +kernel)
set_option maxRecDepth 100000 in
theorem xg15 : xm_good 15 := xm_good_of (by decide +kernel)
set_option maxRecDepth 100000 in
theorem xg16 : xm_good 16 := xm_good_of (by decide +kernel)
set_option maxRecDepth 100000 in
theorem xg17 : xm_good 17 := xm_good_of (by decide +kernel)
set_option maxRecDepth 100000 in
theorem xg18 : xm_good 18 := xm_good_of (by decide +kernel)
set_option maxRecDepth 100000 in
theorem xg19 : xm_good 19 := xm_good_of (by decide +kernel)
set_option maxRecDepth 100000 in
theorem xg20 : xm_good 20 := xm_good_of (by decide +kernel)
set_option maxRecDepth 100000 in
theorem xg21 : xm_good 21 := xm_good_of (by decide +kernel)
set_option maxRecDepth 100000 in
theorem xg22 : xm_good 22 := xm_good_of (by decide +kernel)
set_option maxRecDepth 100000 in
theorem xg23 : xm_good 23 := xm_good_of (by decide +kernel)
set_option maxRecDepth 100000 in
theorem xg24 : xm_good 24 := xm_good_of (by decide +kernel)
set_option maxRecDepth 100000 in
theorem xg25 : xm_good 25 := xm_good_of (by decide +kernel)
set_option maxRecDepth 100000 in
theorem xg26 : xm_good 26 := xm_good_of (by decide +kernel)
set_option maxRecDepth 100000 in
theorem xg27 : xm_good 27 := xm_good_of (by decide +kernel)
set_option maxRecDepth 100000 in
theorem xg28 : xm_good 28 := xm_good_of (by decide +kernel)
set_option maxRecDepth 100000 in
theorem xg29 : xm_good 29 := xm_good_of (by decide +kernel)
set_option maxRecDepth 100000 in
theorem xg30 : xm_good 30 := xm_good_of (by decide +kernel)
set_option maxRecDepth 100000 in
theorem xg31 : xm_good 31 := xm_good_of (by decide +kernel)
set_option maxRecDepth 100000 in
theorem xg32 : xm_good 32 := xm_good_of (by decide +kernel)
set_option maxRecDepth 100000 in
theorem xg33 : xm_good 33 := xm_good_of (by decide +kernel)
set_option maxRecDepth 100000 in
theorem xg34 : xm_good 34 := xm_good_of (by decide +kernel)
set_option maxRecDepth 100000 in
theorem xg35 : xm_good 35 := xm_good_of (by decide +kernel)
set_option maxRecDepth 100000 in
theorem xg36 : xm_good 36 := xm_good_of (by decide +kernel)
set_option maxRecDepth 100000 in
theorem xg37 : xm_good 37 := xm_good_of (by decide +kernel)
set_option maxRecDepth 100000 in
theorem xg38 : xm_good 38 := xm_good_of (by decide +kernel)
set_option maxRecDepth 100000 in
theorem xg39 : xm_good 39 := xm_good_of (by decide +kernel)
set_option maxRecDepth 100000 in
theorem xg40 : xm_good 40 := xm_good_of (by decide +kernel)
set_option maxRecDepth 100000 in
theorem xg41 : xm_good 41 := xm_good_of (by decide +kernel)
set_option maxRecDepth 100000 in
theorem xg42 : xm_good 42 := xm_good_of (by decide +kernel)
set_option maxRecDepth 100000 in
theorem xg43 : xm_good 43 := xm_good_of (by decide +kernel)
set_option maxRecDepth 100000 in
theorem xg44 : xm_good 44 := xm_good_of (by decide +kernel)
set_option maxRecDepth 100000 in
theorem xg45 : xm_good 45 := xm_good_of (by decide +kernel)
set_option maxRecDepth 100000 in
theorem xg46 : xm_good 46 := xm_good_of (by decide +kernel)
set_option maxRecDepth 100000 in
theorem xg47 : xm_good 47 := xm_good_of (by decide +kernel)
set_option maxRecDepth 100000 in
theorem xg48 : xm_good 48 := xm_good_of (by decide +kernel)
set_option maxRecDepth 100000 in
theorem xg49 : xm_good 49 := xm_good_of (by decide +kernel)
set_option maxRecDepth 100000 in
theorem xg50 : xm_good 50 := xm_good_of (by decide +kernel)
set_option maxRecDepth 100000 in
theorem xg51 : xm_good 51 := xm_good_of (by decide +kernel)
set_option maxRecDepth 100000 in
theorem xg52 : xm_good 52 := xm_good_of (by decide +kernel)
set_option maxRecDepth 100000 in
theorem xg53 : xm_good 53 := xm_good_of (by decide +kernel)
set_option maxRecDepth 100000 in
theorem xg54 : xm_good 54 := xm_good_of (by decide +kernel)
set_option maxRecDepth 100000 in
theorem xg55 : xm_good 55 := xm_good_of (by decide +kernel)
set_option maxRecDepth 100000 in
theorem xg56 : xm_good 56 := xm_good_of (by decide +kernel)
set_option maxRecDepth 100000 in
theorem xg57 : xm_good 57 := xm_good_of (by decide +kernel)
set_option maxRecDepth 100000 in
theorem xg58 : xm_good 58 := xm_good_of (by decide +kernel)
set_option maxRecDepth 100000 in
theorem xg59 : xm_good 59 := xm_good_of (by decide +kernel)
