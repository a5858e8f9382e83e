set_option maxRecDepth 100000 in
theorem xg241 : xm_good 241 := xm_good_of (by decide +kernel)
set_option maxRecDepth 100000 in
theorem xg242 : xm_good 242 := xm_good_of (by decide +kernel)
set_option maxRecDepth 100000 in
theorem xg243 : xm_good 243 := xm_good_of (by decide +kernel)
set_option maxRecDepth 100000 in
theorem xg244 : xm_good 244 := xm_good_of (by decide +kernel)
set_option maxRecDepth 100000 in
theorem xg245 : xm_good 245 := xm_good_of (by decide +kernel)
set_option maxRecDepth 100000 in
theorem xg246 : xm_good 246 := xm_good_of (by decide +kernel)
set_option maxRecDepth 100000 in
theorem xg247 : xm_good 247 := xm_good_of (by decide +kernel)
set_option maxRecDepth 100000 in
theorem xg248 : xm_good 248 := xm_good_of (by decide +kernel)
set_option maxRecDepth 100000 in
theorem xg249 : xm_good 249 := xm_good_of (by decide +kernel)
set_option maxRecDepth 100000 in
theorem xg250 : xm_good 250 := xm_good_of (by decide +kernel)
set_option maxRecDepth 100000 in
theorem xg251 : xm_good 251 := xm_good_of (by decide +kernel)
