set_option maxRecDepth 100000 in
theorem xg120 : xm_good 120 := xm_good_of (by decide +kernel)
set_option maxRecDepth 100000 in
theorem xg121 : xm_good 121 := xm_good_of (by decide +kernel)
set_option maxRecDepth 100000 in
theorem xg122 : xm_good 122 := xm_good_of (by decide +kernel)
set_option maxRecDepth 100000 in
theorem xg123 : xm_good 123 := xm_good_of (by decide +kernel)
set_option maxRecDepth 100000 in
theorem xg124 : xm_good 124 := xm_good_of (by decide +kernel)
set_option maxRecDepth 100000 in
theorem xg125 : xm_good 125 := xm_good_of (by decide +kernel)
set_option maxRecDepth 100000 in
theorem xg126 : xm_good 126 := xm_good_of (by decide +kernel)
set_option maxRecDepth 100000 in
theorem xg127 : xm_good 127 := xm_good_of (by decide +kernel)
set_option maxRecDepth 100000 in
theorem xg128 : xm_good 128 := xm_good_of (by decide +kernel)
set_option maxRecDepth 100000 in
theorem xg129 : xm_good 129 := xm_good_of (by decide +kernel)
set_option maxRecDepth 100000 in
theorem xg130 : xm_good 130 := xm_good_of (by decide +kernel)
set_option maxRecDepth 100000 in
theorem xg131 : xm_good 131 := xm_good_of (by decide +kernel)
set_option maxRecDepth 100000 in
theorem xg132 : xm_good 132 := xm_good_of (by decide +kernel)
set_option maxRecDepth 100000 in
theorem xg133 : xm_good 133 := xm_good_of (by decide +kernel)
set_option maxRecDepth 100000 in
theorem xg134 : xm_good 134 := xm_good_of (by decide +kernel)
set_option maxRecDepth 100000 in
theorem xg135 : xm_good 135 := xm_good_of (by decide +kernel)
set_option maxRecDepth 100000 in
theorem xg136 : xm_good 136 := xm_good_of (by decide +kernel)
set_option maxRecDepth 100000 in
theorem xg137 : xm_good 137 := xm_good_of (by decide +kernel)
set_option maxRecDepth 100000 in
theorem xg138 : xm_good 138 := xm_good_of (by decide +kernel)
set_option maxRecDepth 100000 in
theorem xg139 : xm_good 139 := xm_good_of (by decide +kernel)
set_option maxRecDepth 100000 in
theorem xg140 : xm_good 140 := xm_good_of (by decide +kernel)
set_option maxRecDepth 100000 in
theorem xg141 : xm_good 141 := xm_good_of (by decide +kernel)
set_option maxRecDepth 100000 in
theorem xg142 : xm_good 142 := xm_good_of (by decide +kernel)
set_option maxRecDepth 100000 in
theorem xg143 : xm_good 143 := xm_good_of (by decide +kernel)
set_option maxRecDepth 100000 in
theorem xg144 : xm_good 144 := xm_good_of (by decide +kernel)
set_option maxRecDepth 100000 in
theorem xg145 : xm_good 145 := xm_good_of (by decide +kernel)
set_option maxRecDepth 100000 in
theorem xg146 : xm_good 146 := xm_good_of (by decide +kernel)
set_option maxRecDepth 100000 in
theorem xg147 : xm_good 147 := xm_good_of (by decide +kernel)
set_option maxRecDepth 100000 in
theorem xg148 : xm_good 148 := xm_good_of (by decide +kernel)
set_option maxRecDepth 100000 in
theorem xg149 : xm_good 149 := xm_good_of (by decide +kernel)
set_option maxRecDepth 100000 in
theorem xg150 : xm_good 150 := xm_good_of (by decide +kernel)
set_option maxRecDepth 100000 in
theorem xg151 : xm_good 151 := xm_good_of (by decide +kernel)
set_option maxRecDepth 100000 in
theorem xg152 : xm_good 152 := xm_good_of (by decide +kernel)
set_option maxRecDepth 100000 in
theorem xg153 : xm_good 153 := xm_good_of (by decide +kernel)
set_option maxRecDepth 100000 in
theorem xg154 : xm_good 154 := xm_good_of (by decide +kernel)
set_option maxRecDepth 100000 in
theorem xg155 : xm_good 155 := xm_good_of (by decide +kernel)
set_option maxRecDepth 100000 in
theorem xg156 : xm_good 156 := xm_good_of (by decide +kernel)
set_option maxRecDepth 100000 in
theorem xg157 : xm_good 157 := xm_good_of (by decide +kernel)
set_option maxRecDepth 100000 in
theorem xg158 : xm_good 158 := xm_good_of (by decide +kernel)
set_option maxRecDepth 100000 in
theorem xg159 : xm_good 159 := xm_good_of (by decide +kernel)
set_option maxRecDepth 100000 in
theorem xg160 : xm_good 160 := xm_good_of (by decide +kernel)
set_option maxRecDepth 100000 in
theorem xg161 : xm_good 161 := xm_good_of (by decide +kernel)
set_option maxRecDepth 100000 in
theorem xg162 : xm_good 162 := xm_good_of (by decide +kernel)
set_option maxRecDepth 100000 in
theorem xg163 : xm_good 163 := xm_good_of (by decide +kernel)
set_option maxRecDepth 100000 in
theorem xg164 : xm_good 164 := xm_good_of (by decide +kernel)
set_option maxRecDepth 100000 in
theorem xg165 : xm_good 165 := xm_good_of (by decide +kernel)
set_option maxRecDepth 100000 in
theorem xg166 : xm_good 166 := xm_good_of (by decide +kernel)
set_option maxRecDepth 100000 in
theorem xg167 : xm_good 167 := xm_good_of (by decide +kernel)
set_option maxRecDepth 100000 in
theorem xg168 : xm_good 168 := xm_good_of (by decide +kernel)
set_option maxRecDepth 100000 in
theorem xg169 : xm_good 169 := xm_good_of (by decide +kernel)
set_option maxRecDepth 100000 in
theorem xg170 : xm_good 170 := xm_good_of (by decide +kernel)
set_option maxRecDepth 100000 in
theorem xg171 : xm_good 171 := xm_good_of (by decide +kernel)
set_option maxRecDepth 100000 in
theorem xg172 : xm_good 172 := xm_good_of (by decide +kernel)
set_option maxRecDepth 100000 in
theorem xg173 : xm_good 173 := xm_good_of (by decide +kernel)
set_option maxRecDepth 100000 in
theorem xg174 : xm_good 174 := xm_good_of (by decide +kernel)
set_option maxRecDepth 100000 in
theorem xg175 : xm_good 175 := xm_good_of (by decide +kernel)
set_option maxRecDepth 100000 in
theorem xg176 : xm_good 176 := xm_good_of (by decide +kernel)
set_option maxRecDepth 100000 in
theorem xg177 : xm_good 177 := xm_good_of (by decide +kernel)
set_option maxRecDepth 100000 in
theorem xg178 : xm_good 178 := xm_good_of (by decide +kernel)
set_option maxRecDepth 100000 in
theorem xg179 : xm_good 179 := xm_good_of (by decide +kernel)
