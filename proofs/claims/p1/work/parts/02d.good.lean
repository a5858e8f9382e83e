set_option maxRecDepth 100000 in
theorem xg180 : xm_good 180 := xm_good_of (by decide +kernel)
set_option maxRecDepth 100000 in
theorem xg181 : xm_good 181 := xm_good_of (by decide +kernel)
set_option maxRecDepth 100000 in
theorem xg182 : xm_good 182 := xm_good_of (by decide +kernel)
set_option maxRecDepth 100000 in
theorem xg183 : xm_good 183 := xm_good_of (by decide +kernel)
set_option maxRecDepth 100000 in
theorem xg184 : xm_good 184 := xm_good_of (by decide +kernel)
set_option maxRecDepth 100000 in
theorem xg185 : xm_good 185 := xm_good_of (by decide +kernel)
set_option maxRecDepth 100000 in
theorem xg186 : xm_good 186 := xm_good_of (by decide +kernel)
set_option maxRecDepth 100000 in
theorem xg187 : xm_good 187 := xm_good_of (by decide +kernel)
set_option maxRecDepth 100000 in
theorem xg188 : xm_good 188 := xm_good_of (by decide +kernel)
set_option maxRecDepth 100000 in
theorem xg189 : xm_good 189 := xm_good_of (by decide +kernel)
set_option maxRecDepth 100000 in
theorem xg190 : xm_good 190 := xm_good_of (by decide +kernel)
set_option maxRecDepth 100000 in
theorem xg191 : xm_good 191 := xm_good_of (by decide +kernel)
set_option maxRecDepth 100000 in
theorem xg192 : xm_good 192 := xm_good_of (by decide +kernel)
set_option maxRecDepth 100000 in
theorem xg193 : xm_good 193 := xm_good_of (by decide +kernel)
set_option maxRecDepth 100000 in
theorem xg194 : xm_good 194 := xm_good_of (by decide +kernel)
set_option maxRecDepth 100000 in
theorem xg195 : xm_good 195 := xm_good_of (by decide +kernel)
set_option maxRecDepth 100000 in
theorem xg196 : xm_good 196 := xm_good_of (by decide +kernel)
set_option maxRecDepth 100000 in
theorem xg197 : xm_good 197 := xm_good_of (by decide +kernel)
set_option maxRecDepth 100000 in
theorem xg198 : xm_good 198 := xm_good_of (by decide +kernel)
set_option maxRecDepth 100000 in
theorem xg199 : xm_good 199 := xm_good_of (by decide +kernel)
set_option maxRecDepth 100000 in
theorem xg200 : xm_good 200 := xm_good_of (by decide +kernel)
set_option maxRecDepth 100000 in
theorem xg201 : xm_good 201 := xm_good_of (by decide +kernel)
set_option maxRecDepth 100000 in
theorem xg202 : xm_good 202 := xm_good_of (by decide +kernel)
set_option maxRecDepth 100000 in
theorem xg203 : xm_good 203 := xm_good_of (by decide +kernel)
set_option maxRecDepth 100000 in
theorem xg204 : xm_good 204 := xm_good_of (by decide +kernel)
set_option maxRecDepth 100000 in
theorem xg205 : xm_good 205 := xm_good_of (by decide +kernel)
set_option maxRecDepth 100000 in
theorem xg206 : xm_good 206 := xm_good_of (by decide +kernel)
set_option maxRecDepth 100000 in
theorem xg207 : xm_good 207 := xm_good_of (by decide +kernel)
set_option maxRecDepth 100000 in
theorem xg208 : xm_good 208 := xm_good_of (by decide +kernel)
set_option maxRecDepth 100000 in
theorem xg209 : xm_good 209 := xm_good_of (by decide +kernel)
set_option maxRecDepth 100000 in
theorem xg210 : xm_good 210 := xm_good_of (by decide +kernel)
set_option maxRecDepth 100000 in
theorem xg211 : xm_good 211 := xm_good_of (by decide +kernel)
set_option maxRecDepth 100000 in
theorem xg212 : xm_good 212 := xm_good_of (by decide +kernel)
set_option maxRecDepth 100000 in
theorem xg213 : xm_good 213 := xm_good_of (by decide +kernel)
set_option maxRecDepth 100000 in
theorem xg214 : xm_good 214 := xm_good_of (by decide +kernel)
set_option maxRecDepth 100000 in
theorem xg215 : xm_good 215 := xm_good_of (by decide +kernel)
set_option maxRecDepth 100000 in
theorem xg216 : xm_good 216 := xm_good_of (by decide +kernel)
set_option maxRecDepth 100000 in
theorem xg217 : xm_good 217 := xm_good_of (by decide +kernel)
set_option maxRecDepth 100000 in
theorem xg218 : xm_good 218 := xm_good_of (by decide +kernel)
set_option maxRecDepth 100000 in
theorem xg219 : xm_good 219 := xm_good_of (by decide +kernel)
set_option maxRecDepth 100000 in
theorem xg220 : xm_good 220 := xm_good_of (by decide +kernel)
set_option maxRecDepth 100000 in
theorem xg221 : xm_good 221 := xm_good_of (by decide +kernel)
set_option maxRecDepth 100000 in
theorem xg222 : xm_good 222 := xm_good_of (by decide +kernel)
set_option maxRecDepth 100000 in
theorem xg223 : xm_good 223 := xm_good_of (by decide +kernel)
set_option maxRecDepth 100000 in
theorem xg224 : xm_good 224 := xm_good_of (by decide +kernel)
set_option maxRecDepth 100000 in
theorem xg225 : xm_good 225 := xm_good_of (by decide +kernel)
set_option maxRecDepth 100000 in
theorem xg226 : xm_good 226 := xm_good_of (by decide +kernel)
set_option maxRecDepth 100000 in
theorem xg227 : xm_good 227 := xm_good_of (by decide +kernel)
set_option maxRecDepth 100000 in
theorem xg228 : xm_good 228 := xm_good_of (by decide +kernel)
set_option maxRecDepth 100000 in
theorem xg229 : xm_good 229 := xm_good_of (by decide +kernel)
set_option maxRecDepth 100000 in
theorem xg230 : xm_good 230 := xm_good_of (by decide +kernel)
set_option maxRecDepth 100000 in
theorem xg231 : xm_good 231 := xm_good_of (by decide +kernel)
set_option maxRecDepth 100000 in
theorem xg232 : xm_good 232 := xm_good_of (by decide +kernel)
set_option maxRecDepth 100000 in
theorem xg233 : xm_good 233 := xm_good_of (by decide +kernel)
set_option maxRecDepth 100000 in
theorem xg234 : xm_good 234 := xm_good_of (by decide +kernel)
set_option maxRecDepth 100000 in
theorem xg235 : xm_good 235 := xm_good_of (by decide +kernel)
set_option maxRecDepth 100000 in
theorem xg236 : xm_good 236 := xm_good_of (by decide +kernel)
set_option maxRecDepth 100000 in
theorem xg237 : xm_good 237 := xm_good_of (by decide +kernel)
set_option maxRecDepth 100000 in
theorem xg238 : xm_good 238 := xm_good_of (by decide +kernel)
set_option maxRecDepth 100000 in
theorem xg239 : xm_good 239 := xm_good_of (by decide +kernel)
set_option maxRecDepth 100000 in
theorem xg240 : xm_good 240 := xm_good_of (by decide +kernel)
