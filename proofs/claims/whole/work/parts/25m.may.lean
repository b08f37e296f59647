theorem sh142 : SH[142]? = some (0, 12, ax_fl 12) := by decide +kernel
theorem mayR {j n : Nat} {as : List ax_V} (k : ax_kd j = 1 ∧ ax_own j = 12 ∧ ax_ml j = n) (h : Nat.ble (ax_ent ((2, 142) :: as)).length n = true) : ax_may j SH ((2, 142) :: as) = true := by
  unfold ax_may
  rw [k.1, k.2.2, decide_eq_true (Nat.le_of_ble_eq_true h), Bool.true_and]
  show (decide ((0 : Int) ≤ 142 ∧ SH[142]? = some (0, ax_own j, ax_fl (ax_own j))) || _) = true
  rw [k.2.1, decide_eq_true ⟨by decide, sh142⟩, Bool.true_or]
theorem mayS {j n : Nat} {as : List ax_V} (k : ax_kd j = 0 ∧ ax_ml j = n) (h : Nat.ble (ax_ent as).length n = true) : ax_may j SH as = true := by
  unfold ax_may
  rw [k.1, k.2, decide_eq_true (Nat.le_of_ble_eq_true h), Bool.true_and]
  cases as <;> rfl
theorem k153 : ax_kd 153 = 0 ∧ ax_ml 153 = 6 := by decide +kernel
theorem k154 : ax_kd 154 = 1 ∧ ax_own 154 = 12 ∧ ax_ml 154 = 8 := by decide +kernel
theorem k155 : ax_kd 155 = 1 ∧ ax_own 155 = 12 ∧ ax_ml 155 = 2 := by decide +kernel
theorem k156 : ax_kd 156 = 1 ∧ ax_own 156 = 12 ∧ ax_ml 156 = 3 := by decide +kernel
theorem k157 : ax_kd 157 = 0 ∧ ax_ml 157 = 1 := by decide +kernel
theorem k158 : ax_kd 158 = 0 ∧ ax_ml 158 = 1 := by decide +kernel
theorem k159 : ax_kd 159 = 1 ∧ ax_own 159 = 12 ∧ ax_ml 159 = 1 := by decide +kernel
theorem k160 : ax_kd 160 = 1 ∧ ax_own 160 = 12 ∧ ax_ml 160 = 4 := by decide +kernel
theorem k161 : ax_kd 161 = 1 ∧ ax_own 161 = 12 ∧ ax_ml 161 = 2 := by decide +kernel
theorem k162 : ax_kd 162 = 1 ∧ ax_own 162 = 12 ∧ ax_ml 162 = 2 := by decide +kernel
theorem k163 : ax_kd 163 = 1 ∧ ax_own 163 = 12 ∧ ax_ml 163 = 2 := by decide +kernel
theorem k164 : ax_kd 164 = 1 ∧ ax_own 164 = 12 ∧ ax_ml 164 = 2 := by decide +kernel
theorem k165 : ax_kd 165 = 1 ∧ ax_own 165 = 12 ∧ ax_ml 165 = 5 := by decide +kernel
theorem k166 : ax_kd 166 = 1 ∧ ax_own 166 = 12 ∧ ax_ml 166 = 2 := by decide +kernel
theorem k167 : ax_kd 167 = 1 ∧ ax_own 167 = 12 ∧ ax_ml 167 = 3 := by decide +kernel
theorem k168 : ax_kd 168 = 1 ∧ ax_own 168 = 12 ∧ ax_ml 168 = 2 := by decide +kernel
theorem k169 : ax_kd 169 = 1 ∧ ax_own 169 = 12 ∧ ax_ml 169 = 4 := by decide +kernel
theorem k170 : ax_kd 170 = 1 ∧ ax_own 170 = 12 ∧ ax_ml 170 = 5 := by decide +kernel
theorem k171 : ax_kd 171 = 1 ∧ ax_own 171 = 12 ∧ ax_ml 171 = 4 := by decide +kernel
theorem k172 : ax_kd 172 = 1 ∧ ax_own 172 = 12 ∧ ax_ml 172 = 5 := by decide +kernel
theorem k173 : ax_kd 173 = 1 ∧ ax_own 173 = 12 ∧ ax_ml 173 = 4 := by decide +kernel
theorem k174 : ax_kd 174 = 1 ∧ ax_own 174 = 12 ∧ ax_ml 174 = 4 := by decide +kernel
theorem k175 : ax_kd 175 = 1 ∧ ax_own 175 = 12 ∧ ax_ml 175 = 7 := by decide +kernel
theorem k176 : ax_kd 176 = 1 ∧ ax_own 176 = 12 ∧ ax_ml 176 = 5 := by decide +kernel
theorem k177 : ax_kd 177 = 1 ∧ ax_own 177 = 12 ∧ ax_ml 177 = 9 := by decide +kernel
theorem k178 : ax_kd 178 = 1 ∧ ax_own 178 = 12 ∧ ax_ml 178 = 4 := by decide +kernel
theorem k179 : ax_kd 179 = 1 ∧ ax_own 179 = 12 ∧ ax_ml 179 = 2 := by decide +kernel
theorem k180 : ax_kd 180 = 1 ∧ ax_own 180 = 12 ∧ ax_ml 180 = 2 := by decide +kernel
theorem k181 : ax_kd 181 = 1 ∧ ax_own 181 = 12 ∧ ax_ml 181 = 2 := by decide +kernel
theorem k182 : ax_kd 182 = 1 ∧ ax_own 182 = 12 ∧ ax_ml 182 = 2 := by decide +kernel
theorem k183 : ax_kd 183 = 1 ∧ ax_own 183 = 12 ∧ ax_ml 183 = 1 := by decide +kernel
theorem k184 : ax_kd 184 = 1 ∧ ax_own 184 = 12 ∧ ax_ml 184 = 1 := by decide +kernel
theorem k185 : ax_kd 185 = 1 ∧ ax_own 185 = 12 ∧ ax_ml 185 = 1 := by decide +kernel
theorem k186 : ax_kd 186 = 1 ∧ ax_own 186 = 12 ∧ ax_ml 186 = 1 := by decide +kernel
theorem k187 : ax_kd 187 = 1 ∧ ax_own 187 = 12 ∧ ax_ml 187 = 2 := by decide +kernel
theorem k188 : ax_kd 188 = 1 ∧ ax_own 188 = 12 ∧ ax_ml 188 = 2 := by decide +kernel
theorem k189 : ax_kd 189 = 1 ∧ ax_own 189 = 12 ∧ ax_ml 189 = 2 := by decide +kernel
theorem k190 : ax_kd 190 = 1 ∧ ax_own 190 = 12 ∧ ax_ml 190 = 2 := by decide +kernel
theorem k191 : ax_kd 191 = 1 ∧ ax_own 191 = 12 ∧ ax_ml 191 = 2 := by decide +kernel
theorem k192 : ax_kd 192 = 1 ∧ ax_own 192 = 12 ∧ ax_ml 192 = 2 := by decide +kernel
theorem k193 : ax_kd 193 = 0 ∧ ax_ml 193 = 4 := by decide +kernel
theorem k194 : ax_kd 194 = 1 ∧ ax_own 194 = 12 ∧ ax_ml 194 = 4 := by decide +kernel
theorem k195 : ax_kd 195 = 1 ∧ ax_own 195 = 12 ∧ ax_ml 195 = 3 := by decide +kernel
theorem k196 : ax_kd 196 = 1 ∧ ax_own 196 = 12 ∧ ax_ml 196 = 5 := by decide +kernel
theorem k197 : ax_kd 197 = 1 ∧ ax_own 197 = 12 ∧ ax_ml 197 = 2 := by decide +kernel
theorem k198 : ax_kd 198 = 1 ∧ ax_own 198 = 12 ∧ ax_ml 198 = 5 := by decide +kernel
theorem k199 : ax_kd 199 = 1 ∧ ax_own 199 = 12 ∧ ax_ml 199 = 6 := by decide +kernel
theorem k200 : ax_kd 200 = 1 ∧ ax_own 200 = 12 ∧ ax_ml 200 = 2 := by decide +kernel
theorem k201 : ax_kd 201 = 1 ∧ ax_own 201 = 12 ∧ ax_ml 201 = 5 := by decide +kernel
theorem k202 : ax_kd 202 = 1 ∧ ax_own 202 = 12 ∧ ax_ml 202 = 2 := by decide +kernel
theorem k203 : ax_kd 203 = 1 ∧ ax_own 203 = 12 ∧ ax_ml 203 = 4 := by decide +kernel
theorem k204 : ax_kd 204 = 1 ∧ ax_own 204 = 12 ∧ ax_ml 204 = 5 := by decide +kernel
theorem k205 : ax_kd 205 = 1 ∧ ax_own 205 = 12 ∧ ax_ml 205 = 2 := by decide +kernel
theorem k206 : ax_kd 206 = 1 ∧ ax_own 206 = 12 ∧ ax_ml 206 = 4 := by decide +kernel
theorem k207 : ax_kd 207 = 1 ∧ ax_own 207 = 12 ∧ ax_ml 207 = 3 := by decide +kernel
theorem k208 : ax_kd 208 = 1 ∧ ax_own 208 = 12 ∧ ax_ml 208 = 2 := by decide +kernel
theorem k209 : ax_kd 209 = 1 ∧ ax_own 209 = 12 ∧ ax_ml 209 = 3 := by decide +kernel
theorem k210 : ax_kd 210 = 1 ∧ ax_own 210 = 12 ∧ ax_ml 210 = 4 := by decide +kernel
theorem k211 : ax_kd 211 = 1 ∧ ax_own 211 = 12 ∧ ax_ml 211 = 3 := by decide +kernel
theorem k212 : ax_kd 212 = 1 ∧ ax_own 212 = 12 ∧ ax_ml 212 = 4 := by decide +kernel
theorem k213 : ax_kd 213 = 1 ∧ ax_own 213 = 12 ∧ ax_ml 213 = 2 := by decide +kernel
theorem k214 : ax_kd 214 = 1 ∧ ax_own 214 = 12 ∧ ax_ml 214 = 2 := by decide +kernel
theorem k215 : ax_kd 215 = 1 ∧ ax_own 215 = 12 ∧ ax_ml 215 = 4 := by decide +kernel
theorem k216 : ax_kd 216 = 1 ∧ ax_own 216 = 12 ∧ ax_ml 216 = 3 := by decide +kernel
theorem k217 : ax_kd 217 = 1 ∧ ax_own 217 = 12 ∧ ax_ml 217 = 2 := by decide +kernel
theorem k218 : ax_kd 218 = 1 ∧ ax_own 218 = 12 ∧ ax_ml 218 = 9 := by decide +kernel
theorem k219 : ax_kd 219 = 1 ∧ ax_own 219 = 12 ∧ ax_ml 219 = 2 := by decide +kernel
theorem k220 : ax_kd 220 = 1 ∧ ax_own 220 = 12 ∧ ax_ml 220 = 3 := by decide +kernel
theorem k221 : ax_kd 221 = 1 ∧ ax_own 221 = 12 ∧ ax_ml 221 = 5 := by decide +kernel
theorem k222 : ax_kd 222 = 1 ∧ ax_own 222 = 12 ∧ ax_ml 222 = 3 := by decide +kernel
theorem k223 : ax_kd 223 = 1 ∧ ax_own 223 = 12 ∧ ax_ml 223 = 3 := by decide +kernel
theorem k224 : ax_kd 224 = 1 ∧ ax_own 224 = 12 ∧ ax_ml 224 = 3 := by decide +kernel
theorem k225 : ax_kd 225 = 1 ∧ ax_own 225 = 12 ∧ ax_ml 225 = 2 := by decide +kernel
theorem k226 : ax_kd 226 = 1 ∧ ax_own 226 = 12 ∧ ax_ml 226 = 2 := by decide +kernel
theorem k227 : ax_kd 227 = 1 ∧ ax_own 227 = 12 ∧ ax_ml 227 = 3 := by decide +kernel
theorem k228 : ax_kd 228 = 1 ∧ ax_own 228 = 12 ∧ ax_ml 228 = 3 := by decide +kernel
theorem k229 : ax_kd 229 = 1 ∧ ax_own 229 = 12 ∧ ax_ml 229 = 1 := by decide +kernel
theorem k230 : ax_kd 230 = 1 ∧ ax_own 230 = 12 ∧ ax_ml 230 = 1 := by decide +kernel
theorem k231 : ax_kd 231 = 1 ∧ ax_own 231 = 12 ∧ ax_ml 231 = 7 := by decide +kernel
theorem k232 : ax_kd 232 = 1 ∧ ax_own 232 = 12 ∧ ax_ml 232 = 6 := by decide +kernel
theorem k233 : ax_kd 233 = 1 ∧ ax_own 233 = 12 ∧ ax_ml 233 = 4 := by decide +kernel
theorem k234 : ax_kd 234 = 0 ∧ ax_ml 234 = 3 := by decide +kernel
theorem k235 : ax_kd 235 = 1 ∧ ax_own 235 = 12 ∧ ax_ml 235 = 3 := by decide +kernel
theorem k236 : ax_kd 236 = 1 ∧ ax_own 236 = 12 ∧ ax_ml 236 = 3 := by decide +kernel
theorem k237 : ax_kd 237 = 1 ∧ ax_own 237 = 12 ∧ ax_ml 237 = 3 := by decide +kernel
theorem k238 : ax_kd 238 = 1 ∧ ax_own 238 = 12 ∧ ax_ml 238 = 3 := by decide +kernel
theorem k239 : ax_kd 239 = 1 ∧ ax_own 239 = 12 ∧ ax_ml 239 = 3 := by decide +kernel
theorem k240 : ax_kd 240 = 0 ∧ ax_ml 240 = 2 := by decide +kernel
theorem k241 : ax_kd 241 = 1 ∧ ax_own 241 = 12 ∧ ax_ml 241 = 3 := by decide +kernel
theorem k242 : ax_kd 242 = 1 ∧ ax_own 242 = 12 ∧ ax_ml 242 = 8 := by decide +kernel
theorem k243 : ax_kd 243 = 1 ∧ ax_own 243 = 12 ∧ ax_ml 243 = 6 := by decide +kernel
theorem k244 : ax_kd 244 = 1 ∧ ax_own 244 = 12 ∧ ax_ml 244 = 1 := by decide +kernel
theorem k245 : ax_kd 245 = 1 ∧ ax_own 245 = 12 ∧ ax_ml 245 = 2 := by decide +kernel
theorem k246 : ax_kd 246 = 1 ∧ ax_own 246 = 12 ∧ ax_ml 246 = 3 := by decide +kernel
theorem k247 : ax_kd 247 = 1 ∧ ax_own 247 = 12 ∧ ax_ml 247 = 2 := by decide +kernel
theorem k248 : ax_kd 248 = 1 ∧ ax_own 248 = 12 ∧ ax_ml 248 = 4 := by decide +kernel
theorem k249 : ax_kd 249 = 1 ∧ ax_own 249 = 12 ∧ ax_ml 249 = 2 := by decide +kernel
theorem k250 : ax_kd 250 = 1 ∧ ax_own 250 = 12 ∧ ax_ml 250 = 3 := by decide +kernel
theorem k251 : ax_kd 251 = 1 ∧ ax_own 251 = 12 ∧ ax_ml 251 = 4 := by decide +kernel
theorem k252 : ax_kd 252 = 1 ∧ ax_own 252 = 12 ∧ ax_ml 252 = 5 := by decide +kernel
theorem k253 : ax_kd 253 = 1 ∧ ax_own 253 = 12 ∧ ax_ml 253 = 7 := by decide +kernel
theorem k254 : ax_kd 254 = 1 ∧ ax_own 254 = 12 ∧ ax_ml 254 = 2 := by decide +kernel
theorem k255 : ax_kd 255 = 1 ∧ ax_own 255 = 12 ∧ ax_ml 255 = 2 := by decide +kernel
theorem k256 : ax_kd 256 = 1 ∧ ax_own 256 = 12 ∧ ax_ml 256 = 1 := by decide +kernel
theorem k257 : ax_kd 257 = 1 ∧ ax_own 257 = 12 ∧ ax_ml 257 = 3 := by decide +kernel
theorem k258 : ax_kd 258 = 1 ∧ ax_own 258 = 12 ∧ ax_ml 258 = 3 := by decide +kernel
theorem k259 : ax_kd 259 = 1 ∧ ax_own 259 = 12 ∧ ax_ml 259 = 2 := by decide +kernel
theorem k260 : ax_kd 260 = 1 ∧ ax_own 260 = 12 ∧ ax_ml 260 = 2 := by decide +kernel
theorem k261 : ax_kd 261 = 1 ∧ ax_own 261 = 12 ∧ ax_ml 261 = 2 := by decide +kernel
theorem k262 : ax_kd 262 = 1 ∧ ax_own 262 = 12 ∧ ax_ml 262 = 4 := by decide +kernel
theorem k263 : ax_kd 263 = 1 ∧ ax_own 263 = 12 ∧ ax_ml 263 = 2 := by decide +kernel
theorem k264 : ax_kd 264 = 1 ∧ ax_own 264 = 12 ∧ ax_ml 264 = 3 := by decide +kernel
theorem k265 : ax_kd 265 = 1 ∧ ax_own 265 = 12 ∧ ax_ml 265 = 2 := by decide +kernel
theorem k266 : ax_kd 266 = 1 ∧ ax_own 266 = 12 ∧ ax_ml 266 = 1 := by decide +kernel
theorem k267 : ax_kd 267 = 0 ∧ ax_ml 267 = 1 := by decide +kernel
theorem k268 : ax_kd 268 = 1 ∧ ax_own 268 = 12 ∧ ax_ml 268 = 2 := by decide +kernel
theorem k269 : ax_kd 269 = 1 ∧ ax_own 269 = 12 ∧ ax_ml 269 = 1 := by decide +kernel
theorem k270 : ax_kd 270 = 1 ∧ ax_own 270 = 12 ∧ ax_ml 270 = 1 := by decide +kernel
theorem k271 : ax_kd 271 = 1 ∧ ax_own 271 = 12 ∧ ax_ml 271 = 4 := by decide +kernel
theorem k272 : ax_kd 272 = 1 ∧ ax_own 272 = 12 ∧ ax_ml 272 = 2 := by decide +kernel
theorem k273 : ax_kd 273 = 1 ∧ ax_own 273 = 12 ∧ ax_ml 273 = 1 := by decide +kernel
theorem k274 : ax_kd 274 = 1 ∧ ax_own 274 = 12 ∧ ax_ml 274 = 6 := by decide +kernel
theorem k275 : ax_kd 275 = 1 ∧ ax_own 275 = 12 ∧ ax_ml 275 = 2 := by decide +kernel
theorem k276 : ax_kd 276 = 1 ∧ ax_own 276 = 12 ∧ ax_ml 276 = 3 := by decide +kernel
theorem k277 : ax_kd 277 = 1 ∧ ax_own 277 = 12 ∧ ax_ml 277 = 2 := by decide +kernel
theorem k278 : ax_kd 278 = 1 ∧ ax_own 278 = 12 ∧ ax_ml 278 = 2 := by decide +kernel
theorem k279 : ax_kd 279 = 1 ∧ ax_own 279 = 12 ∧ ax_ml 279 = 1 := by decide +kernel
theorem k280 : ax_kd 280 = 1 ∧ ax_own 280 = 12 ∧ ax_ml 280 = 3 := by decide +kernel
theorem k281 : ax_kd 281 = 1 ∧ ax_own 281 = 12 ∧ ax_ml 281 = 1 := by decide +kernel
theorem k282 : ax_kd 282 = 0 ∧ ax_ml 282 = 2 := by decide +kernel
theorem k283 : ax_kd 283 = 0 ∧ ax_ml 283 = 6 := by decide +kernel
theorem k284 : ax_kd 284 = 1 ∧ ax_own 284 = 12 ∧ ax_ml 284 = 3 := by decide +kernel
theorem k285 : ax_kd 285 = 1 ∧ ax_own 285 = 12 ∧ ax_ml 285 = 6 := by decide +kernel
theorem k286 : ax_kd 286 = 1 ∧ ax_own 286 = 12 ∧ ax_ml 286 = 3 := by decide +kernel
theorem k287 : ax_kd 287 = 1 ∧ ax_own 287 = 12 ∧ ax_ml 287 = 5 := by decide +kernel
theorem k288 : ax_kd 288 = 1 ∧ ax_own 288 = 12 ∧ ax_ml 288 = 4 := by decide +kernel
theorem k289 : ax_kd 289 = 1 ∧ ax_own 289 = 12 ∧ ax_ml 289 = 2 := by decide +kernel
theorem k290 : ax_kd 290 = 1 ∧ ax_own 290 = 12 ∧ ax_ml 290 = 6 := by decide +kernel
theorem k291 : ax_kd 291 = 1 ∧ ax_own 291 = 12 ∧ ax_ml 291 = 3 := by decide +kernel
theorem k292 : ax_kd 292 = 0 ∧ ax_ml 292 = 4 := by decide +kernel
theorem k293 : ax_kd 293 = 1 ∧ ax_own 293 = 12 ∧ ax_ml 293 = 2 := by decide +kernel
theorem k294 : ax_kd 294 = 1 ∧ ax_own 294 = 12 ∧ ax_ml 294 = 2 := by decide +kernel
theorem k295 : ax_kd 295 = 1 ∧ ax_own 295 = 12 ∧ ax_ml 295 = 3 := by decide +kernel
theorem k296 : ax_kd 296 = 1 ∧ ax_own 296 = 12 ∧ ax_ml 296 = 2 := by decide +kernel
theorem k297 : ax_kd 297 = 1 ∧ ax_own 297 = 12 ∧ ax_ml 297 = 2 := by decide +kernel
theorem k298 : ax_kd 298 = 1 ∧ ax_own 298 = 12 ∧ ax_ml 298 = 5 := by decide +kernel
theorem k299 : ax_kd 299 = 1 ∧ ax_own 299 = 12 ∧ ax_ml 299 = 5 := by decide +kernel
theorem k300 : ax_kd 300 = 1 ∧ ax_own 300 = 12 ∧ ax_ml 300 = 2 := by decide +kernel
theorem sh90 : SH[90]? = some (1, 0, 8) := by decide +kernel
theorem sh91 : SH[91]? = some (1, 0, 8) := by decide +kernel
theorem sh92 : SH[92]? = some (1, 0, 8) := by decide +kernel
theorem sh93 : SH[93]? = some (1, 0, 8) := by decide +kernel
theorem sh94 : SH[94]? = some (1, 4, 8) := by decide +kernel
theorem sh95 : SH[95]? = some (1, 0, 8) := by decide +kernel
theorem sh96 : SH[96]? = some (1, 0, 8) := by decide +kernel
theorem sh97 : SH[97]? = some (1, 0, 8) := by decide +kernel
theorem sh98 : SH[98]? = some (1, 0, 8) := by decide +kernel
theorem sh99 : SH[99]? = some (1, 0, 8) := by decide +kernel
theorem sh100 : SH[100]? = some (1, 0, 8) := by decide +kernel
theorem sh101 : SH[101]? = some (1, 0, 8) := by decide +kernel
theorem sh102 : SH[102]? = some (1, 0, 8) := by decide +kernel
theorem sh103 : SH[103]? = some (1, 0, 8) := by decide +kernel
theorem sh104 : SH[104]? = some (1, 0, 10) := by decide +kernel
theorem sh105 : SH[105]? = some (1, 0, 10) := by decide +kernel
theorem sh106 : SH[106]? = some (1, 0, 5) := by decide +kernel
theorem sh107 : SH[107]? = some (0, 6, ax_fl 6) := by decide +kernel
theorem sh108 : SH[108]? = some (1, 0, 5) := by decide +kernel
theorem sh109 : SH[109]? = some (1, 0, 5) := by decide +kernel
theorem sh110 : SH[110]? = some (0, 0, ax_fl 0) := by decide +kernel
theorem sh111 : SH[111]? = some (1, 0, 8) := by decide +kernel
theorem sh112 : SH[112]? = some (1, 0, 8) := by decide +kernel
theorem sh113 : SH[113]? = some (1, 5, 8) := by decide +kernel
theorem sh114 : SH[114]? = some (1, 1, 8) := by decide +kernel
theorem sh115 : SH[115]? = some (1, 1, 8) := by decide +kernel
theorem sh116 : SH[116]? = some (1, 1, 8) := by decide +kernel
theorem sh117 : SH[117]? = some (1, 1, 8) := by decide +kernel
theorem sh118 : SH[118]? = some (1, 1, 8) := by decide +kernel
theorem sh119 : SH[119]? = some (1, 1, 8) := by decide +kernel
theorem sh120 : SH[120]? = some (1, 1, 8) := by decide +kernel
theorem sh121 : SH[121]? = some (1, 1, 8) := by decide +kernel
theorem sh122 : SH[122]? = some (0, 9, ax_fl 9) := by decide +kernel
theorem sh123 : SH[123]? = some (1, 0, 16) := by decide +kernel
theorem sh124 : SH[124]? = some (1, 0, 16) := by decide +kernel
theorem sh125 : SH[125]? = some (1, 0, 11) := by decide +kernel
theorem sh126 : SH[126]? = some (1, 4, 11) := by decide +kernel
theorem sh127 : SH[127]? = some (1, 0, 8) := by decide +kernel
theorem sh128 : SH[128]? = some (1, 0, 8) := by decide +kernel
theorem sh129 : SH[129]? = some (1, 0, 8) := by decide +kernel
theorem sh130 : SH[130]? = some (1, 0, 8) := by decide +kernel
theorem sh131 : SH[131]? = some (1, 0, 8) := by decide +kernel
theorem sh132 : SH[132]? = some (1, 0, 8) := by decide +kernel
theorem sh133 : SH[133]? = some (1, 0, 8) := by decide +kernel
theorem sh134 : SH[134]? = some (1, 0, 8) := by decide +kernel
theorem sh135 : SH[135]? = some (1, 0, 8) := by decide +kernel
theorem sh136 : SH[136]? = some (1, 0, 8) := by decide +kernel
theorem sh137 : SH[137]? = some (1, 0, 8) := by decide +kernel
theorem sh138 : SH[138]? = some (1, 0, 7) := by decide +kernel
theorem sh139 : SH[139]? = some (1, 0, 74) := by decide +kernel
theorem sh140 : SH[140]? = some (1, 0, 6) := by decide +kernel
theorem sh141 : SH[141]? = some (1, 0, 44) := by decide +kernel
theorem sh143 : SH[143]? = some (1, 0, 1600) := by decide +kernel
theorem sh144 : SH[144]? = some (1, 0, 6) := by decide +kernel
theorem sh145 : SH[145]? = some (1, 2, 4) := by decide +kernel
theorem sh146 : SH[146]? = some (1, 2, 5) := by decide +kernel
theorem sh147 : SH[147]? = some (1, 2, 2) := by decide +kernel
theorem sh148 : SH[148]? = some (1, 2, 4) := by decide +kernel
theorem sh149 : SH[149]? = some (1, 2, 4) := by decide +kernel
theorem sh150 : SH[150]? = some (1, 2, 4) := by decide +kernel
theorem sh151 : SH[151]? = some (1, 2, 5) := by decide +kernel
theorem sh152 : SH[152]? = some (1, 2, 2) := by decide +kernel
theorem sh153 : SH[153]? = some (1, 2, 2) := by decide +kernel
theorem sh154 : SH[154]? = some (1, 2, 4) := by decide +kernel
theorem sh155 : SH[155]? = some (1, 2, 3) := by decide +kernel
theorem sh156 : SH[156]? = some (1, 2, 5) := by decide +kernel
theorem sh157 : SH[157]? = some (1, 2, 4) := by decide +kernel
theorem sh158 : SH[158]? = some (1, 2, 5) := by decide +kernel
theorem sh159 : SH[159]? = some (1, 2, 5) := by decide +kernel
theorem sh160 : SH[160]? = some (1, 2, 5) := by decide +kernel
theorem sh161 : SH[161]? = some (1, 2, 5) := by decide +kernel
theorem sh162 : SH[162]? = some (1, 2, 6) := by decide +kernel
theorem sh163 : SH[163]? = some (1, 2, 5) := by decide +kernel
theorem sh164 : SH[164]? = some (1, 2, 5) := by decide +kernel
theorem sh165 : SH[165]? = some (1, 2, 4) := by decide +kernel
theorem sh166 : SH[166]? = some (1, 2, 6) := by decide +kernel
theorem sh167 : SH[167]? = some (1, 2, 3) := by decide +kernel
theorem sh168 : SH[168]? = some (1, 2, 6) := by decide +kernel
theorem sh169 : SH[169]? = some (1, 2, 5) := by decide +kernel
theorem sh170 : SH[170]? = some (1, 2, 2) := by decide +kernel
theorem sh171 : SH[171]? = some (1, 2, 3) := by decide +kernel
theorem sh172 : SH[172]? = some (1, 2, 3) := by decide +kernel
theorem sh173 : SH[173]? = some (1, 2, 3) := by decide +kernel
theorem sh174 : SH[174]? = some (1, 2, 3) := by decide +kernel
theorem sh175 : SH[175]? = some (1, 2, 3) := by decide +kernel
theorem sh176 : SH[176]? = some (1, 0, 8) := by decide +kernel
theorem sh177 : SH[177]? = some (1, 1, 48) := by decide +kernel
theorem sh178 : SH[178]? = some (1, 0, 60) := by decide +kernel
theorem sh179 : SH[179]? = some (1, 0, 5) := by decide +kernel
theorem sh180 : SH[180]? = some (1, 0, 64) := by decide +kernel
theorem sh181 : SH[181]? = some (1, 0, 6) := by decide +kernel
theorem sh182 : SH[182]? = some (1, 0, 4) := by decide +kernel
theorem sh183 : SH[183]? = some (1, 0, 4) := by decide +kernel
theorem sh184 : SH[184]? = some (1, 0, 3200) := by decide +kernel
theorem sh185 : SH[185]? = some (1, 0, 44) := by decide +kernel
theorem sh186 : SH[186]? = some (1, 0, 44) := by decide +kernel
theorem sh187 : SH[187]? = some (1, 0, 8) := by decide +kernel
theorem sh188 : SH[188]? = some (1, 0, 10) := by decide +kernel
theorem sh189 : SH[189]? = some (1, 0, 8) := by decide +kernel
theorem sh190 : SH[190]? = some (1, 0, 8) := by decide +kernel
theorem sh191 : SH[191]? = some (1, 0, 8) := by decide +kernel
theorem sh192 : SH[192]? = some (1, 0, 72) := by decide +kernel
theorem sh193 : SH[193]? = some (1, 0, 64) := by decide +kernel
theorem sh194 : SH[194]? = some (1, 0, 5) := by decide +kernel
theorem sh195 : SH[195]? = some (1, 0, 5) := by decide +kernel
theorem sh196 : SH[196]? = some (1, 0, 5) := by decide +kernel
theorem sh197 : SH[197]? = some (1, 1, 64) := by decide +kernel
theorem sh198 : SH[198]? = some (1, 1, 256) := by decide +kernel
theorem sh199 : SH[199]? = some (1, 0, 8) := by decide +kernel
theorem sh200 : SH[200]? = some (1, 0, 32) := by decide +kernel
theorem sh201 : SH[201]? = some (1, 0, 88) := by decide +kernel
theorem sh202 : SH[202]? = some (1, 3, 11) := by decide +kernel
theorem sh203 : SH[203]? = some (1, 0, 880) := by decide +kernel
theorem sh204 : SH[204]? = some (1, 2, 5) := by decide +kernel
theorem sh205 : SH[205]? = some (1, 2, 4) := by decide +kernel
theorem sh206 : SH[206]? = some (1, 2, 5) := by decide +kernel
theorem sh207 : SH[207]? = some (1, 2, 5) := by decide +kernel
theorem sh208 : SH[208]? = some (1, 2, 4) := by decide +kernel
theorem sh209 : SH[209]? = some (1, 2, 5) := by decide +kernel
theorem sh210 : SH[210]? = some (1, 2, 3) := by decide +kernel
theorem sh211 : SH[211]? = some (1, 2, 3) := by decide +kernel
theorem sh212 : SH[212]? = some (1, 2, 2) := by decide +kernel
theorem sh213 : SH[213]? = some (1, 2, 3) := by decide +kernel
theorem sh214 : SH[214]? = some (1, 2, 3) := by decide +kernel
theorem sh215 : SH[215]? = some (1, 2, 3) := by decide +kernel
theorem sh216 : SH[216]? = some (1, 2, 4) := by decide +kernel
theorem sh217 : SH[217]? = some (1, 2, 3) := by decide +kernel
theorem sh218 : SH[218]? = some (1, 2, 5) := by decide +kernel
theorem sh219 : SH[219]? = some (1, 2, 6) := by decide +kernel
theorem sh220 : SH[220]? = some (1, 2, 5) := by decide +kernel
theorem sh221 : SH[221]? = some (1, 2, 5) := by decide +kernel
theorem sh222 : SH[222]? = some (1, 2, 4) := by decide +kernel
theorem sh223 : SH[223]? = some (1, 2, 6) := by decide +kernel
theorem sh224 : SH[224]? = some (1, 2, 4) := by decide +kernel
theorem sh225 : SH[225]? = some (1, 2, 3) := by decide +kernel
theorem sh226 : SH[226]? = some (1, 2, 6) := by decide +kernel
theorem sh227 : SH[227]? = some (1, 2, 5) := by decide +kernel
theorem sh228 : SH[228]? = some (1, 0, 1700) := by decide +kernel
theorem sh229 : SH[229]? = some (1, 0, 1700) := by decide +kernel
theorem sh230 : SH[230]? = some (1, 1, 1700) := by decide +kernel
theorem sh231 : SH[231]? = some (1, 0, 74) := by decide +kernel
theorem fx_71_0 : ax_fw ax_fx 71 0 = some 72 := by decide +kernel
theorem fx_71_1 : ax_fw ax_fx 71 1 = some 73 := by decide +kernel
theorem fx_71_2 : ax_fw ax_fx 71 2 = some 74 := by decide +kernel
theorem fx_71_3 : ax_fw ax_fx 71 3 = some 75 := by decide +kernel
theorem fx_71_4 : ax_fw ax_fx 71 4 = some 85 := by decide +kernel
theorem fx_71_5 : ax_fw ax_fx 71 5 = some 94 := by decide +kernel
theorem fx_71_7 : ax_fw ax_fx 71 7 = some 103 := by decide +kernel
theorem fx_71_8 : ax_fw ax_fx 71 8 = some 104 := by decide +kernel
theorem fx_71_9 : ax_fw ax_fx 71 9 = some 105 := by decide +kernel
theorem fx_71_10 : ax_fw ax_fx 71 10 = some 106 := by decide +kernel
theorem fx_107_0 : ax_fw ax_fx 107 0 = some 108 := by decide +kernel
theorem fx_107_2 : ax_fw ax_fx 107 2 = some 109 := by decide +kernel
theorem fx_110_0 : ax_fw ax_fx 110 0 = some 111 := by decide +kernel
theorem fx_110_2 : ax_fw ax_fx 110 2 = some 112 := by decide +kernel
theorem fx_110_3 : ax_fw ax_fx 110 3 = some 113 := by decide +kernel
theorem fx_122_1 : ax_fw ax_fx 122 1 = some 123 := by decide +kernel
theorem fx_122_2 : ax_fw ax_fx 122 2 = some 124 := by decide +kernel
theorem fx_122_3 : ax_fw ax_fx 122 3 = some 125 := by decide +kernel
theorem fx_122_4 : ax_fw ax_fx 122 4 = some 126 := by decide +kernel
theorem fx_142_0 : ax_fw ax_fx 142 0 = some 143 := by decide +kernel
theorem fx_142_9 : ax_fw ax_fx 142 9 = some 144 := by decide +kernel
theorem fx_142_10 : ax_fw ax_fx 142 10 = some 145 := by decide +kernel
theorem fx_142_11 : ax_fw ax_fx 142 11 = some 146 := by decide +kernel
theorem fx_142_12 : ax_fw ax_fx 142 12 = some 147 := by decide +kernel
theorem fx_142_13 : ax_fw ax_fx 142 13 = some 148 := by decide +kernel
theorem fx_142_14 : ax_fw ax_fx 142 14 = some 149 := by decide +kernel
theorem fx_142_15 : ax_fw ax_fx 142 15 = some 150 := by decide +kernel
theorem fx_142_16 : ax_fw ax_fx 142 16 = some 151 := by decide +kernel
theorem fx_142_17 : ax_fw ax_fx 142 17 = some 152 := by decide +kernel
theorem fx_142_18 : ax_fw ax_fx 142 18 = some 153 := by decide +kernel
theorem fx_142_19 : ax_fw ax_fx 142 19 = some 154 := by decide +kernel
theorem fx_142_20 : ax_fw ax_fx 142 20 = some 155 := by decide +kernel
theorem fx_142_21 : ax_fw ax_fx 142 21 = some 156 := by decide +kernel
theorem fx_142_22 : ax_fw ax_fx 142 22 = some 157 := by decide +kernel
theorem fx_142_23 : ax_fw ax_fx 142 23 = some 158 := by decide +kernel
theorem fx_142_24 : ax_fw ax_fx 142 24 = some 159 := by decide +kernel
theorem fx_142_25 : ax_fw ax_fx 142 25 = some 160 := by decide +kernel
theorem fx_142_26 : ax_fw ax_fx 142 26 = some 161 := by decide +kernel
theorem fx_142_27 : ax_fw ax_fx 142 27 = some 162 := by decide +kernel
theorem fx_142_28 : ax_fw ax_fx 142 28 = some 163 := by decide +kernel
theorem fx_142_29 : ax_fw ax_fx 142 29 = some 164 := by decide +kernel
theorem fx_142_30 : ax_fw ax_fx 142 30 = some 165 := by decide +kernel
theorem fx_142_31 : ax_fw ax_fx 142 31 = some 166 := by decide +kernel
theorem fx_142_32 : ax_fw ax_fx 142 32 = some 167 := by decide +kernel
theorem fx_142_33 : ax_fw ax_fx 142 33 = some 168 := by decide +kernel
theorem fx_142_34 : ax_fw ax_fx 142 34 = some 169 := by decide +kernel
theorem fx_142_35 : ax_fw ax_fx 142 35 = some 170 := by decide +kernel
theorem fx_142_36 : ax_fw ax_fx 142 36 = some 171 := by decide +kernel
theorem fx_142_37 : ax_fw ax_fx 142 37 = some 172 := by decide +kernel
theorem fx_142_38 : ax_fw ax_fx 142 38 = some 173 := by decide +kernel
theorem fx_142_39 : ax_fw ax_fx 142 39 = some 174 := by decide +kernel
theorem fx_142_40 : ax_fw ax_fx 142 40 = some 175 := by decide +kernel
theorem fx_142_42 : ax_fw ax_fx 142 42 = some 176 := by decide +kernel
theorem fx_142_43 : ax_fw ax_fx 142 43 = some 177 := by decide +kernel
theorem fx_142_44 : ax_fw ax_fx 142 44 = some 178 := by decide +kernel
theorem fx_142_45 : ax_fw ax_fx 142 45 = some 179 := by decide +kernel
theorem fx_142_46 : ax_fw ax_fx 142 46 = some 180 := by decide +kernel
theorem fx_142_47 : ax_fw ax_fx 142 47 = some 181 := by decide +kernel
theorem fx_142_48 : ax_fw ax_fx 142 48 = some 182 := by decide +kernel
theorem fx_142_49 : ax_fw ax_fx 142 49 = some 183 := by decide +kernel
theorem fx_142_50 : ax_fw ax_fx 142 50 = some 184 := by decide +kernel
theorem fx_142_54 : ax_fw ax_fx 142 54 = some 185 := by decide +kernel
theorem fx_142_55 : ax_fw ax_fx 142 55 = some 186 := by decide +kernel
theorem fx_142_60 : ax_fw ax_fx 142 60 = some 187 := by decide +kernel
theorem fx_142_61 : ax_fw ax_fx 142 61 = some 188 := by decide +kernel
theorem fx_142_62 : ax_fw ax_fx 142 62 = some 189 := by decide +kernel
theorem fx_142_63 : ax_fw ax_fx 142 63 = some 190 := by decide +kernel
theorem fx_142_64 : ax_fw ax_fx 142 64 = some 191 := by decide +kernel
theorem fx_142_65 : ax_fw ax_fx 142 65 = some 192 := by decide +kernel
theorem fx_142_66 : ax_fw ax_fx 142 66 = some 193 := by decide +kernel
theorem fx_142_68 : ax_fw ax_fx 142 68 = some 194 := by decide +kernel
theorem fx_142_71 : ax_fw ax_fx 142 71 = some 195 := by decide +kernel
theorem fx_142_72 : ax_fw ax_fx 142 72 = some 196 := by decide +kernel
theorem fx_142_73 : ax_fw ax_fx 142 73 = some 197 := by decide +kernel
theorem fx_142_74 : ax_fw ax_fx 142 74 = some 198 := by decide +kernel
theorem fx_142_75 : ax_fw ax_fx 142 75 = some 199 := by decide +kernel
theorem fx_142_77 : ax_fw ax_fx 142 77 = some 200 := by decide +kernel
theorem fx_142_78 : ax_fw ax_fx 142 78 = some 201 := by decide +kernel
theorem fx_142_79 : ax_fw ax_fx 142 79 = some 202 := by decide +kernel
theorem fx_142_81 : ax_fw ax_fx 142 81 = some 203 := by decide +kernel
theorem fx_142_85 : ax_fw ax_fx 142 85 = some 204 := by decide +kernel
theorem fx_142_86 : ax_fw ax_fx 142 86 = some 205 := by decide +kernel
theorem fx_142_87 : ax_fw ax_fx 142 87 = some 206 := by decide +kernel
theorem fx_142_88 : ax_fw ax_fx 142 88 = some 207 := by decide +kernel
theorem fx_142_89 : ax_fw ax_fx 142 89 = some 208 := by decide +kernel
theorem fx_142_90 : ax_fw ax_fx 142 90 = some 209 := by decide +kernel
theorem fx_142_91 : ax_fw ax_fx 142 91 = some 210 := by decide +kernel
theorem fx_142_92 : ax_fw ax_fx 142 92 = some 211 := by decide +kernel
theorem fx_142_93 : ax_fw ax_fx 142 93 = some 212 := by decide +kernel
theorem fx_142_94 : ax_fw ax_fx 142 94 = some 213 := by decide +kernel
theorem fx_142_95 : ax_fw ax_fx 142 95 = some 214 := by decide +kernel
theorem fx_142_96 : ax_fw ax_fx 142 96 = some 215 := by decide +kernel
theorem fx_142_97 : ax_fw ax_fx 142 97 = some 216 := by decide +kernel
theorem fx_142_98 : ax_fw ax_fx 142 98 = some 217 := by decide +kernel
theorem fx_142_99 : ax_fw ax_fx 142 99 = some 218 := by decide +kernel
theorem fx_142_100 : ax_fw ax_fx 142 100 = some 219 := by decide +kernel
theorem fx_142_101 : ax_fw ax_fx 142 101 = some 220 := by decide +kernel
theorem fx_142_102 : ax_fw ax_fx 142 102 = some 221 := by decide +kernel
theorem fx_142_103 : ax_fw ax_fx 142 103 = some 222 := by decide +kernel
theorem fx_142_104 : ax_fw ax_fx 142 104 = some 223 := by decide +kernel
theorem fx_142_105 : ax_fw ax_fx 142 105 = some 224 := by decide +kernel
theorem fx_142_106 : ax_fw ax_fx 142 106 = some 225 := by decide +kernel
theorem fx_142_107 : ax_fw ax_fx 142 107 = some 226 := by decide +kernel
theorem fx_142_108 : ax_fw ax_fx 142 108 = some 227 := by decide +kernel
theorem fx_142_109 : ax_fw ax_fx 142 109 = some 228 := by decide +kernel
theorem fx_142_111 : ax_fw ax_fx 142 111 = some 229 := by decide +kernel
theorem fx_142_115 : ax_fw ax_fx 142 115 = some 230 := by decide +kernel
theorem fx_142_119 : ax_fw ax_fx 142 119 = some 231 := by decide +kernel
theorem flt12 {g : Nat} (h : Nat.ble (g + 1) 121 = true) : g < ax_fl 12 := by
  have e : ax_fl 12 = 121 := by decide +kernel
  rw [e]
  exact Nat.le_of_ble_eq_true h
theorem fy12_0 : ax_fty 12 0 = 2 := by decide +kernel
theorem ft12_0 : ax_ft (ax_fty 12 0) = 2 := by decide +kernel
theorem fy12_1 : ax_fty 12 1 = 0 := by decide +kernel
theorem ft12_1 : ax_ft (ax_fty 12 1) = 0 := by decide +kernel
theorem fy12_2 : ax_fty 12 2 = 0 := by decide +kernel
theorem ft12_2 : ax_ft (ax_fty 12 2) = 0 := by decide +kernel
theorem fy12_3 : ax_fty 12 3 = 0 := by decide +kernel
theorem ft12_3 : ax_ft (ax_fty 12 3) = 0 := by decide +kernel
theorem fy12_4 : ax_fty 12 4 = 0 := by decide +kernel
theorem ft12_4 : ax_ft (ax_fty 12 4) = 0 := by decide +kernel
theorem fy12_5 : ax_fty 12 5 = 0 := by decide +kernel
theorem ft12_5 : ax_ft (ax_fty 12 5) = 0 := by decide +kernel
theorem fy12_6 : ax_fty 12 6 = 0 := by decide +kernel
theorem ft12_6 : ax_ft (ax_fty 12 6) = 0 := by decide +kernel
theorem fy12_7 : ax_fty 12 7 = 0 := by decide +kernel
theorem ft12_7 : ax_ft (ax_fty 12 7) = 0 := by decide +kernel
theorem fy12_8 : ax_fty 12 8 = 0 := by decide +kernel
theorem ft12_8 : ax_ft (ax_fty 12 8) = 0 := by decide +kernel
theorem fy12_9 : ax_fty 12 9 = 2 := by decide +kernel
theorem ft12_9 : ax_ft (ax_fty 12 9) = 2 := by decide +kernel
theorem fy12_10 : ax_fty 12 10 = 2 := by decide +kernel
theorem ft12_10 : ax_ft (ax_fty 12 10) = 2 := by decide +kernel
theorem fy12_11 : ax_fty 12 11 = 2 := by decide +kernel
theorem ft12_11 : ax_ft (ax_fty 12 11) = 2 := by decide +kernel
theorem fy12_12 : ax_fty 12 12 = 2 := by decide +kernel
theorem ft12_12 : ax_ft (ax_fty 12 12) = 2 := by decide +kernel
theorem fy12_13 : ax_fty 12 13 = 2 := by decide +kernel
theorem ft12_13 : ax_ft (ax_fty 12 13) = 2 := by decide +kernel
theorem fy12_14 : ax_fty 12 14 = 2 := by decide +kernel
theorem ft12_14 : ax_ft (ax_fty 12 14) = 2 := by decide +kernel
theorem fy12_15 : ax_fty 12 15 = 2 := by decide +kernel
theorem ft12_15 : ax_ft (ax_fty 12 15) = 2 := by decide +kernel
theorem fy12_16 : ax_fty 12 16 = 2 := by decide +kernel
theorem ft12_16 : ax_ft (ax_fty 12 16) = 2 := by decide +kernel
theorem fy12_17 : ax_fty 12 17 = 2 := by decide +kernel
theorem ft12_17 : ax_ft (ax_fty 12 17) = 2 := by decide +kernel
theorem fy12_18 : ax_fty 12 18 = 2 := by decide +kernel
theorem ft12_18 : ax_ft (ax_fty 12 18) = 2 := by decide +kernel
theorem fy12_19 : ax_fty 12 19 = 2 := by decide +kernel
theorem ft12_19 : ax_ft (ax_fty 12 19) = 2 := by decide +kernel
theorem fy12_20 : ax_fty 12 20 = 2 := by decide +kernel
theorem ft12_20 : ax_ft (ax_fty 12 20) = 2 := by decide +kernel
theorem fy12_21 : ax_fty 12 21 = 2 := by decide +kernel
theorem ft12_21 : ax_ft (ax_fty 12 21) = 2 := by decide +kernel
theorem fy12_22 : ax_fty 12 22 = 2 := by decide +kernel
theorem ft12_22 : ax_ft (ax_fty 12 22) = 2 := by decide +kernel
theorem fy12_23 : ax_fty 12 23 = 2 := by decide +kernel
theorem ft12_23 : ax_ft (ax_fty 12 23) = 2 := by decide +kernel
theorem fy12_24 : ax_fty 12 24 = 2 := by decide +kernel
theorem ft12_24 : ax_ft (ax_fty 12 24) = 2 := by decide +kernel
theorem fy12_25 : ax_fty 12 25 = 2 := by decide +kernel
theorem ft12_25 : ax_ft (ax_fty 12 25) = 2 := by decide +kernel
theorem fy12_26 : ax_fty 12 26 = 2 := by decide +kernel
theorem ft12_26 : ax_ft (ax_fty 12 26) = 2 := by decide +kernel
theorem fy12_27 : ax_fty 12 27 = 2 := by decide +kernel
theorem ft12_27 : ax_ft (ax_fty 12 27) = 2 := by decide +kernel
theorem fy12_28 : ax_fty 12 28 = 2 := by decide +kernel
theorem ft12_28 : ax_ft (ax_fty 12 28) = 2 := by decide +kernel
theorem fy12_29 : ax_fty 12 29 = 2 := by decide +kernel
theorem ft12_29 : ax_ft (ax_fty 12 29) = 2 := by decide +kernel
theorem fy12_30 : ax_fty 12 30 = 2 := by decide +kernel
theorem ft12_30 : ax_ft (ax_fty 12 30) = 2 := by decide +kernel
theorem fy12_31 : ax_fty 12 31 = 2 := by decide +kernel
theorem ft12_31 : ax_ft (ax_fty 12 31) = 2 := by decide +kernel
theorem fy12_32 : ax_fty 12 32 = 2 := by decide +kernel
theorem ft12_32 : ax_ft (ax_fty 12 32) = 2 := by decide +kernel
theorem fy12_33 : ax_fty 12 33 = 2 := by decide +kernel
theorem ft12_33 : ax_ft (ax_fty 12 33) = 2 := by decide +kernel
theorem fy12_34 : ax_fty 12 34 = 2 := by decide +kernel
theorem ft12_34 : ax_ft (ax_fty 12 34) = 2 := by decide +kernel
theorem fy12_35 : ax_fty 12 35 = 2 := by decide +kernel
theorem ft12_35 : ax_ft (ax_fty 12 35) = 2 := by decide +kernel
theorem fy12_36 : ax_fty 12 36 = 2 := by decide +kernel
theorem ft12_36 : ax_ft (ax_fty 12 36) = 2 := by decide +kernel
theorem fy12_37 : ax_fty 12 37 = 2 := by decide +kernel
theorem ft12_37 : ax_ft (ax_fty 12 37) = 2 := by decide +kernel
theorem fy12_38 : ax_fty 12 38 = 2 := by decide +kernel
theorem ft12_38 : ax_ft (ax_fty 12 38) = 2 := by decide +kernel
theorem fy12_39 : ax_fty 12 39 = 2 := by decide +kernel
theorem ft12_39 : ax_ft (ax_fty 12 39) = 2 := by decide +kernel
theorem fy12_40 : ax_fty 12 40 = 2 := by decide +kernel
theorem ft12_40 : ax_ft (ax_fty 12 40) = 2 := by decide +kernel
theorem fy12_41 : ax_fty 12 41 = 0 := by decide +kernel
theorem ft12_41 : ax_ft (ax_fty 12 41) = 0 := by decide +kernel
theorem fy12_42 : ax_fty 12 42 = 2 := by decide +kernel
theorem ft12_42 : ax_ft (ax_fty 12 42) = 2 := by decide +kernel
theorem fy12_43 : ax_fty 12 43 = 2 := by decide +kernel
theorem ft12_43 : ax_ft (ax_fty 12 43) = 2 := by decide +kernel
theorem fy12_44 : ax_fty 12 44 = 2 := by decide +kernel
theorem ft12_44 : ax_ft (ax_fty 12 44) = 2 := by decide +kernel
theorem fy12_45 : ax_fty 12 45 = 2 := by decide +kernel
theorem ft12_45 : ax_ft (ax_fty 12 45) = 2 := by decide +kernel
theorem fy12_46 : ax_fty 12 46 = 2 := by decide +kernel
theorem ft12_46 : ax_ft (ax_fty 12 46) = 2 := by decide +kernel
theorem fy12_47 : ax_fty 12 47 = 2 := by decide +kernel
theorem ft12_47 : ax_ft (ax_fty 12 47) = 2 := by decide +kernel
theorem fy12_48 : ax_fty 12 48 = 2 := by decide +kernel
theorem ft12_48 : ax_ft (ax_fty 12 48) = 2 := by decide +kernel
theorem fy12_49 : ax_fty 12 49 = 2 := by decide +kernel
theorem ft12_49 : ax_ft (ax_fty 12 49) = 2 := by decide +kernel
theorem fy12_50 : ax_fty 12 50 = 2 := by decide +kernel
theorem ft12_50 : ax_ft (ax_fty 12 50) = 2 := by decide +kernel
theorem fy12_51 : ax_fty 12 51 = 0 := by decide +kernel
theorem ft12_51 : ax_ft (ax_fty 12 51) = 0 := by decide +kernel
theorem fy12_52 : ax_fty 12 52 = 0 := by decide +kernel
theorem ft12_52 : ax_ft (ax_fty 12 52) = 0 := by decide +kernel
theorem fy12_53 : ax_fty 12 53 = 0 := by decide +kernel
theorem ft12_53 : ax_ft (ax_fty 12 53) = 0 := by decide +kernel
theorem fy12_54 : ax_fty 12 54 = 2 := by decide +kernel
theorem ft12_54 : ax_ft (ax_fty 12 54) = 2 := by decide +kernel
theorem fy12_55 : ax_fty 12 55 = 2 := by decide +kernel
theorem ft12_55 : ax_ft (ax_fty 12 55) = 2 := by decide +kernel
theorem fy12_56 : ax_fty 12 56 = 0 := by decide +kernel
theorem ft12_56 : ax_ft (ax_fty 12 56) = 0 := by decide +kernel
theorem fy12_57 : ax_fty 12 57 = 0 := by decide +kernel
theorem ft12_57 : ax_ft (ax_fty 12 57) = 0 := by decide +kernel
theorem fy12_58 : ax_fty 12 58 = 0 := by decide +kernel
theorem ft12_58 : ax_ft (ax_fty 12 58) = 0 := by decide +kernel
theorem fy12_59 : ax_fty 12 59 = 0 := by decide +kernel
theorem ft12_59 : ax_ft (ax_fty 12 59) = 0 := by decide +kernel
theorem fy12_60 : ax_fty 12 60 = 2 := by decide +kernel
theorem ft12_60 : ax_ft (ax_fty 12 60) = 2 := by decide +kernel
theorem fy12_61 : ax_fty 12 61 = 2 := by decide +kernel
theorem ft12_61 : ax_ft (ax_fty 12 61) = 2 := by decide +kernel
theorem fy12_62 : ax_fty 12 62 = 2 := by decide +kernel
theorem ft12_62 : ax_ft (ax_fty 12 62) = 2 := by decide +kernel
theorem fy12_63 : ax_fty 12 63 = 2 := by decide +kernel
theorem ft12_63 : ax_ft (ax_fty 12 63) = 2 := by decide +kernel
theorem fy12_64 : ax_fty 12 64 = 2 := by decide +kernel
theorem ft12_64 : ax_ft (ax_fty 12 64) = 2 := by decide +kernel
theorem fy12_65 : ax_fty 12 65 = 2 := by decide +kernel
theorem ft12_65 : ax_ft (ax_fty 12 65) = 2 := by decide +kernel
theorem fy12_66 : ax_fty 12 66 = 2 := by decide +kernel
theorem ft12_66 : ax_ft (ax_fty 12 66) = 2 := by decide +kernel
theorem fy12_67 : ax_fty 12 67 = 0 := by decide +kernel
theorem ft12_67 : ax_ft (ax_fty 12 67) = 0 := by decide +kernel
theorem fy12_68 : ax_fty 12 68 = 2 := by decide +kernel
theorem ft12_68 : ax_ft (ax_fty 12 68) = 2 := by decide +kernel
theorem fy12_69 : ax_fty 12 69 = 0 := by decide +kernel
theorem ft12_69 : ax_ft (ax_fty 12 69) = 0 := by decide +kernel
theorem fy12_70 : ax_fty 12 70 = 0 := by decide +kernel
theorem ft12_70 : ax_ft (ax_fty 12 70) = 0 := by decide +kernel
theorem fy12_71 : ax_fty 12 71 = 2 := by decide +kernel
theorem ft12_71 : ax_ft (ax_fty 12 71) = 2 := by decide +kernel
theorem fy12_72 : ax_fty 12 72 = 2 := by decide +kernel
theorem ft12_72 : ax_ft (ax_fty 12 72) = 2 := by decide +kernel
theorem fy12_73 : ax_fty 12 73 = 2 := by decide +kernel
theorem ft12_73 : ax_ft (ax_fty 12 73) = 2 := by decide +kernel
theorem fy12_74 : ax_fty 12 74 = 2 := by decide +kernel
theorem ft12_74 : ax_ft (ax_fty 12 74) = 2 := by decide +kernel
theorem fy12_75 : ax_fty 12 75 = 2 := by decide +kernel
theorem ft12_75 : ax_ft (ax_fty 12 75) = 2 := by decide +kernel
theorem fy12_76 : ax_fty 12 76 = 0 := by decide +kernel
theorem ft12_76 : ax_ft (ax_fty 12 76) = 0 := by decide +kernel
theorem fy12_77 : ax_fty 12 77 = 2 := by decide +kernel
theorem ft12_77 : ax_ft (ax_fty 12 77) = 2 := by decide +kernel
theorem fy12_78 : ax_fty 12 78 = 2 := by decide +kernel
theorem ft12_78 : ax_ft (ax_fty 12 78) = 2 := by decide +kernel
theorem fy12_79 : ax_fty 12 79 = 2 := by decide +kernel
theorem ft12_79 : ax_ft (ax_fty 12 79) = 2 := by decide +kernel
theorem fy12_80 : ax_fty 12 80 = 0 := by decide +kernel
theorem ft12_80 : ax_ft (ax_fty 12 80) = 0 := by decide +kernel
theorem fy12_81 : ax_fty 12 81 = 2 := by decide +kernel
theorem ft12_81 : ax_ft (ax_fty 12 81) = 2 := by decide +kernel
theorem fy12_82 : ax_fty 12 82 = 0 := by decide +kernel
theorem ft12_82 : ax_ft (ax_fty 12 82) = 0 := by decide +kernel
theorem fy12_83 : ax_fty 12 83 = 0 := by decide +kernel
theorem ft12_83 : ax_ft (ax_fty 12 83) = 0 := by decide +kernel
theorem fy12_84 : ax_fty 12 84 = 1 := by decide +kernel
theorem ft12_84 : ax_ft (ax_fty 12 84) = 1 := by decide +kernel
theorem fy12_85 : ax_fty 12 85 = 2 := by decide +kernel
theorem ft12_85 : ax_ft (ax_fty 12 85) = 2 := by decide +kernel
theorem fy12_86 : ax_fty 12 86 = 2 := by decide +kernel
theorem ft12_86 : ax_ft (ax_fty 12 86) = 2 := by decide +kernel
theorem fy12_87 : ax_fty 12 87 = 2 := by decide +kernel
theorem ft12_87 : ax_ft (ax_fty 12 87) = 2 := by decide +kernel
theorem fy12_88 : ax_fty 12 88 = 2 := by decide +kernel
theorem ft12_88 : ax_ft (ax_fty 12 88) = 2 := by decide +kernel
theorem fy12_89 : ax_fty 12 89 = 2 := by decide +kernel
theorem ft12_89 : ax_ft (ax_fty 12 89) = 2 := by decide +kernel
theorem fy12_90 : ax_fty 12 90 = 2 := by decide +kernel
theorem ft12_90 : ax_ft (ax_fty 12 90) = 2 := by decide +kernel
theorem fy12_91 : ax_fty 12 91 = 2 := by decide +kernel
theorem ft12_91 : ax_ft (ax_fty 12 91) = 2 := by decide +kernel
theorem fy12_92 : ax_fty 12 92 = 2 := by decide +kernel
theorem ft12_92 : ax_ft (ax_fty 12 92) = 2 := by decide +kernel
theorem fy12_93 : ax_fty 12 93 = 2 := by decide +kernel
theorem ft12_93 : ax_ft (ax_fty 12 93) = 2 := by decide +kernel
theorem fy12_94 : ax_fty 12 94 = 2 := by decide +kernel
theorem ft12_94 : ax_ft (ax_fty 12 94) = 2 := by decide +kernel
theorem fy12_95 : ax_fty 12 95 = 2 := by decide +kernel
theorem ft12_95 : ax_ft (ax_fty 12 95) = 2 := by decide +kernel
theorem fy12_96 : ax_fty 12 96 = 2 := by decide +kernel
theorem ft12_96 : ax_ft (ax_fty 12 96) = 2 := by decide +kernel
theorem fy12_97 : ax_fty 12 97 = 2 := by decide +kernel
theorem ft12_97 : ax_ft (ax_fty 12 97) = 2 := by decide +kernel
theorem fy12_98 : ax_fty 12 98 = 2 := by decide +kernel
theorem ft12_98 : ax_ft (ax_fty 12 98) = 2 := by decide +kernel
theorem fy12_99 : ax_fty 12 99 = 2 := by decide +kernel
theorem ft12_99 : ax_ft (ax_fty 12 99) = 2 := by decide +kernel
theorem fy12_100 : ax_fty 12 100 = 2 := by decide +kernel
theorem ft12_100 : ax_ft (ax_fty 12 100) = 2 := by decide +kernel
theorem fy12_101 : ax_fty 12 101 = 2 := by decide +kernel
theorem ft12_101 : ax_ft (ax_fty 12 101) = 2 := by decide +kernel
theorem fy12_102 : ax_fty 12 102 = 2 := by decide +kernel
theorem ft12_102 : ax_ft (ax_fty 12 102) = 2 := by decide +kernel
theorem fy12_103 : ax_fty 12 103 = 2 := by decide +kernel
theorem ft12_103 : ax_ft (ax_fty 12 103) = 2 := by decide +kernel
theorem fy12_104 : ax_fty 12 104 = 2 := by decide +kernel
theorem ft12_104 : ax_ft (ax_fty 12 104) = 2 := by decide +kernel
theorem fy12_105 : ax_fty 12 105 = 2 := by decide +kernel
theorem ft12_105 : ax_ft (ax_fty 12 105) = 2 := by decide +kernel
theorem fy12_106 : ax_fty 12 106 = 2 := by decide +kernel
theorem ft12_106 : ax_ft (ax_fty 12 106) = 2 := by decide +kernel
theorem fy12_107 : ax_fty 12 107 = 2 := by decide +kernel
theorem ft12_107 : ax_ft (ax_fty 12 107) = 2 := by decide +kernel
theorem fy12_108 : ax_fty 12 108 = 2 := by decide +kernel
theorem ft12_108 : ax_ft (ax_fty 12 108) = 2 := by decide +kernel
theorem fy12_109 : ax_fty 12 109 = 2 := by decide +kernel
theorem ft12_109 : ax_ft (ax_fty 12 109) = 2 := by decide +kernel
theorem fy12_110 : ax_fty 12 110 = 0 := by decide +kernel
theorem ft12_110 : ax_ft (ax_fty 12 110) = 0 := by decide +kernel
theorem fy12_111 : ax_fty 12 111 = 2 := by decide +kernel
theorem ft12_111 : ax_ft (ax_fty 12 111) = 2 := by decide +kernel
theorem fy12_112 : ax_fty 12 112 = 0 := by decide +kernel
theorem ft12_112 : ax_ft (ax_fty 12 112) = 0 := by decide +kernel
theorem fy12_113 : ax_fty 12 113 = 0 := by decide +kernel
theorem ft12_113 : ax_ft (ax_fty 12 113) = 0 := by decide +kernel
theorem fy12_114 : ax_fty 12 114 = 0 := by decide +kernel
theorem ft12_114 : ax_ft (ax_fty 12 114) = 0 := by decide +kernel
theorem fy12_115 : ax_fty 12 115 = 2 := by decide +kernel
theorem ft12_115 : ax_ft (ax_fty 12 115) = 2 := by decide +kernel
theorem fy12_116 : ax_fty 12 116 = 0 := by decide +kernel
theorem ft12_116 : ax_ft (ax_fty 12 116) = 0 := by decide +kernel
theorem fy12_117 : ax_fty 12 117 = 1 := by decide +kernel
theorem ft12_117 : ax_ft (ax_fty 12 117) = 1 := by decide +kernel
theorem fy12_118 : ax_fty 12 118 = 3 := by decide +kernel
theorem ft12_118 : ax_ft (ax_fty 12 118) = 0 := by decide +kernel
theorem fy12_119 : ax_fty 12 119 = 2 := by decide +kernel
theorem ft12_119 : ax_ft (ax_fty 12 119) = 2 := by decide +kernel
theorem fy12_120 : ax_fty 12 120 = 0 := by decide +kernel
theorem ft12_120 : ax_ft (ax_fty 12 120) = 0 := by decide +kernel
