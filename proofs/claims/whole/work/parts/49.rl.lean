/-! facts, ranges, and the relation between a land's cells and the reference's row (printed by gen19.py) -/
def FC (d e : Dat) : Prop := d 11 0 = e 241 1 ∧ d 11 1 = e 241 3 ∧ d 11 2 = e 241 8 ∧ d 11 3 = e 241 13 ∧ d 11 4 = e 241 17 ∧ d 24 0 = e 241 18 ∧ d 24 1 = e 241 26 ∧ d 24 2 = e 241 21 ∧ d 36 2 = e 241 36 ∧ d 12 = e 243 ∧ d 13 = e 244 ∧ d 14 = e 245 ∧ d 15 = e 246 ∧ d 16 = e 247 ∧ d 17 = e 248 ∧ d 18 = e 249 ∧ d 19 = e 250 ∧ d 20 = e 251 ∧ d 21 = e 252 ∧ d 22 = e 253 ∧ d 23 = e 254 ∧ d 25 = e 255 ∧ d 26 = e 256 ∧ d 27 = e 261 ∧ d 28 = e 262 ∧ d 29 = e 263 ∧ d 30 = e 264 ∧ d 31 = e 265 ∧ d 32 = e 257 ∧ d 33 = e 258 ∧ d 34 = e 259 ∧ d 35 = e 260 ∧ d 2 0 = (-1) ∧ d 2 1 = 0 ∧ d 2 2 = 0 ∧ d 2 3 = 1 ∧ d 2 4 = 2 ∧ d 2 5 = 2 ∧ d 3 0 = 10 ∧ d 3 1 = 30 ∧ d 3 2 = 10 ∧ d 3 3 = 50 ∧ d 3 4 = 5 ∧ d 3 5 = 1 ∧ d 4 0 = 1 ∧ d 4 1 = 1 ∧ d 4 2 = 2 ∧ d 4 3 = 1 ∧ d 4 4 = 2 ∧ d 4 5 = 2 ∧ d 5 0 = 10 ∧ d 5 1 = 10 ∧ d 5 2 = 10 ∧ d 5 3 = 30 ∧ d 5 4 = 10 ∧ d 5 5 = 10 ∧ d 6 0 = 0 ∧ d 6 1 = 1 ∧ d 6 2 = 0 ∧ d 6 3 = 1 ∧ d 6 4 = 0 ∧ d 6 5 = 0
theorem fc_11_0 {d e : Dat} (h : FC d e) : d 11 0 = e 241 1 := h.1
theorem fc_11_1 {d e : Dat} (h : FC d e) : d 11 1 = e 241 3 := h.2.1
theorem fc_11_2 {d e : Dat} (h : FC d e) : d 11 2 = e 241 8 := h.2.2.1
theorem fc_11_3 {d e : Dat} (h : FC d e) : d 11 3 = e 241 13 := h.2.2.2.1
theorem fc_11_4 {d e : Dat} (h : FC d e) : d 11 4 = e 241 17 := h.2.2.2.2.1
theorem fc_24_0 {d e : Dat} (h : FC d e) : d 24 0 = e 241 18 := h.2.2.2.2.2.1
theorem fc_24_1 {d e : Dat} (h : FC d e) : d 24 1 = e 241 26 := h.2.2.2.2.2.2.1
theorem fc_24_2 {d e : Dat} (h : FC d e) : d 24 2 = e 241 21 := h.2.2.2.2.2.2.2.1
theorem fc_36_2 {d e : Dat} (h : FC d e) : d 36 2 = e 241 36 := h.2.2.2.2.2.2.2.2.1
theorem fc_12 {d e : Dat} (h : FC d e) : d 12 = e 243 := h.2.2.2.2.2.2.2.2.2.1
theorem fc_13 {d e : Dat} (h : FC d e) : d 13 = e 244 := h.2.2.2.2.2.2.2.2.2.2.1
theorem fc_14 {d e : Dat} (h : FC d e) : d 14 = e 245 := h.2.2.2.2.2.2.2.2.2.2.2.1
theorem fc_15 {d e : Dat} (h : FC d e) : d 15 = e 246 := h.2.2.2.2.2.2.2.2.2.2.2.2.1
theorem fc_16 {d e : Dat} (h : FC d e) : d 16 = e 247 := h.2.2.2.2.2.2.2.2.2.2.2.2.2.1
theorem fc_17 {d e : Dat} (h : FC d e) : d 17 = e 248 := h.2.2.2.2.2.2.2.2.2.2.2.2.2.2.1
theorem fc_18 {d e : Dat} (h : FC d e) : d 18 = e 249 := h.2.2.2.2.2.2.2.2.2.2.2.2.2.2.2.1
theorem fc_19 {d e : Dat} (h : FC d e) : d 19 = e 250 := h.2.2.2.2.2.2.2.2.2.2.2.2.2.2.2.2.1
theorem fc_20 {d e : Dat} (h : FC d e) : d 20 = e 251 := h.2.2.2.2.2.2.2.2.2.2.2.2.2.2.2.2.2.1
theorem fc_21 {d e : Dat} (h : FC d e) : d 21 = e 252 := h.2.2.2.2.2.2.2.2.2.2.2.2.2.2.2.2.2.2.1
theorem fc_22 {d e : Dat} (h : FC d e) : d 22 = e 253 := h.2.2.2.2.2.2.2.2.2.2.2.2.2.2.2.2.2.2.2.1
theorem fc_23 {d e : Dat} (h : FC d e) : d 23 = e 254 := h.2.2.2.2.2.2.2.2.2.2.2.2.2.2.2.2.2.2.2.2.1
theorem fc_25 {d e : Dat} (h : FC d e) : d 25 = e 255 := h.2.2.2.2.2.2.2.2.2.2.2.2.2.2.2.2.2.2.2.2.2.1
theorem fc_26 {d e : Dat} (h : FC d e) : d 26 = e 256 := h.2.2.2.2.2.2.2.2.2.2.2.2.2.2.2.2.2.2.2.2.2.2.1
theorem fc_27 {d e : Dat} (h : FC d e) : d 27 = e 261 := h.2.2.2.2.2.2.2.2.2.2.2.2.2.2.2.2.2.2.2.2.2.2.2.1
theorem fc_28 {d e : Dat} (h : FC d e) : d 28 = e 262 := h.2.2.2.2.2.2.2.2.2.2.2.2.2.2.2.2.2.2.2.2.2.2.2.2.1
theorem fc_29 {d e : Dat} (h : FC d e) : d 29 = e 263 := h.2.2.2.2.2.2.2.2.2.2.2.2.2.2.2.2.2.2.2.2.2.2.2.2.2.1
theorem fc_30 {d e : Dat} (h : FC d e) : d 30 = e 264 := h.2.2.2.2.2.2.2.2.2.2.2.2.2.2.2.2.2.2.2.2.2.2.2.2.2.2.1
theorem fc_31 {d e : Dat} (h : FC d e) : d 31 = e 265 := h.2.2.2.2.2.2.2.2.2.2.2.2.2.2.2.2.2.2.2.2.2.2.2.2.2.2.2.1
theorem fc_32 {d e : Dat} (h : FC d e) : d 32 = e 257 := h.2.2.2.2.2.2.2.2.2.2.2.2.2.2.2.2.2.2.2.2.2.2.2.2.2.2.2.2.1
theorem fc_33 {d e : Dat} (h : FC d e) : d 33 = e 258 := h.2.2.2.2.2.2.2.2.2.2.2.2.2.2.2.2.2.2.2.2.2.2.2.2.2.2.2.2.2.1
theorem fc_34 {d e : Dat} (h : FC d e) : d 34 = e 259 := h.2.2.2.2.2.2.2.2.2.2.2.2.2.2.2.2.2.2.2.2.2.2.2.2.2.2.2.2.2.2.1
theorem fc_35 {d e : Dat} (h : FC d e) : d 35 = e 260 := h.2.2.2.2.2.2.2.2.2.2.2.2.2.2.2.2.2.2.2.2.2.2.2.2.2.2.2.2.2.2.2.1
theorem fc_2_0 {d e : Dat} (h : FC d e) : d 2 0 = (-1) := h.2.2.2.2.2.2.2.2.2.2.2.2.2.2.2.2.2.2.2.2.2.2.2.2.2.2.2.2.2.2.2.2.1
theorem fc_2_1 {d e : Dat} (h : FC d e) : d 2 1 = 0 := h.2.2.2.2.2.2.2.2.2.2.2.2.2.2.2.2.2.2.2.2.2.2.2.2.2.2.2.2.2.2.2.2.2.1
theorem fc_2_2 {d e : Dat} (h : FC d e) : d 2 2 = 0 := h.2.2.2.2.2.2.2.2.2.2.2.2.2.2.2.2.2.2.2.2.2.2.2.2.2.2.2.2.2.2.2.2.2.2.1
theorem fc_2_3 {d e : Dat} (h : FC d e) : d 2 3 = 1 := h.2.2.2.2.2.2.2.2.2.2.2.2.2.2.2.2.2.2.2.2.2.2.2.2.2.2.2.2.2.2.2.2.2.2.2.1
theorem fc_2_4 {d e : Dat} (h : FC d e) : d 2 4 = 2 := h.2.2.2.2.2.2.2.2.2.2.2.2.2.2.2.2.2.2.2.2.2.2.2.2.2.2.2.2.2.2.2.2.2.2.2.2.1
theorem fc_2_5 {d e : Dat} (h : FC d e) : d 2 5 = 2 := h.2.2.2.2.2.2.2.2.2.2.2.2.2.2.2.2.2.2.2.2.2.2.2.2.2.2.2.2.2.2.2.2.2.2.2.2.2.1
theorem fc_3_0 {d e : Dat} (h : FC d e) : d 3 0 = 10 := h.2.2.2.2.2.2.2.2.2.2.2.2.2.2.2.2.2.2.2.2.2.2.2.2.2.2.2.2.2.2.2.2.2.2.2.2.2.2.1
theorem fc_3_1 {d e : Dat} (h : FC d e) : d 3 1 = 30 := h.2.2.2.2.2.2.2.2.2.2.2.2.2.2.2.2.2.2.2.2.2.2.2.2.2.2.2.2.2.2.2.2.2.2.2.2.2.2.2.1
theorem fc_3_2 {d e : Dat} (h : FC d e) : d 3 2 = 10 := h.2.2.2.2.2.2.2.2.2.2.2.2.2.2.2.2.2.2.2.2.2.2.2.2.2.2.2.2.2.2.2.2.2.2.2.2.2.2.2.2.1
theorem fc_3_3 {d e : Dat} (h : FC d e) : d 3 3 = 50 := h.2.2.2.2.2.2.2.2.2.2.2.2.2.2.2.2.2.2.2.2.2.2.2.2.2.2.2.2.2.2.2.2.2.2.2.2.2.2.2.2.2.1
theorem fc_3_4 {d e : Dat} (h : FC d e) : d 3 4 = 5 := h.2.2.2.2.2.2.2.2.2.2.2.2.2.2.2.2.2.2.2.2.2.2.2.2.2.2.2.2.2.2.2.2.2.2.2.2.2.2.2.2.2.2.1
theorem fc_3_5 {d e : Dat} (h : FC d e) : d 3 5 = 1 := h.2.2.2.2.2.2.2.2.2.2.2.2.2.2.2.2.2.2.2.2.2.2.2.2.2.2.2.2.2.2.2.2.2.2.2.2.2.2.2.2.2.2.2.1
theorem fc_4_0 {d e : Dat} (h : FC d e) : d 4 0 = 1 := h.2.2.2.2.2.2.2.2.2.2.2.2.2.2.2.2.2.2.2.2.2.2.2.2.2.2.2.2.2.2.2.2.2.2.2.2.2.2.2.2.2.2.2.2.1
theorem fc_4_1 {d e : Dat} (h : FC d e) : d 4 1 = 1 := h.2.2.2.2.2.2.2.2.2.2.2.2.2.2.2.2.2.2.2.2.2.2.2.2.2.2.2.2.2.2.2.2.2.2.2.2.2.2.2.2.2.2.2.2.2.1
theorem fc_4_2 {d e : Dat} (h : FC d e) : d 4 2 = 2 := h.2.2.2.2.2.2.2.2.2.2.2.2.2.2.2.2.2.2.2.2.2.2.2.2.2.2.2.2.2.2.2.2.2.2.2.2.2.2.2.2.2.2.2.2.2.2.1
theorem fc_4_3 {d e : Dat} (h : FC d e) : d 4 3 = 1 := h.2.2.2.2.2.2.2.2.2.2.2.2.2.2.2.2.2.2.2.2.2.2.2.2.2.2.2.2.2.2.2.2.2.2.2.2.2.2.2.2.2.2.2.2.2.2.2.1
theorem fc_4_4 {d e : Dat} (h : FC d e) : d 4 4 = 2 := h.2.2.2.2.2.2.2.2.2.2.2.2.2.2.2.2.2.2.2.2.2.2.2.2.2.2.2.2.2.2.2.2.2.2.2.2.2.2.2.2.2.2.2.2.2.2.2.2.1
theorem fc_4_5 {d e : Dat} (h : FC d e) : d 4 5 = 2 := h.2.2.2.2.2.2.2.2.2.2.2.2.2.2.2.2.2.2.2.2.2.2.2.2.2.2.2.2.2.2.2.2.2.2.2.2.2.2.2.2.2.2.2.2.2.2.2.2.2.1
theorem fc_5_0 {d e : Dat} (h : FC d e) : d 5 0 = 10 := h.2.2.2.2.2.2.2.2.2.2.2.2.2.2.2.2.2.2.2.2.2.2.2.2.2.2.2.2.2.2.2.2.2.2.2.2.2.2.2.2.2.2.2.2.2.2.2.2.2.2.1
theorem fc_5_1 {d e : Dat} (h : FC d e) : d 5 1 = 10 := h.2.2.2.2.2.2.2.2.2.2.2.2.2.2.2.2.2.2.2.2.2.2.2.2.2.2.2.2.2.2.2.2.2.2.2.2.2.2.2.2.2.2.2.2.2.2.2.2.2.2.2.1
theorem fc_5_2 {d e : Dat} (h : FC d e) : d 5 2 = 10 := h.2.2.2.2.2.2.2.2.2.2.2.2.2.2.2.2.2.2.2.2.2.2.2.2.2.2.2.2.2.2.2.2.2.2.2.2.2.2.2.2.2.2.2.2.2.2.2.2.2.2.2.2.1
theorem fc_5_3 {d e : Dat} (h : FC d e) : d 5 3 = 30 := h.2.2.2.2.2.2.2.2.2.2.2.2.2.2.2.2.2.2.2.2.2.2.2.2.2.2.2.2.2.2.2.2.2.2.2.2.2.2.2.2.2.2.2.2.2.2.2.2.2.2.2.2.2.1
theorem fc_5_4 {d e : Dat} (h : FC d e) : d 5 4 = 10 := h.2.2.2.2.2.2.2.2.2.2.2.2.2.2.2.2.2.2.2.2.2.2.2.2.2.2.2.2.2.2.2.2.2.2.2.2.2.2.2.2.2.2.2.2.2.2.2.2.2.2.2.2.2.2.1
theorem fc_5_5 {d e : Dat} (h : FC d e) : d 5 5 = 10 := h.2.2.2.2.2.2.2.2.2.2.2.2.2.2.2.2.2.2.2.2.2.2.2.2.2.2.2.2.2.2.2.2.2.2.2.2.2.2.2.2.2.2.2.2.2.2.2.2.2.2.2.2.2.2.2.1
theorem fc_6_0 {d e : Dat} (h : FC d e) : d 6 0 = 0 := h.2.2.2.2.2.2.2.2.2.2.2.2.2.2.2.2.2.2.2.2.2.2.2.2.2.2.2.2.2.2.2.2.2.2.2.2.2.2.2.2.2.2.2.2.2.2.2.2.2.2.2.2.2.2.2.2.1
theorem fc_6_1 {d e : Dat} (h : FC d e) : d 6 1 = 1 := h.2.2.2.2.2.2.2.2.2.2.2.2.2.2.2.2.2.2.2.2.2.2.2.2.2.2.2.2.2.2.2.2.2.2.2.2.2.2.2.2.2.2.2.2.2.2.2.2.2.2.2.2.2.2.2.2.2.1
theorem fc_6_2 {d e : Dat} (h : FC d e) : d 6 2 = 0 := h.2.2.2.2.2.2.2.2.2.2.2.2.2.2.2.2.2.2.2.2.2.2.2.2.2.2.2.2.2.2.2.2.2.2.2.2.2.2.2.2.2.2.2.2.2.2.2.2.2.2.2.2.2.2.2.2.2.2.1
theorem fc_6_3 {d e : Dat} (h : FC d e) : d 6 3 = 1 := h.2.2.2.2.2.2.2.2.2.2.2.2.2.2.2.2.2.2.2.2.2.2.2.2.2.2.2.2.2.2.2.2.2.2.2.2.2.2.2.2.2.2.2.2.2.2.2.2.2.2.2.2.2.2.2.2.2.2.2.1
theorem fc_6_4 {d e : Dat} (h : FC d e) : d 6 4 = 0 := h.2.2.2.2.2.2.2.2.2.2.2.2.2.2.2.2.2.2.2.2.2.2.2.2.2.2.2.2.2.2.2.2.2.2.2.2.2.2.2.2.2.2.2.2.2.2.2.2.2.2.2.2.2.2.2.2.2.2.2.2.1
theorem fc_6_5 {d e : Dat} (h : FC d e) : d 6 5 = 0 := h.2.2.2.2.2.2.2.2.2.2.2.2.2.2.2.2.2.2.2.2.2.2.2.2.2.2.2.2.2.2.2.2.2.2.2.2.2.2.2.2.2.2.2.2.2.2.2.2.2.2.2.2.2.2.2.2.2.2.2.2.2
def FM (d e : Dat) : Prop := d 241 1 = e 241 1 ∧ d 241 3 = e 241 3 ∧ d 241 8 = e 241 8 ∧ d 241 13 = e 241 13 ∧ d 241 17 = e 241 17 ∧ d 241 18 = e 241 18 ∧ d 241 21 = e 241 21 ∧ d 241 26 = e 241 26 ∧ d 241 36 = e 241 36 ∧ d 243 = e 243 ∧ d 244 = e 244 ∧ d 245 = e 245 ∧ d 246 = e 246 ∧ d 247 = e 247 ∧ d 248 = e 248 ∧ d 249 = e 249 ∧ d 250 = e 250 ∧ d 251 = e 251 ∧ d 252 = e 252 ∧ d 253 = e 253 ∧ d 254 = e 254 ∧ d 255 = e 255 ∧ d 256 = e 256 ∧ d 257 = e 257 ∧ d 258 = e 258 ∧ d 259 = e 259 ∧ d 260 = e 260 ∧ d 261 = e 261 ∧ d 262 = e 262 ∧ d 263 = e 263 ∧ d 264 = e 264 ∧ d 265 = e 265 ∧ d 268 = e 268 ∧ d 269 = e 269
theorem fm_1 {d e : Dat} (h : FM d e) : d 241 1 = e 241 1 := h.1
theorem fm_3 {d e : Dat} (h : FM d e) : d 241 3 = e 241 3 := h.2.1
theorem fm_8 {d e : Dat} (h : FM d e) : d 241 8 = e 241 8 := h.2.2.1
theorem fm_13 {d e : Dat} (h : FM d e) : d 241 13 = e 241 13 := h.2.2.2.1
theorem fm_17 {d e : Dat} (h : FM d e) : d 241 17 = e 241 17 := h.2.2.2.2.1
theorem fm_18 {d e : Dat} (h : FM d e) : d 241 18 = e 241 18 := h.2.2.2.2.2.1
theorem fm_21 {d e : Dat} (h : FM d e) : d 241 21 = e 241 21 := h.2.2.2.2.2.2.1
theorem fm_26 {d e : Dat} (h : FM d e) : d 241 26 = e 241 26 := h.2.2.2.2.2.2.2.1
theorem fm_36 {d e : Dat} (h : FM d e) : d 241 36 = e 241 36 := h.2.2.2.2.2.2.2.2.1
theorem fm_243 {d e : Dat} (h : FM d e) : d 243 = e 243 := h.2.2.2.2.2.2.2.2.2.1
theorem fm_244 {d e : Dat} (h : FM d e) : d 244 = e 244 := h.2.2.2.2.2.2.2.2.2.2.1
theorem fm_245 {d e : Dat} (h : FM d e) : d 245 = e 245 := h.2.2.2.2.2.2.2.2.2.2.2.1
theorem fm_246 {d e : Dat} (h : FM d e) : d 246 = e 246 := h.2.2.2.2.2.2.2.2.2.2.2.2.1
theorem fm_247 {d e : Dat} (h : FM d e) : d 247 = e 247 := h.2.2.2.2.2.2.2.2.2.2.2.2.2.1
theorem fm_248 {d e : Dat} (h : FM d e) : d 248 = e 248 := h.2.2.2.2.2.2.2.2.2.2.2.2.2.2.1
theorem fm_249 {d e : Dat} (h : FM d e) : d 249 = e 249 := h.2.2.2.2.2.2.2.2.2.2.2.2.2.2.2.1
theorem fm_250 {d e : Dat} (h : FM d e) : d 250 = e 250 := h.2.2.2.2.2.2.2.2.2.2.2.2.2.2.2.2.1
theorem fm_251 {d e : Dat} (h : FM d e) : d 251 = e 251 := h.2.2.2.2.2.2.2.2.2.2.2.2.2.2.2.2.2.1
theorem fm_252 {d e : Dat} (h : FM d e) : d 252 = e 252 := h.2.2.2.2.2.2.2.2.2.2.2.2.2.2.2.2.2.2.1
theorem fm_253 {d e : Dat} (h : FM d e) : d 253 = e 253 := h.2.2.2.2.2.2.2.2.2.2.2.2.2.2.2.2.2.2.2.1
theorem fm_254 {d e : Dat} (h : FM d e) : d 254 = e 254 := h.2.2.2.2.2.2.2.2.2.2.2.2.2.2.2.2.2.2.2.2.1
theorem fm_255 {d e : Dat} (h : FM d e) : d 255 = e 255 := h.2.2.2.2.2.2.2.2.2.2.2.2.2.2.2.2.2.2.2.2.2.1
theorem fm_256 {d e : Dat} (h : FM d e) : d 256 = e 256 := h.2.2.2.2.2.2.2.2.2.2.2.2.2.2.2.2.2.2.2.2.2.2.1
theorem fm_257 {d e : Dat} (h : FM d e) : d 257 = e 257 := h.2.2.2.2.2.2.2.2.2.2.2.2.2.2.2.2.2.2.2.2.2.2.2.1
theorem fm_258 {d e : Dat} (h : FM d e) : d 258 = e 258 := h.2.2.2.2.2.2.2.2.2.2.2.2.2.2.2.2.2.2.2.2.2.2.2.2.1
theorem fm_259 {d e : Dat} (h : FM d e) : d 259 = e 259 := h.2.2.2.2.2.2.2.2.2.2.2.2.2.2.2.2.2.2.2.2.2.2.2.2.2.1
theorem fm_260 {d e : Dat} (h : FM d e) : d 260 = e 260 := h.2.2.2.2.2.2.2.2.2.2.2.2.2.2.2.2.2.2.2.2.2.2.2.2.2.2.1
theorem fm_261 {d e : Dat} (h : FM d e) : d 261 = e 261 := h.2.2.2.2.2.2.2.2.2.2.2.2.2.2.2.2.2.2.2.2.2.2.2.2.2.2.2.1
theorem fm_262 {d e : Dat} (h : FM d e) : d 262 = e 262 := h.2.2.2.2.2.2.2.2.2.2.2.2.2.2.2.2.2.2.2.2.2.2.2.2.2.2.2.2.1
theorem fm_263 {d e : Dat} (h : FM d e) : d 263 = e 263 := h.2.2.2.2.2.2.2.2.2.2.2.2.2.2.2.2.2.2.2.2.2.2.2.2.2.2.2.2.2.1
theorem fm_264 {d e : Dat} (h : FM d e) : d 264 = e 264 := h.2.2.2.2.2.2.2.2.2.2.2.2.2.2.2.2.2.2.2.2.2.2.2.2.2.2.2.2.2.2.1
theorem fm_265 {d e : Dat} (h : FM d e) : d 265 = e 265 := h.2.2.2.2.2.2.2.2.2.2.2.2.2.2.2.2.2.2.2.2.2.2.2.2.2.2.2.2.2.2.2.1
theorem fm_268 {d e : Dat} (h : FM d e) : d 268 = e 268 := h.2.2.2.2.2.2.2.2.2.2.2.2.2.2.2.2.2.2.2.2.2.2.2.2.2.2.2.2.2.2.2.2.1
theorem fm_269 {d e : Dat} (h : FM d e) : d 269 = e 269 := h.2.2.2.2.2.2.2.2.2.2.2.2.2.2.2.2.2.2.2.2.2.2.2.2.2.2.2.2.2.2.2.2.2
theorem tn_14 {x : Int} (h : 0 ≤ x) : (14 + x).toNat = 14 + x.toNat := by omega
theorem tn_28 {x : Int} (h : 0 ≤ x) : (28 + x).toNat = 28 + x.toNat := by omega
theorem tn_42 {x : Int} (h : 0 ≤ x) : (42 + x).toNat = 42 + x.toNat := by omega
theorem tn_56 {x : Int} (h : 0 ≤ x) : (56 + x).toNat = 56 + x.toNat := by omega
theorem tn_70 {x : Int} (h : 0 ≤ x) : (70 + x).toNat = 70 + x.toNat := by omega
theorem tn_84 {x : Int} (h : 0 ≤ x) : (84 + x).toNat = 84 + x.toNat := by omega
theorem tn_104 {x : Int} (h : 0 ≤ x) : (104 + x).toNat = 104 + x.toNat := by omega
theorem tn_112 {x : Int} (h : 0 ≤ x) : (112 + x).toNat = 112 + x.toNat := by omega
theorem tn_120 {x : Int} (h : 0 ≤ x) : (120 + x).toNat = 120 + x.toNat := by omega
theorem tn_128 {x : Int} (h : 0 ≤ x) : (128 + x).toNat = 128 + x.toNat := by omega
theorem tn_136 {x : Int} (h : 0 ≤ x) : (136 + x).toNat = 136 + x.toNat := by omega
theorem tn_148 {x : Int} (h : 0 ≤ x) : (148 + x).toNat = 148 + x.toNat := by omega
theorem tn_160 {x : Int} (h : 0 ≤ x) : (160 + x).toNat = 160 + x.toNat := by omega
theorem tn_172 {x : Int} (h : 0 ≤ x) : (172 + x).toNat = 172 + x.toNat := by omega
theorem tn_184 {x : Int} (h : 0 ≤ x) : (184 + x).toNat = 184 + x.toNat := by omega
theorem tn_196 {x : Int} (h : 0 ≤ x) : (196 + x).toNat = 196 + x.toNat := by omega
theorem tn_200 {x : Int} (h : 0 ≤ x) : (200 + x).toNat = 200 + x.toNat := by omega
theorem tn_204 {x : Int} (h : 0 ≤ x) : (204 + x).toNat = 204 + x.toNat := by omega
theorem tn_208 {x : Int} (h : 0 ≤ x) : (208 + x).toNat = 208 + x.toNat := by omega
theorem tn_225 {x : Int} (h : 0 ≤ x) : (225 + x).toNat = 225 + x.toNat := by omega
theorem tn_245 {x : Int} (h : 0 ≤ x) : (245 + x).toNat = 245 + x.toNat := by omega
theorem tn_265 {x : Int} (h : 0 ≤ x) : (265 + x).toNat = 265 + x.toNat := by omega
theorem tn_286 {x : Int} (h : 0 ≤ x) : (286 + x).toNat = 286 + x.toNat := by omega
theorem tn_2078 {x : Int} (h : 0 ≤ x) : (2078 + x).toNat = 2078 + x.toNat := by omega
theorem tn_2090 {x : Int} (h : 0 ≤ x) : (2090 + x).toNat = 2090 + x.toNat := by omega
theorem le_T {a b : Int} (h : a ≤ b) : (a ≤ b) = True := eq_true h
theorem lt_T {a b : Int} (h : a < b) : (a < b) = True := eq_true h
theorem le_F {a b : Int} (h : b < a) : (a ≤ b) = False := eq_false (by omega)
theorem lt_F {a b : Int} (h : b ≤ a) : (a < b) = False := eq_false (by omega)
def hasS (e : Dat) (q o : Int) : Bool := decide (0 ≤ o ∧ o < (if q ≤ 1 then e 241 3 else if q ≤ 3 then e 241 8 else e 241 13))
def WE (e : Dat) : Prop := (0 ≤ e 241 1 ∧ e 241 1 ≤ 14) ∧ (0 ≤ e 241 3 ∧ e 241 3 ≤ 20) ∧ (0 ≤ e 241 8 ∧ e 241 8 ≤ 8) ∧ (0 ≤ e 241 13 ∧ e 241 13 ≤ 12) ∧ (0 ≤ e 241 17 ∧ e 241 17 ≤ 4) ∧ (0 ≤ e 241 18 ∧ e 241 18 ≤ 4) ∧ (0 ≤ e 241 21 ∧ e 241 21 ≤ 16) ∧ (0 ≤ e 241 26 ∧ e 241 26 ≤ 20) ∧ (1 ≤ e 241 36 ∧ e 241 36 ≤ 6) ∧ (∀ i, 0 ≤ e 243 i ∧ e 243 i ≤ 99) ∧ (∀ i, (0 ≤ e 244 i ∧ e 244 i < 14) ∧ (0 ≤ e 245 i ∧ e 245 i < 14) ∧ (0 ≤ e 246 i ∧ e 246 i ≤ 99) ∧ (e 247 i = 0 ∨ e 247 i = 1)) ∧ (∀ i, i < (e 241 3).toNat → e 244 i < e 241 1 ∧ e 245 i < e 241 1 ∧ ¬ e 244 i = e 245 i) ∧ (∀ i, (0 ≤ e 248 i ∧ e 248 i ≤ 5) ∧ (0 ≤ e 249 i ∧ e 249 i < 14) ∧ (0 ≤ e 250 i ∧ e 250 i ≤ 999) ∧ (0 ≤ e 251 i ∧ e 251 i ≤ 99)) ∧ (∀ i, i < (e 241 8).toNat → e 249 i < e 241 1 ∧ 1 ≤ e 250 i ∧ 1 ≤ e 251 i) ∧ (∀ i, (0 ≤ e 252 i ∧ e 252 i < 14) ∧ (0 ≤ e 253 i ∧ e 253 i ≤ 999) ∧ (0 ≤ e 254 i ∧ e 254 i ≤ 9)) ∧ (∀ i, i < (e 241 13).toNat → e 252 i < e 241 1) ∧ (∀ i, (0 ≤ e 255 i ∧ e 255 i < 14) ∧ (0 ≤ e 256 i ∧ e 256 i ≤ 30)) ∧ (∀ i, (0 ≤ e 257 i ∧ e 257 i < 4) ∧ (0 ≤ e 258 i ∧ e 258 i < 6) ∧ (0 ≤ e 259 i ∧ e 259 i ≤ 5) ∧ (0 ≤ e 260 i ∧ e 260 i < 20)) ∧ (∀ i, i < (e 241 21).toNat → e 257 i < e 241 18 ∧ e 258 i < e 241 36 ∧ hasS e (e 259 i) (e 260 i) = true) ∧ (∀ i, e 265 i = 0 ∨ e 265 i = 1)
theorem we_n {e : Dat} (h : WE e) : (0 ≤ e 241 1 ∧ e 241 1 ≤ 14) := h.1
theorem we_l {e : Dat} (h : WE e) : (0 ≤ e 241 3 ∧ e 241 3 ≤ 20) := h.2.1
theorem we_p {e : Dat} (h : WE e) : (0 ≤ e 241 8 ∧ e 241 8 ≤ 8) := h.2.2.1
theorem we_o {e : Dat} (h : WE e) : (0 ≤ e 241 13 ∧ e 241 13 ≤ 12) := h.2.2.2.1
theorem we_c {e : Dat} (h : WE e) : (0 ≤ e 241 17 ∧ e 241 17 ≤ 4) := h.2.2.2.2.1
theorem we_r {e : Dat} (h : WE e) : (0 ≤ e 241 18 ∧ e 241 18 ≤ 4) := h.2.2.2.2.2.1
theorem we_k {e : Dat} (h : WE e) : (0 ≤ e 241 21 ∧ e 241 21 ≤ 16) := h.2.2.2.2.2.2.1
theorem we_s {e : Dat} (h : WE e) : (0 ≤ e 241 26 ∧ e 241 26 ≤ 20) := h.2.2.2.2.2.2.2.1
theorem we_t {e : Dat} (h : WE e) : (1 ≤ e 241 36 ∧ e 241 36 ≤ 6) := h.2.2.2.2.2.2.2.2.1
theorem we_x {e : Dat} (h : WE e) : (∀ i, 0 ≤ e 243 i ∧ e 243 i ≤ 99) := h.2.2.2.2.2.2.2.2.2.1
theorem we_L {e : Dat} (h : WE e) : (∀ i, (0 ≤ e 244 i ∧ e 244 i < 14) ∧ (0 ≤ e 245 i ∧ e 245 i < 14) ∧ (0 ≤ e 246 i ∧ e 246 i ≤ 99) ∧ (e 247 i = 0 ∨ e 247 i = 1)) := h.2.2.2.2.2.2.2.2.2.2.1
theorem we_L2 {e : Dat} (h : WE e) : (∀ i, i < (e 241 3).toNat → e 244 i < e 241 1 ∧ e 245 i < e 241 1 ∧ ¬ e 244 i = e 245 i) := h.2.2.2.2.2.2.2.2.2.2.2.1
theorem we_P {e : Dat} (h : WE e) : (∀ i, (0 ≤ e 248 i ∧ e 248 i ≤ 5) ∧ (0 ≤ e 249 i ∧ e 249 i < 14) ∧ (0 ≤ e 250 i ∧ e 250 i ≤ 999) ∧ (0 ≤ e 251 i ∧ e 251 i ≤ 99)) := h.2.2.2.2.2.2.2.2.2.2.2.2.1
theorem we_P2 {e : Dat} (h : WE e) : (∀ i, i < (e 241 8).toNat → e 249 i < e 241 1 ∧ 1 ≤ e 250 i ∧ 1 ≤ e 251 i) := h.2.2.2.2.2.2.2.2.2.2.2.2.2.1
theorem we_O {e : Dat} (h : WE e) : (∀ i, (0 ≤ e 252 i ∧ e 252 i < 14) ∧ (0 ≤ e 253 i ∧ e 253 i ≤ 999) ∧ (0 ≤ e 254 i ∧ e 254 i ≤ 9)) := h.2.2.2.2.2.2.2.2.2.2.2.2.2.2.1
theorem we_O2 {e : Dat} (h : WE e) : (∀ i, i < (e 241 13).toNat → e 252 i < e 241 1) := h.2.2.2.2.2.2.2.2.2.2.2.2.2.2.2.1
theorem we_R {e : Dat} (h : WE e) : (∀ i, (0 ≤ e 255 i ∧ e 255 i < 14) ∧ (0 ≤ e 256 i ∧ e 256 i ≤ 30)) := h.2.2.2.2.2.2.2.2.2.2.2.2.2.2.2.2.1
theorem we_K {e : Dat} (h : WE e) : (∀ i, (0 ≤ e 257 i ∧ e 257 i < 4) ∧ (0 ≤ e 258 i ∧ e 258 i < 6) ∧ (0 ≤ e 259 i ∧ e 259 i ≤ 5) ∧ (0 ≤ e 260 i ∧ e 260 i < 20)) := h.2.2.2.2.2.2.2.2.2.2.2.2.2.2.2.2.2.1
theorem we_K2 {e : Dat} (h : WE e) : (∀ i, i < (e 241 21).toNat → e 257 i < e 241 18 ∧ e 258 i < e 241 36 ∧ hasS e (e 259 i) (e 260 i) = true) := h.2.2.2.2.2.2.2.2.2.2.2.2.2.2.2.2.2.2.1
theorem we_S {e : Dat} (h : WE e) : (∀ i, e 265 i = 0 ∨ e 265 i = 1) := h.2.2.2.2.2.2.2.2.2.2.2.2.2.2.2.2.2.2.2
def WQ (e : Dat) (P : Row) : Prop := (∀ i, i < (e 241 1).toNat → 0 ≤ P (70 + i) ∧ P (70 + i) < e 241 1) ∧ (∀ i, i < 14 → P (56 + i) = 0 ∨ P (56 + i) = 1) ∧ (∀ i, i < 20 → P (84 + i) = 0 ∨ P (84 + i) = 1) ∧ (∀ i, i < 12 → P (136 + i) = 0 ∨ P (136 + i) = 1) ∧ (∀ i, i < 16 → P (208 + i) = 0 ∨ P (208 + i) = 1) ∧ (∀ i, i < 12 → (P (2078 + i) = 0 ∨ P (2078 + i) = 1) ∧ (P (184 + i) = 0 ∨ P (184 + i) = 1)) ∧ (∀ i, i < 4 → (0 ≤ P (196 + i) ∧ P (196 + i) < 14) ∧ (0 ≤ P (200 + i) ∧ P (200 + i) < 14) ∧ (0 ≤ P (204 + i) ∧ P (204 + i) ≤ 99)) ∧ (∀ i, i < 12 → P (2078 + i) = 1 → 1 ≤ P (172 + i) ∧ P (172 + i) ≤ 700) ∧ (0 ≤ P 285 ∧ P 285 ≤ 600) ∧ (0 ≤ P 224) ∧ (∀ i, i < 14 → -1000000 ≤ P i ∧ P i ≤ 1000000) ∧ (∀ i, i < 8 → 0 ≤ P (112 + i) ∧ P (112 + i) ≤ 999) ∧ (∀ i, i < 8 → ¬ P (104 + i) = 2 → P (112 + i) = 0)
theorem wp_i {e : Dat} {P : Row} (h : WQ e P) : (∀ i, i < (e 241 1).toNat → 0 ≤ P (70 + i) ∧ P (70 + i) < e 241 1) := h.1
theorem wp_l {e : Dat} {P : Row} (h : WQ e P) : (∀ i, i < 14 → P (56 + i) = 0 ∨ P (56 + i) = 1) := h.2.1
theorem wp_c {e : Dat} {P : Row} (h : WQ e P) : (∀ i, i < 20 → P (84 + i) = 0 ∨ P (84 + i) = 1) := h.2.2.1
theorem wp_o {e : Dat} {P : Row} (h : WQ e P) : (∀ i, i < 12 → P (136 + i) = 0 ∨ P (136 + i) = 1) := h.2.2.2.1
theorem wp_d {e : Dat} {P : Row} (h : WQ e P) : (∀ i, i < 16 → P (208 + i) = 0 ∨ P (208 + i) = 1) := h.2.2.2.2.1
theorem wp_w {e : Dat} {P : Row} (h : WQ e P) : (∀ i, i < 12 → (P (2078 + i) = 0 ∨ P (2078 + i) = 1) ∧ (P (184 + i) = 0 ∨ P (184 + i) = 1)) := h.2.2.2.2.2.1
theorem wp_g {e : Dat} {P : Row} (h : WQ e P) : (∀ i, i < 4 → (0 ≤ P (196 + i) ∧ P (196 + i) < 14) ∧ (0 ≤ P (200 + i) ∧ P (200 + i) < 14) ∧ (0 ≤ P (204 + i) ∧ P (204 + i) ≤ 99)) := h.2.2.2.2.2.2.1
theorem wp_f {e : Dat} {P : Row} (h : WQ e P) : (∀ i, i < 12 → P (2078 + i) = 1 → 1 ≤ P (172 + i) ∧ P (172 + i) ≤ 700) := h.2.2.2.2.2.2.2.1
theorem wp_m {e : Dat} {P : Row} (h : WQ e P) : (0 ≤ P 285 ∧ P 285 ≤ 600) := h.2.2.2.2.2.2.2.2.1
theorem wp_F {e : Dat} {P : Row} (h : WQ e P) : (0 ≤ P 224) := h.2.2.2.2.2.2.2.2.2.1
theorem wp_s {e : Dat} {P : Row} (h : WQ e P) : (∀ i, i < 14 → -1000000 ≤ P i ∧ P i ≤ 1000000) := h.2.2.2.2.2.2.2.2.2.2.1
theorem wp_u {e : Dat} {P : Row} (h : WQ e P) : (∀ i, i < 8 → 0 ≤ P (112 + i) ∧ P (112 + i) ≤ 999) := h.2.2.2.2.2.2.2.2.2.2.2.1
theorem wp_z {e : Dat} {P : Row} (h : WQ e P) : (∀ i, i < 8 → ¬ P (104 + i) = 2 → P (112 + i) = 0) := h.2.2.2.2.2.2.2.2.2.2.2.2
def RL (m : Bool) (b : Nat) (e d0 d : Dat) (P : Row) : Prop := ((e 241 1).toNat ≤ 14 ∧ (e 241 13).toNat ≤ 12) ∧ (∀ a, (a < b ∨ b + 28 < a) → ¬ a = 38 → ¬ a = 47 → d a = d0 a) ∧ (∀ i, i < 14 → d (b + 3) i = P (56 + i)) ∧ (∀ i, i < 14 → d (b + 4) i = P i) ∧ (∀ i, i < 14 → d (b + 5) i = P (14 + i)) ∧ (∀ i, i < 14 → d (b + 6) i = P (28 + i)) ∧ (∀ i, i < 14 → d (b + 7) i = P (42 + i)) ∧ (∀ i, i < 1792 → d (b + 8) i = P (286 + i)) ∧ (∀ i, i < 8 → d (b + 10) i = P (104 + i)) ∧ (∀ i, i < 8 → d (b + 11) i = P (112 + i)) ∧ (∀ i, i < 8 → d (b + 12) i = P (120 + i)) ∧ (∀ i, i < 8 → d (b + 13) i = P (128 + i)) ∧ (∀ i, i < 12 → d (b + 15) i = P (136 + i)) ∧ (∀ i, i < 12 → d (b + 17) i = P (148 + i)) ∧ (∀ i, i < 12 → d (b + 18) i = P (160 + i)) ∧ (∀ i, i < 4 → d (b + 21) i = P (196 + i)) ∧ (∀ i, i < 4 → d (b + 22) i = P (200 + i)) ∧ (∀ i, i < 4 → d (b + 23) i = P (204 + i)) ∧ (∀ i, i < 20 → d (b + 24) i = P (84 + i)) ∧ (∀ i, i < 16 → d (b + 25) i = P (208 + i)) ∧ (∀ i, i < (e 241 1).toNat → d (b + 2) i = P (70 + i)) ∧ (∀ i, (e 241 1).toNat ≤ i → i < 14 → d (b + 2) i = (i : Int)) ∧ (∀ i, i < 12 → d (b + 16) i = (if P (2078 + i) = 1 then P (172 + i) else 0)) ∧ (∀ i, i < 12 → (P (2078 + i) = 1 → d (b + 20) i = P (184 + i)) ∧ (d (b + 20) i = 0 ∨ d (b + 20) i = 1)) ∧ (∀ i, i < (e 241 13).toNat → d (b + 19) i = P (2090 + i)) ∧ (∀ i, (e 241 13).toNat ≤ i → i < 12 → d (b + 19) i = 60) ∧ d b 14 = P 285 ∧ d b 15 = P 224 ∧ (m = true → ∀ i, i < 20 → d (b + 26) i = P (225 + i)) ∧ (m = true → ∀ i, i < 20 → d (b + 27) i = P (245 + i)) ∧ (m = true → ∀ i, i < 20 → d (b + 28) i = P (265 + i))
theorem rl_n {m : Bool} {b : Nat} {e d0 d : Dat} {P : Row} (h : RL m b e d0 d P) : ((e 241 1).toNat ≤ 14 ∧ (e 241 13).toNat ≤ 12) := h.1
theorem rl_fr {m : Bool} {b : Nat} {e d0 d : Dat} {P : Row} (h : RL m b e d0 d P) : (∀ a, (a < b ∨ b + 28 < a) → ¬ a = 38 → ¬ a = 47 → d a = d0 a) := h.2.1
theorem rl_3 {m : Bool} {b : Nat} {e d0 d : Dat} {P : Row} (h : RL m b e d0 d P) : (∀ i, i < 14 → d (b + 3) i = P (56 + i)) := h.2.2.1
theorem rl_4 {m : Bool} {b : Nat} {e d0 d : Dat} {P : Row} (h : RL m b e d0 d P) : (∀ i, i < 14 → d (b + 4) i = P i) := h.2.2.2.1
theorem rl_5 {m : Bool} {b : Nat} {e d0 d : Dat} {P : Row} (h : RL m b e d0 d P) : (∀ i, i < 14 → d (b + 5) i = P (14 + i)) := h.2.2.2.2.1
theorem rl_6 {m : Bool} {b : Nat} {e d0 d : Dat} {P : Row} (h : RL m b e d0 d P) : (∀ i, i < 14 → d (b + 6) i = P (28 + i)) := h.2.2.2.2.2.1
theorem rl_7 {m : Bool} {b : Nat} {e d0 d : Dat} {P : Row} (h : RL m b e d0 d P) : (∀ i, i < 14 → d (b + 7) i = P (42 + i)) := h.2.2.2.2.2.2.1
theorem rl_8 {m : Bool} {b : Nat} {e d0 d : Dat} {P : Row} (h : RL m b e d0 d P) : (∀ i, i < 1792 → d (b + 8) i = P (286 + i)) := h.2.2.2.2.2.2.2.1
theorem rl_10 {m : Bool} {b : Nat} {e d0 d : Dat} {P : Row} (h : RL m b e d0 d P) : (∀ i, i < 8 → d (b + 10) i = P (104 + i)) := h.2.2.2.2.2.2.2.2.1
theorem rl_11 {m : Bool} {b : Nat} {e d0 d : Dat} {P : Row} (h : RL m b e d0 d P) : (∀ i, i < 8 → d (b + 11) i = P (112 + i)) := h.2.2.2.2.2.2.2.2.2.1
theorem rl_12 {m : Bool} {b : Nat} {e d0 d : Dat} {P : Row} (h : RL m b e d0 d P) : (∀ i, i < 8 → d (b + 12) i = P (120 + i)) := h.2.2.2.2.2.2.2.2.2.2.1
theorem rl_13 {m : Bool} {b : Nat} {e d0 d : Dat} {P : Row} (h : RL m b e d0 d P) : (∀ i, i < 8 → d (b + 13) i = P (128 + i)) := h.2.2.2.2.2.2.2.2.2.2.2.1
theorem rl_15 {m : Bool} {b : Nat} {e d0 d : Dat} {P : Row} (h : RL m b e d0 d P) : (∀ i, i < 12 → d (b + 15) i = P (136 + i)) := h.2.2.2.2.2.2.2.2.2.2.2.2.1
theorem rl_17 {m : Bool} {b : Nat} {e d0 d : Dat} {P : Row} (h : RL m b e d0 d P) : (∀ i, i < 12 → d (b + 17) i = P (148 + i)) := h.2.2.2.2.2.2.2.2.2.2.2.2.2.1
theorem rl_18 {m : Bool} {b : Nat} {e d0 d : Dat} {P : Row} (h : RL m b e d0 d P) : (∀ i, i < 12 → d (b + 18) i = P (160 + i)) := h.2.2.2.2.2.2.2.2.2.2.2.2.2.2.1
theorem rl_21 {m : Bool} {b : Nat} {e d0 d : Dat} {P : Row} (h : RL m b e d0 d P) : (∀ i, i < 4 → d (b + 21) i = P (196 + i)) := h.2.2.2.2.2.2.2.2.2.2.2.2.2.2.2.1
theorem rl_22 {m : Bool} {b : Nat} {e d0 d : Dat} {P : Row} (h : RL m b e d0 d P) : (∀ i, i < 4 → d (b + 22) i = P (200 + i)) := h.2.2.2.2.2.2.2.2.2.2.2.2.2.2.2.2.1
theorem rl_23 {m : Bool} {b : Nat} {e d0 d : Dat} {P : Row} (h : RL m b e d0 d P) : (∀ i, i < 4 → d (b + 23) i = P (204 + i)) := h.2.2.2.2.2.2.2.2.2.2.2.2.2.2.2.2.2.1
theorem rl_24 {m : Bool} {b : Nat} {e d0 d : Dat} {P : Row} (h : RL m b e d0 d P) : (∀ i, i < 20 → d (b + 24) i = P (84 + i)) := h.2.2.2.2.2.2.2.2.2.2.2.2.2.2.2.2.2.2.1
theorem rl_25 {m : Bool} {b : Nat} {e d0 d : Dat} {P : Row} (h : RL m b e d0 d P) : (∀ i, i < 16 → d (b + 25) i = P (208 + i)) := h.2.2.2.2.2.2.2.2.2.2.2.2.2.2.2.2.2.2.2.1
theorem rl_2 {m : Bool} {b : Nat} {e d0 d : Dat} {P : Row} (h : RL m b e d0 d P) : (∀ i, i < (e 241 1).toNat → d (b + 2) i = P (70 + i)) := h.2.2.2.2.2.2.2.2.2.2.2.2.2.2.2.2.2.2.2.2.1
theorem rl_2b {m : Bool} {b : Nat} {e d0 d : Dat} {P : Row} (h : RL m b e d0 d P) : (∀ i, (e 241 1).toNat ≤ i → i < 14 → d (b + 2) i = (i : Int)) := h.2.2.2.2.2.2.2.2.2.2.2.2.2.2.2.2.2.2.2.2.2.1
theorem rl_16 {m : Bool} {b : Nat} {e d0 d : Dat} {P : Row} (h : RL m b e d0 d P) : (∀ i, i < 12 → d (b + 16) i = (if P (2078 + i) = 1 then P (172 + i) else 0)) := h.2.2.2.2.2.2.2.2.2.2.2.2.2.2.2.2.2.2.2.2.2.2.1
theorem rl_20 {m : Bool} {b : Nat} {e d0 d : Dat} {P : Row} (h : RL m b e d0 d P) : (∀ i, i < 12 → (P (2078 + i) = 1 → d (b + 20) i = P (184 + i)) ∧ (d (b + 20) i = 0 ∨ d (b + 20) i = 1)) := h.2.2.2.2.2.2.2.2.2.2.2.2.2.2.2.2.2.2.2.2.2.2.2.1
theorem rl_19 {m : Bool} {b : Nat} {e d0 d : Dat} {P : Row} (h : RL m b e d0 d P) : (∀ i, i < (e 241 13).toNat → d (b + 19) i = P (2090 + i)) := h.2.2.2.2.2.2.2.2.2.2.2.2.2.2.2.2.2.2.2.2.2.2.2.2.1
theorem rl_19b {m : Bool} {b : Nat} {e d0 d : Dat} {P : Row} (h : RL m b e d0 d P) : (∀ i, (e 241 13).toNat ≤ i → i < 12 → d (b + 19) i = 60) := h.2.2.2.2.2.2.2.2.2.2.2.2.2.2.2.2.2.2.2.2.2.2.2.2.2.1
theorem rl_m {m : Bool} {b : Nat} {e d0 d : Dat} {P : Row} (h : RL m b e d0 d P) : d b 14 = P 285 := h.2.2.2.2.2.2.2.2.2.2.2.2.2.2.2.2.2.2.2.2.2.2.2.2.2.2.1
theorem rl_f {m : Bool} {b : Nat} {e d0 d : Dat} {P : Row} (h : RL m b e d0 d P) : d b 15 = P 224 := h.2.2.2.2.2.2.2.2.2.2.2.2.2.2.2.2.2.2.2.2.2.2.2.2.2.2.2.1
theorem rl_26 {m : Bool} {b : Nat} {e d0 d : Dat} {P : Row} (h : RL m b e d0 d P) : (m = true → ∀ i, i < 20 → d (b + 26) i = P (225 + i)) := h.2.2.2.2.2.2.2.2.2.2.2.2.2.2.2.2.2.2.2.2.2.2.2.2.2.2.2.2.1
theorem rl_27 {m : Bool} {b : Nat} {e d0 d : Dat} {P : Row} (h : RL m b e d0 d P) : (m = true → ∀ i, i < 20 → d (b + 27) i = P (245 + i)) := h.2.2.2.2.2.2.2.2.2.2.2.2.2.2.2.2.2.2.2.2.2.2.2.2.2.2.2.2.2.1
theorem rl_28 {m : Bool} {b : Nat} {e d0 d : Dat} {P : Row} (h : RL m b e d0 d P) : (m = true → ∀ i, i < 20 → d (b + 28) i = P (265 + i)) := h.2.2.2.2.2.2.2.2.2.2.2.2.2.2.2.2.2.2.2.2.2.2.2.2.2.2.2.2.2.2
theorem us_rd {d : Dat} {a c i j : Nat} {v : Int} : ups d a i v c j = if c = a then (if j = i then v else d a j) else d c j := by
  unfold ups rset fset
  by_cases h : c = a
  · rw [if_pos h, if_pos h]
  · rw [if_neg h, if_neg h]
theorem us_fr {d d0 : Dat} {a b i : Nat} {v : Int} (hb : b ≤ a ∧ a ≤ b + 28) (h : ∀ a, (a < b ∨ b + 28 < a) → ¬ a = 38 → ¬ a = 47 → d a = d0 a) : ∀ c, (c < b ∨ b + 28 < c) → ¬ c = 38 → ¬ c = 47 → ups d a i v c = d0 c := by
  intro c hc h1 h2
  rw [ups_ne (by omega)]
  exact h c hc h1 h2
theorem us_fr2 {d d0 : Dat} {a b i : Nat} {v : Int} (hb : a = 38 ∨ a = 47) (h : ∀ a, (a < b ∨ b + 28 < a) → ¬ a = 38 → ¬ a = 47 → d a = d0 a) : ∀ c, (c < b ∨ b + 28 < c) → ¬ c = 38 → ¬ c = 47 → ups d a i v c = d0 c := by
  intro c hc h1 h2
  rw [ups_ne (by omega)]
  exact h c hc h1 h2
theorem ue_o {d : Dat} {P : Row} {a c j q n qi : Nat} {v : Int} (h : ∀ i, i < n → d c i = P (q + i)) (hc : ¬ c = a) (hd : qi < q ∨ q + n ≤ qi) : ∀ i, i < n → ups d a j v c i = fset P qi v (q + i) := by
  intro i hi
  rw [u_ne hc, fs_ne (by omega)]
  exact h i hi
theorem ue_0 {d : Dat} {P : Row} {a c j n qi : Nat} {v : Int} (h : ∀ i, i < n → d c i = P i) (hc : ¬ c = a) (hd : n ≤ qi) : ∀ i, i < n → ups d a j v c i = fset P qi v i := by
  intro i hi
  rw [u_ne hc, fs_ne (by omega)]
  exact h i hi
theorem ue_s {d : Dat} {P : Row} {c j q n : Nat} {v : Int} (h : ∀ i, i < n → d c i = P (q + i)) : ∀ i, i < n → ups d c j v c i = fset P (q + j) v (q + i) := by
  intro i hi
  rw [us_rd, if_pos rfl, fs_rd, h i hi]
  by_cases q1 : i = j
  · rw [if_pos q1, if_pos (by omega)]
  · rw [if_neg q1, if_neg (by omega)]
theorem ue_s0 {d : Dat} {P : Row} {c j n : Nat} {v : Int} (h : ∀ i, i < n → d c i = P i) : ∀ i, i < n → ups d c j v c i = fset P j v i := by
  intro i hi
  rw [us_rd, if_pos rfl, fs_rd, h i hi]
theorem ue_1 {d : Dat} {P : Row} {a c j k q qi : Nat} {v : Int} (h : d c k = P q) (hc : ¬ c = a) (hd : ¬ q = qi) : ups d a j v c k = fset P qi v q := by
  rw [u_ne hc, fs_ne hd]
  exact h

theorem FC_of {m : Bool} {b : Nat} {e d0 d : Dat} {P : Row} (hb : 52 ≤ b) (h : RL m b e d0 d P) (hF : FC d0 e) : FC d e := by
  have hf := rl_fr h
  unfold FC at hF ⊢
  rw [hf 11 (by omega) (by omega) (by omega), hf 24 (by omega) (by omega) (by omega), hf 36 (by omega) (by omega) (by omega), hf 12 (by omega) (by omega) (by omega), hf 13 (by omega) (by omega) (by omega), hf 14 (by omega) (by omega) (by omega), hf 15 (by omega) (by omega) (by omega), hf 16 (by omega) (by omega) (by omega), hf 17 (by omega) (by omega) (by omega), hf 18 (by omega) (by omega) (by omega), hf 19 (by omega) (by omega) (by omega), hf 20 (by omega) (by omega) (by omega), hf 21 (by omega) (by omega) (by omega), hf 22 (by omega) (by omega) (by omega), hf 23 (by omega) (by omega) (by omega), hf 25 (by omega) (by omega) (by omega), hf 26 (by omega) (by omega) (by omega), hf 27 (by omega) (by omega) (by omega), hf 28 (by omega) (by omega) (by omega), hf 29 (by omega) (by omega) (by omega), hf 30 (by omega) (by omega) (by omega), hf 31 (by omega) (by omega) (by omega), hf 32 (by omega) (by omega) (by omega), hf 33 (by omega) (by omega) (by omega), hf 34 (by omega) (by omega) (by omega), hf 35 (by omega) (by omega) (by omega), hf 2 (by omega) (by omega) (by omega), hf 3 (by omega) (by omega) (by omega), hf 4 (by omega) (by omega) (by omega), hf 5 (by omega) (by omega) (by omega), hf 6 (by omega) (by omega) (by omega)]
  exact hF
theorem up_3 {m : Bool} {b : Nat} {e d0 d : Dat} {P : Row} {i : Nat} {v : Int} (h : RL m b e d0 d P) (hi : i < 14) : RL m b e d0 (ups d (b + 3) i v) (fset P (56 + i) v) := by
  obtain ⟨h0, h1, h2, h3, h4, h5, h6, h7, h8, h9, h10, h11, h12, h13, h14, h15, h16, h17, h18, h19, h20, h21, h22, h23, h24, h25, h26, h27, h28, h29, h30⟩ := h
  refine ⟨h0, us_fr (by omega) h1, ue_s h2, ue_0 h3 (by omega) (by omega), ue_o h4 (by omega) (by omega), ue_o h5 (by omega) (by omega), ue_o h6 (by omega) (by omega), ue_o h7 (by omega) (by omega), ue_o h8 (by omega) (by omega), ue_o h9 (by omega) (by omega), ue_o h10 (by omega) (by omega), ue_o h11 (by omega) (by omega), ue_o h12 (by omega) (by omega), ue_o h13 (by omega) (by omega), ue_o h14 (by omega) (by omega), ue_o h15 (by omega) (by omega), ue_o h16 (by omega) (by omega), ue_o h17 (by omega) (by omega), ue_o h18 (by omega) (by omega), ue_o h19 (by omega) (by omega), ue_o h20 (by omega) (by omega), ?_, ?_, ?_, ue_o h24 (by omega) (by omega), ?_, ue_1 h26 (by omega) (by omega), ue_1 h27 (by omega) (by omega), fun q => ue_o (h28 q) (by omega) (by omega), fun q => ue_o (h29 q) (by omega) (by omega), fun q => ue_o (h30 q) (by omega) (by omega)⟩
  · have hh := h21
    clear h1 h2 h3 h4 h5 h6 h7 h8 h9 h10 h11 h12 h13 h14 h15 h16 h17 h18 h19 h20 h21 h22 h23 h24 h25 h26 h27 h28 h29 h30
    simp only [us_rd, fs_rd]
    grind
  · have hh := h22
    clear h1 h2 h3 h4 h5 h6 h7 h8 h9 h10 h11 h12 h13 h14 h15 h16 h17 h18 h19 h20 h21 h22 h23 h24 h25 h26 h27 h28 h29 h30
    simp only [us_rd, fs_rd]
    grind
  · have hh := h23
    clear h1 h2 h3 h4 h5 h6 h7 h8 h9 h10 h11 h12 h13 h14 h15 h16 h17 h18 h19 h20 h21 h22 h23 h24 h25 h26 h27 h28 h29 h30
    simp only [us_rd, fs_rd]
    grind
  · have hh := h25
    clear h1 h2 h3 h4 h5 h6 h7 h8 h9 h10 h11 h12 h13 h14 h15 h16 h17 h18 h19 h20 h21 h22 h23 h24 h25 h26 h27 h28 h29 h30
    simp only [us_rd, fs_rd]
    grind
theorem up_4 {m : Bool} {b : Nat} {e d0 d : Dat} {P : Row} {i : Nat} {v : Int} (h : RL m b e d0 d P) (hi : i < 14) : RL m b e d0 (ups d (b + 4) i v) (fset P (i) v) := by
  obtain ⟨h0, h1, h2, h3, h4, h5, h6, h7, h8, h9, h10, h11, h12, h13, h14, h15, h16, h17, h18, h19, h20, h21, h22, h23, h24, h25, h26, h27, h28, h29, h30⟩ := h
  refine ⟨h0, us_fr (by omega) h1, ue_o h2 (by omega) (by omega), ue_s0 h3, ue_o h4 (by omega) (by omega), ue_o h5 (by omega) (by omega), ue_o h6 (by omega) (by omega), ue_o h7 (by omega) (by omega), ue_o h8 (by omega) (by omega), ue_o h9 (by omega) (by omega), ue_o h10 (by omega) (by omega), ue_o h11 (by omega) (by omega), ue_o h12 (by omega) (by omega), ue_o h13 (by omega) (by omega), ue_o h14 (by omega) (by omega), ue_o h15 (by omega) (by omega), ue_o h16 (by omega) (by omega), ue_o h17 (by omega) (by omega), ue_o h18 (by omega) (by omega), ue_o h19 (by omega) (by omega), ue_o h20 (by omega) (by omega), ?_, ?_, ?_, ue_o h24 (by omega) (by omega), ?_, ue_1 h26 (by omega) (by omega), ue_1 h27 (by omega) (by omega), fun q => ue_o (h28 q) (by omega) (by omega), fun q => ue_o (h29 q) (by omega) (by omega), fun q => ue_o (h30 q) (by omega) (by omega)⟩
  · have hh := h21
    clear h1 h2 h3 h4 h5 h6 h7 h8 h9 h10 h11 h12 h13 h14 h15 h16 h17 h18 h19 h20 h21 h22 h23 h24 h25 h26 h27 h28 h29 h30
    simp only [us_rd, fs_rd]
    grind
  · have hh := h22
    clear h1 h2 h3 h4 h5 h6 h7 h8 h9 h10 h11 h12 h13 h14 h15 h16 h17 h18 h19 h20 h21 h22 h23 h24 h25 h26 h27 h28 h29 h30
    simp only [us_rd, fs_rd]
    grind
  · have hh := h23
    clear h1 h2 h3 h4 h5 h6 h7 h8 h9 h10 h11 h12 h13 h14 h15 h16 h17 h18 h19 h20 h21 h22 h23 h24 h25 h26 h27 h28 h29 h30
    simp only [us_rd, fs_rd]
    grind
  · have hh := h25
    clear h1 h2 h3 h4 h5 h6 h7 h8 h9 h10 h11 h12 h13 h14 h15 h16 h17 h18 h19 h20 h21 h22 h23 h24 h25 h26 h27 h28 h29 h30
    simp only [us_rd, fs_rd]
    grind
theorem up_5 {m : Bool} {b : Nat} {e d0 d : Dat} {P : Row} {i : Nat} {v : Int} (h : RL m b e d0 d P) (hi : i < 14) : RL m b e d0 (ups d (b + 5) i v) (fset P (14 + i) v) := by
  obtain ⟨h0, h1, h2, h3, h4, h5, h6, h7, h8, h9, h10, h11, h12, h13, h14, h15, h16, h17, h18, h19, h20, h21, h22, h23, h24, h25, h26, h27, h28, h29, h30⟩ := h
  refine ⟨h0, us_fr (by omega) h1, ue_o h2 (by omega) (by omega), ue_0 h3 (by omega) (by omega), ue_s h4, ue_o h5 (by omega) (by omega), ue_o h6 (by omega) (by omega), ue_o h7 (by omega) (by omega), ue_o h8 (by omega) (by omega), ue_o h9 (by omega) (by omega), ue_o h10 (by omega) (by omega), ue_o h11 (by omega) (by omega), ue_o h12 (by omega) (by omega), ue_o h13 (by omega) (by omega), ue_o h14 (by omega) (by omega), ue_o h15 (by omega) (by omega), ue_o h16 (by omega) (by omega), ue_o h17 (by omega) (by omega), ue_o h18 (by omega) (by omega), ue_o h19 (by omega) (by omega), ue_o h20 (by omega) (by omega), ?_, ?_, ?_, ue_o h24 (by omega) (by omega), ?_, ue_1 h26 (by omega) (by omega), ue_1 h27 (by omega) (by omega), fun q => ue_o (h28 q) (by omega) (by omega), fun q => ue_o (h29 q) (by omega) (by omega), fun q => ue_o (h30 q) (by omega) (by omega)⟩
  · have hh := h21
    clear h1 h2 h3 h4 h5 h6 h7 h8 h9 h10 h11 h12 h13 h14 h15 h16 h17 h18 h19 h20 h21 h22 h23 h24 h25 h26 h27 h28 h29 h30
    simp only [us_rd, fs_rd]
    grind
  · have hh := h22
    clear h1 h2 h3 h4 h5 h6 h7 h8 h9 h10 h11 h12 h13 h14 h15 h16 h17 h18 h19 h20 h21 h22 h23 h24 h25 h26 h27 h28 h29 h30
    simp only [us_rd, fs_rd]
    grind
  · have hh := h23
    clear h1 h2 h3 h4 h5 h6 h7 h8 h9 h10 h11 h12 h13 h14 h15 h16 h17 h18 h19 h20 h21 h22 h23 h24 h25 h26 h27 h28 h29 h30
    simp only [us_rd, fs_rd]
    grind
  · have hh := h25
    clear h1 h2 h3 h4 h5 h6 h7 h8 h9 h10 h11 h12 h13 h14 h15 h16 h17 h18 h19 h20 h21 h22 h23 h24 h25 h26 h27 h28 h29 h30
    simp only [us_rd, fs_rd]
    grind
theorem up_6 {m : Bool} {b : Nat} {e d0 d : Dat} {P : Row} {i : Nat} {v : Int} (h : RL m b e d0 d P) (hi : i < 14) : RL m b e d0 (ups d (b + 6) i v) (fset P (28 + i) v) := by
  obtain ⟨h0, h1, h2, h3, h4, h5, h6, h7, h8, h9, h10, h11, h12, h13, h14, h15, h16, h17, h18, h19, h20, h21, h22, h23, h24, h25, h26, h27, h28, h29, h30⟩ := h
  refine ⟨h0, us_fr (by omega) h1, ue_o h2 (by omega) (by omega), ue_0 h3 (by omega) (by omega), ue_o h4 (by omega) (by omega), ue_s h5, ue_o h6 (by omega) (by omega), ue_o h7 (by omega) (by omega), ue_o h8 (by omega) (by omega), ue_o h9 (by omega) (by omega), ue_o h10 (by omega) (by omega), ue_o h11 (by omega) (by omega), ue_o h12 (by omega) (by omega), ue_o h13 (by omega) (by omega), ue_o h14 (by omega) (by omega), ue_o h15 (by omega) (by omega), ue_o h16 (by omega) (by omega), ue_o h17 (by omega) (by omega), ue_o h18 (by omega) (by omega), ue_o h19 (by omega) (by omega), ue_o h20 (by omega) (by omega), ?_, ?_, ?_, ue_o h24 (by omega) (by omega), ?_, ue_1 h26 (by omega) (by omega), ue_1 h27 (by omega) (by omega), fun q => ue_o (h28 q) (by omega) (by omega), fun q => ue_o (h29 q) (by omega) (by omega), fun q => ue_o (h30 q) (by omega) (by omega)⟩
  · have hh := h21
    clear h1 h2 h3 h4 h5 h6 h7 h8 h9 h10 h11 h12 h13 h14 h15 h16 h17 h18 h19 h20 h21 h22 h23 h24 h25 h26 h27 h28 h29 h30
    simp only [us_rd, fs_rd]
    grind
  · have hh := h22
    clear h1 h2 h3 h4 h5 h6 h7 h8 h9 h10 h11 h12 h13 h14 h15 h16 h17 h18 h19 h20 h21 h22 h23 h24 h25 h26 h27 h28 h29 h30
    simp only [us_rd, fs_rd]
    grind
  · have hh := h23
    clear h1 h2 h3 h4 h5 h6 h7 h8 h9 h10 h11 h12 h13 h14 h15 h16 h17 h18 h19 h20 h21 h22 h23 h24 h25 h26 h27 h28 h29 h30
    simp only [us_rd, fs_rd]
    grind
  · have hh := h25
    clear h1 h2 h3 h4 h5 h6 h7 h8 h9 h10 h11 h12 h13 h14 h15 h16 h17 h18 h19 h20 h21 h22 h23 h24 h25 h26 h27 h28 h29 h30
    simp only [us_rd, fs_rd]
    grind
theorem up_7 {m : Bool} {b : Nat} {e d0 d : Dat} {P : Row} {i : Nat} {v : Int} (h : RL m b e d0 d P) (hi : i < 14) : RL m b e d0 (ups d (b + 7) i v) (fset P (42 + i) v) := by
  obtain ⟨h0, h1, h2, h3, h4, h5, h6, h7, h8, h9, h10, h11, h12, h13, h14, h15, h16, h17, h18, h19, h20, h21, h22, h23, h24, h25, h26, h27, h28, h29, h30⟩ := h
  refine ⟨h0, us_fr (by omega) h1, ue_o h2 (by omega) (by omega), ue_0 h3 (by omega) (by omega), ue_o h4 (by omega) (by omega), ue_o h5 (by omega) (by omega), ue_s h6, ue_o h7 (by omega) (by omega), ue_o h8 (by omega) (by omega), ue_o h9 (by omega) (by omega), ue_o h10 (by omega) (by omega), ue_o h11 (by omega) (by omega), ue_o h12 (by omega) (by omega), ue_o h13 (by omega) (by omega), ue_o h14 (by omega) (by omega), ue_o h15 (by omega) (by omega), ue_o h16 (by omega) (by omega), ue_o h17 (by omega) (by omega), ue_o h18 (by omega) (by omega), ue_o h19 (by omega) (by omega), ue_o h20 (by omega) (by omega), ?_, ?_, ?_, ue_o h24 (by omega) (by omega), ?_, ue_1 h26 (by omega) (by omega), ue_1 h27 (by omega) (by omega), fun q => ue_o (h28 q) (by omega) (by omega), fun q => ue_o (h29 q) (by omega) (by omega), fun q => ue_o (h30 q) (by omega) (by omega)⟩
  · have hh := h21
    clear h1 h2 h3 h4 h5 h6 h7 h8 h9 h10 h11 h12 h13 h14 h15 h16 h17 h18 h19 h20 h21 h22 h23 h24 h25 h26 h27 h28 h29 h30
    simp only [us_rd, fs_rd]
    grind
  · have hh := h22
    clear h1 h2 h3 h4 h5 h6 h7 h8 h9 h10 h11 h12 h13 h14 h15 h16 h17 h18 h19 h20 h21 h22 h23 h24 h25 h26 h27 h28 h29 h30
    simp only [us_rd, fs_rd]
    grind
  · have hh := h23
    clear h1 h2 h3 h4 h5 h6 h7 h8 h9 h10 h11 h12 h13 h14 h15 h16 h17 h18 h19 h20 h21 h22 h23 h24 h25 h26 h27 h28 h29 h30
    simp only [us_rd, fs_rd]
    grind
  · have hh := h25
    clear h1 h2 h3 h4 h5 h6 h7 h8 h9 h10 h11 h12 h13 h14 h15 h16 h17 h18 h19 h20 h21 h22 h23 h24 h25 h26 h27 h28 h29 h30
    simp only [us_rd, fs_rd]
    grind
theorem up_8 {m : Bool} {b : Nat} {e d0 d : Dat} {P : Row} {i : Nat} {v : Int} (h : RL m b e d0 d P) (hi : i < 1792) : RL m b e d0 (ups d (b + 8) i v) (fset P (286 + i) v) := by
  obtain ⟨h0, h1, h2, h3, h4, h5, h6, h7, h8, h9, h10, h11, h12, h13, h14, h15, h16, h17, h18, h19, h20, h21, h22, h23, h24, h25, h26, h27, h28, h29, h30⟩ := h
  refine ⟨h0, us_fr (by omega) h1, ue_o h2 (by omega) (by omega), ue_0 h3 (by omega) (by omega), ue_o h4 (by omega) (by omega), ue_o h5 (by omega) (by omega), ue_o h6 (by omega) (by omega), ue_s h7, ue_o h8 (by omega) (by omega), ue_o h9 (by omega) (by omega), ue_o h10 (by omega) (by omega), ue_o h11 (by omega) (by omega), ue_o h12 (by omega) (by omega), ue_o h13 (by omega) (by omega), ue_o h14 (by omega) (by omega), ue_o h15 (by omega) (by omega), ue_o h16 (by omega) (by omega), ue_o h17 (by omega) (by omega), ue_o h18 (by omega) (by omega), ue_o h19 (by omega) (by omega), ue_o h20 (by omega) (by omega), ?_, ?_, ?_, ue_o h24 (by omega) (by omega), ?_, ue_1 h26 (by omega) (by omega), ue_1 h27 (by omega) (by omega), fun q => ue_o (h28 q) (by omega) (by omega), fun q => ue_o (h29 q) (by omega) (by omega), fun q => ue_o (h30 q) (by omega) (by omega)⟩
  · have hh := h21
    clear h1 h2 h3 h4 h5 h6 h7 h8 h9 h10 h11 h12 h13 h14 h15 h16 h17 h18 h19 h20 h21 h22 h23 h24 h25 h26 h27 h28 h29 h30
    simp only [us_rd, fs_rd]
    grind
  · have hh := h22
    clear h1 h2 h3 h4 h5 h6 h7 h8 h9 h10 h11 h12 h13 h14 h15 h16 h17 h18 h19 h20 h21 h22 h23 h24 h25 h26 h27 h28 h29 h30
    simp only [us_rd, fs_rd]
    grind
  · have hh := h23
    clear h1 h2 h3 h4 h5 h6 h7 h8 h9 h10 h11 h12 h13 h14 h15 h16 h17 h18 h19 h20 h21 h22 h23 h24 h25 h26 h27 h28 h29 h30
    simp only [us_rd, fs_rd]
    grind
  · have hh := h25
    clear h1 h2 h3 h4 h5 h6 h7 h8 h9 h10 h11 h12 h13 h14 h15 h16 h17 h18 h19 h20 h21 h22 h23 h24 h25 h26 h27 h28 h29 h30
    simp only [us_rd, fs_rd]
    grind
theorem up_10 {m : Bool} {b : Nat} {e d0 d : Dat} {P : Row} {i : Nat} {v : Int} (h : RL m b e d0 d P) (hi : i < 8) : RL m b e d0 (ups d (b + 10) i v) (fset P (104 + i) v) := by
  obtain ⟨h0, h1, h2, h3, h4, h5, h6, h7, h8, h9, h10, h11, h12, h13, h14, h15, h16, h17, h18, h19, h20, h21, h22, h23, h24, h25, h26, h27, h28, h29, h30⟩ := h
  refine ⟨h0, us_fr (by omega) h1, ue_o h2 (by omega) (by omega), ue_0 h3 (by omega) (by omega), ue_o h4 (by omega) (by omega), ue_o h5 (by omega) (by omega), ue_o h6 (by omega) (by omega), ue_o h7 (by omega) (by omega), ue_s h8, ue_o h9 (by omega) (by omega), ue_o h10 (by omega) (by omega), ue_o h11 (by omega) (by omega), ue_o h12 (by omega) (by omega), ue_o h13 (by omega) (by omega), ue_o h14 (by omega) (by omega), ue_o h15 (by omega) (by omega), ue_o h16 (by omega) (by omega), ue_o h17 (by omega) (by omega), ue_o h18 (by omega) (by omega), ue_o h19 (by omega) (by omega), ue_o h20 (by omega) (by omega), ?_, ?_, ?_, ue_o h24 (by omega) (by omega), ?_, ue_1 h26 (by omega) (by omega), ue_1 h27 (by omega) (by omega), fun q => ue_o (h28 q) (by omega) (by omega), fun q => ue_o (h29 q) (by omega) (by omega), fun q => ue_o (h30 q) (by omega) (by omega)⟩
  · have hh := h21
    clear h1 h2 h3 h4 h5 h6 h7 h8 h9 h10 h11 h12 h13 h14 h15 h16 h17 h18 h19 h20 h21 h22 h23 h24 h25 h26 h27 h28 h29 h30
    simp only [us_rd, fs_rd]
    grind
  · have hh := h22
    clear h1 h2 h3 h4 h5 h6 h7 h8 h9 h10 h11 h12 h13 h14 h15 h16 h17 h18 h19 h20 h21 h22 h23 h24 h25 h26 h27 h28 h29 h30
    simp only [us_rd, fs_rd]
    grind
  · have hh := h23
    clear h1 h2 h3 h4 h5 h6 h7 h8 h9 h10 h11 h12 h13 h14 h15 h16 h17 h18 h19 h20 h21 h22 h23 h24 h25 h26 h27 h28 h29 h30
    simp only [us_rd, fs_rd]
    grind
  · have hh := h25
    clear h1 h2 h3 h4 h5 h6 h7 h8 h9 h10 h11 h12 h13 h14 h15 h16 h17 h18 h19 h20 h21 h22 h23 h24 h25 h26 h27 h28 h29 h30
    simp only [us_rd, fs_rd]
    grind
theorem up_11 {m : Bool} {b : Nat} {e d0 d : Dat} {P : Row} {i : Nat} {v : Int} (h : RL m b e d0 d P) (hi : i < 8) : RL m b e d0 (ups d (b + 11) i v) (fset P (112 + i) v) := by
  obtain ⟨h0, h1, h2, h3, h4, h5, h6, h7, h8, h9, h10, h11, h12, h13, h14, h15, h16, h17, h18, h19, h20, h21, h22, h23, h24, h25, h26, h27, h28, h29, h30⟩ := h
  refine ⟨h0, us_fr (by omega) h1, ue_o h2 (by omega) (by omega), ue_0 h3 (by omega) (by omega), ue_o h4 (by omega) (by omega), ue_o h5 (by omega) (by omega), ue_o h6 (by omega) (by omega), ue_o h7 (by omega) (by omega), ue_o h8 (by omega) (by omega), ue_s h9, ue_o h10 (by omega) (by omega), ue_o h11 (by omega) (by omega), ue_o h12 (by omega) (by omega), ue_o h13 (by omega) (by omega), ue_o h14 (by omega) (by omega), ue_o h15 (by omega) (by omega), ue_o h16 (by omega) (by omega), ue_o h17 (by omega) (by omega), ue_o h18 (by omega) (by omega), ue_o h19 (by omega) (by omega), ue_o h20 (by omega) (by omega), ?_, ?_, ?_, ue_o h24 (by omega) (by omega), ?_, ue_1 h26 (by omega) (by omega), ue_1 h27 (by omega) (by omega), fun q => ue_o (h28 q) (by omega) (by omega), fun q => ue_o (h29 q) (by omega) (by omega), fun q => ue_o (h30 q) (by omega) (by omega)⟩
  · have hh := h21
    clear h1 h2 h3 h4 h5 h6 h7 h8 h9 h10 h11 h12 h13 h14 h15 h16 h17 h18 h19 h20 h21 h22 h23 h24 h25 h26 h27 h28 h29 h30
    simp only [us_rd, fs_rd]
    grind
  · have hh := h22
    clear h1 h2 h3 h4 h5 h6 h7 h8 h9 h10 h11 h12 h13 h14 h15 h16 h17 h18 h19 h20 h21 h22 h23 h24 h25 h26 h27 h28 h29 h30
    simp only [us_rd, fs_rd]
    grind
  · have hh := h23
    clear h1 h2 h3 h4 h5 h6 h7 h8 h9 h10 h11 h12 h13 h14 h15 h16 h17 h18 h19 h20 h21 h22 h23 h24 h25 h26 h27 h28 h29 h30
    simp only [us_rd, fs_rd]
    grind
  · have hh := h25
    clear h1 h2 h3 h4 h5 h6 h7 h8 h9 h10 h11 h12 h13 h14 h15 h16 h17 h18 h19 h20 h21 h22 h23 h24 h25 h26 h27 h28 h29 h30
    simp only [us_rd, fs_rd]
    grind
theorem up_12 {m : Bool} {b : Nat} {e d0 d : Dat} {P : Row} {i : Nat} {v : Int} (h : RL m b e d0 d P) (hi : i < 8) : RL m b e d0 (ups d (b + 12) i v) (fset P (120 + i) v) := by
  obtain ⟨h0, h1, h2, h3, h4, h5, h6, h7, h8, h9, h10, h11, h12, h13, h14, h15, h16, h17, h18, h19, h20, h21, h22, h23, h24, h25, h26, h27, h28, h29, h30⟩ := h
  refine ⟨h0, us_fr (by omega) h1, ue_o h2 (by omega) (by omega), ue_0 h3 (by omega) (by omega), ue_o h4 (by omega) (by omega), ue_o h5 (by omega) (by omega), ue_o h6 (by omega) (by omega), ue_o h7 (by omega) (by omega), ue_o h8 (by omega) (by omega), ue_o h9 (by omega) (by omega), ue_s h10, ue_o h11 (by omega) (by omega), ue_o h12 (by omega) (by omega), ue_o h13 (by omega) (by omega), ue_o h14 (by omega) (by omega), ue_o h15 (by omega) (by omega), ue_o h16 (by omega) (by omega), ue_o h17 (by omega) (by omega), ue_o h18 (by omega) (by omega), ue_o h19 (by omega) (by omega), ue_o h20 (by omega) (by omega), ?_, ?_, ?_, ue_o h24 (by omega) (by omega), ?_, ue_1 h26 (by omega) (by omega), ue_1 h27 (by omega) (by omega), fun q => ue_o (h28 q) (by omega) (by omega), fun q => ue_o (h29 q) (by omega) (by omega), fun q => ue_o (h30 q) (by omega) (by omega)⟩
  · have hh := h21
    clear h1 h2 h3 h4 h5 h6 h7 h8 h9 h10 h11 h12 h13 h14 h15 h16 h17 h18 h19 h20 h21 h22 h23 h24 h25 h26 h27 h28 h29 h30
    simp only [us_rd, fs_rd]
    grind
  · have hh := h22
    clear h1 h2 h3 h4 h5 h6 h7 h8 h9 h10 h11 h12 h13 h14 h15 h16 h17 h18 h19 h20 h21 h22 h23 h24 h25 h26 h27 h28 h29 h30
    simp only [us_rd, fs_rd]
    grind
  · have hh := h23
    clear h1 h2 h3 h4 h5 h6 h7 h8 h9 h10 h11 h12 h13 h14 h15 h16 h17 h18 h19 h20 h21 h22 h23 h24 h25 h26 h27 h28 h29 h30
    simp only [us_rd, fs_rd]
    grind
  · have hh := h25
    clear h1 h2 h3 h4 h5 h6 h7 h8 h9 h10 h11 h12 h13 h14 h15 h16 h17 h18 h19 h20 h21 h22 h23 h24 h25 h26 h27 h28 h29 h30
    simp only [us_rd, fs_rd]
    grind
theorem up_13 {m : Bool} {b : Nat} {e d0 d : Dat} {P : Row} {i : Nat} {v : Int} (h : RL m b e d0 d P) (hi : i < 8) : RL m b e d0 (ups d (b + 13) i v) (fset P (128 + i) v) := by
  obtain ⟨h0, h1, h2, h3, h4, h5, h6, h7, h8, h9, h10, h11, h12, h13, h14, h15, h16, h17, h18, h19, h20, h21, h22, h23, h24, h25, h26, h27, h28, h29, h30⟩ := h
  refine ⟨h0, us_fr (by omega) h1, ue_o h2 (by omega) (by omega), ue_0 h3 (by omega) (by omega), ue_o h4 (by omega) (by omega), ue_o h5 (by omega) (by omega), ue_o h6 (by omega) (by omega), ue_o h7 (by omega) (by omega), ue_o h8 (by omega) (by omega), ue_o h9 (by omega) (by omega), ue_o h10 (by omega) (by omega), ue_s h11, ue_o h12 (by omega) (by omega), ue_o h13 (by omega) (by omega), ue_o h14 (by omega) (by omega), ue_o h15 (by omega) (by omega), ue_o h16 (by omega) (by omega), ue_o h17 (by omega) (by omega), ue_o h18 (by omega) (by omega), ue_o h19 (by omega) (by omega), ue_o h20 (by omega) (by omega), ?_, ?_, ?_, ue_o h24 (by omega) (by omega), ?_, ue_1 h26 (by omega) (by omega), ue_1 h27 (by omega) (by omega), fun q => ue_o (h28 q) (by omega) (by omega), fun q => ue_o (h29 q) (by omega) (by omega), fun q => ue_o (h30 q) (by omega) (by omega)⟩
  · have hh := h21
    clear h1 h2 h3 h4 h5 h6 h7 h8 h9 h10 h11 h12 h13 h14 h15 h16 h17 h18 h19 h20 h21 h22 h23 h24 h25 h26 h27 h28 h29 h30
    simp only [us_rd, fs_rd]
    grind
  · have hh := h22
    clear h1 h2 h3 h4 h5 h6 h7 h8 h9 h10 h11 h12 h13 h14 h15 h16 h17 h18 h19 h20 h21 h22 h23 h24 h25 h26 h27 h28 h29 h30
    simp only [us_rd, fs_rd]
    grind
  · have hh := h23
    clear h1 h2 h3 h4 h5 h6 h7 h8 h9 h10 h11 h12 h13 h14 h15 h16 h17 h18 h19 h20 h21 h22 h23 h24 h25 h26 h27 h28 h29 h30
    simp only [us_rd, fs_rd]
    grind
  · have hh := h25
    clear h1 h2 h3 h4 h5 h6 h7 h8 h9 h10 h11 h12 h13 h14 h15 h16 h17 h18 h19 h20 h21 h22 h23 h24 h25 h26 h27 h28 h29 h30
    simp only [us_rd, fs_rd]
    grind
theorem up_15 {m : Bool} {b : Nat} {e d0 d : Dat} {P : Row} {i : Nat} {v : Int} (h : RL m b e d0 d P) (hi : i < 12) : RL m b e d0 (ups d (b + 15) i v) (fset P (136 + i) v) := by
  obtain ⟨h0, h1, h2, h3, h4, h5, h6, h7, h8, h9, h10, h11, h12, h13, h14, h15, h16, h17, h18, h19, h20, h21, h22, h23, h24, h25, h26, h27, h28, h29, h30⟩ := h
  refine ⟨h0, us_fr (by omega) h1, ue_o h2 (by omega) (by omega), ue_0 h3 (by omega) (by omega), ue_o h4 (by omega) (by omega), ue_o h5 (by omega) (by omega), ue_o h6 (by omega) (by omega), ue_o h7 (by omega) (by omega), ue_o h8 (by omega) (by omega), ue_o h9 (by omega) (by omega), ue_o h10 (by omega) (by omega), ue_o h11 (by omega) (by omega), ue_s h12, ue_o h13 (by omega) (by omega), ue_o h14 (by omega) (by omega), ue_o h15 (by omega) (by omega), ue_o h16 (by omega) (by omega), ue_o h17 (by omega) (by omega), ue_o h18 (by omega) (by omega), ue_o h19 (by omega) (by omega), ue_o h20 (by omega) (by omega), ?_, ?_, ?_, ue_o h24 (by omega) (by omega), ?_, ue_1 h26 (by omega) (by omega), ue_1 h27 (by omega) (by omega), fun q => ue_o (h28 q) (by omega) (by omega), fun q => ue_o (h29 q) (by omega) (by omega), fun q => ue_o (h30 q) (by omega) (by omega)⟩
  · have hh := h21
    clear h1 h2 h3 h4 h5 h6 h7 h8 h9 h10 h11 h12 h13 h14 h15 h16 h17 h18 h19 h20 h21 h22 h23 h24 h25 h26 h27 h28 h29 h30
    simp only [us_rd, fs_rd]
    grind
  · have hh := h22
    clear h1 h2 h3 h4 h5 h6 h7 h8 h9 h10 h11 h12 h13 h14 h15 h16 h17 h18 h19 h20 h21 h22 h23 h24 h25 h26 h27 h28 h29 h30
    simp only [us_rd, fs_rd]
    grind
  · have hh := h23
    clear h1 h2 h3 h4 h5 h6 h7 h8 h9 h10 h11 h12 h13 h14 h15 h16 h17 h18 h19 h20 h21 h22 h23 h24 h25 h26 h27 h28 h29 h30
    simp only [us_rd, fs_rd]
    grind
  · have hh := h25
    clear h1 h2 h3 h4 h5 h6 h7 h8 h9 h10 h11 h12 h13 h14 h15 h16 h17 h18 h19 h20 h21 h22 h23 h24 h25 h26 h27 h28 h29 h30
    simp only [us_rd, fs_rd]
    grind
theorem up_17 {m : Bool} {b : Nat} {e d0 d : Dat} {P : Row} {i : Nat} {v : Int} (h : RL m b e d0 d P) (hi : i < 12) : RL m b e d0 (ups d (b + 17) i v) (fset P (148 + i) v) := by
  obtain ⟨h0, h1, h2, h3, h4, h5, h6, h7, h8, h9, h10, h11, h12, h13, h14, h15, h16, h17, h18, h19, h20, h21, h22, h23, h24, h25, h26, h27, h28, h29, h30⟩ := h
  refine ⟨h0, us_fr (by omega) h1, ue_o h2 (by omega) (by omega), ue_0 h3 (by omega) (by omega), ue_o h4 (by omega) (by omega), ue_o h5 (by omega) (by omega), ue_o h6 (by omega) (by omega), ue_o h7 (by omega) (by omega), ue_o h8 (by omega) (by omega), ue_o h9 (by omega) (by omega), ue_o h10 (by omega) (by omega), ue_o h11 (by omega) (by omega), ue_o h12 (by omega) (by omega), ue_s h13, ue_o h14 (by omega) (by omega), ue_o h15 (by omega) (by omega), ue_o h16 (by omega) (by omega), ue_o h17 (by omega) (by omega), ue_o h18 (by omega) (by omega), ue_o h19 (by omega) (by omega), ue_o h20 (by omega) (by omega), ?_, ?_, ?_, ue_o h24 (by omega) (by omega), ?_, ue_1 h26 (by omega) (by omega), ue_1 h27 (by omega) (by omega), fun q => ue_o (h28 q) (by omega) (by omega), fun q => ue_o (h29 q) (by omega) (by omega), fun q => ue_o (h30 q) (by omega) (by omega)⟩
  · have hh := h21
    clear h1 h2 h3 h4 h5 h6 h7 h8 h9 h10 h11 h12 h13 h14 h15 h16 h17 h18 h19 h20 h21 h22 h23 h24 h25 h26 h27 h28 h29 h30
    simp only [us_rd, fs_rd]
    grind
  · have hh := h22
    clear h1 h2 h3 h4 h5 h6 h7 h8 h9 h10 h11 h12 h13 h14 h15 h16 h17 h18 h19 h20 h21 h22 h23 h24 h25 h26 h27 h28 h29 h30
    simp only [us_rd, fs_rd]
    grind
  · have hh := h23
    clear h1 h2 h3 h4 h5 h6 h7 h8 h9 h10 h11 h12 h13 h14 h15 h16 h17 h18 h19 h20 h21 h22 h23 h24 h25 h26 h27 h28 h29 h30
    simp only [us_rd, fs_rd]
    grind
  · have hh := h25
    clear h1 h2 h3 h4 h5 h6 h7 h8 h9 h10 h11 h12 h13 h14 h15 h16 h17 h18 h19 h20 h21 h22 h23 h24 h25 h26 h27 h28 h29 h30
    simp only [us_rd, fs_rd]
    grind
theorem up_18 {m : Bool} {b : Nat} {e d0 d : Dat} {P : Row} {i : Nat} {v : Int} (h : RL m b e d0 d P) (hi : i < 12) : RL m b e d0 (ups d (b + 18) i v) (fset P (160 + i) v) := by
  obtain ⟨h0, h1, h2, h3, h4, h5, h6, h7, h8, h9, h10, h11, h12, h13, h14, h15, h16, h17, h18, h19, h20, h21, h22, h23, h24, h25, h26, h27, h28, h29, h30⟩ := h
  refine ⟨h0, us_fr (by omega) h1, ue_o h2 (by omega) (by omega), ue_0 h3 (by omega) (by omega), ue_o h4 (by omega) (by omega), ue_o h5 (by omega) (by omega), ue_o h6 (by omega) (by omega), ue_o h7 (by omega) (by omega), ue_o h8 (by omega) (by omega), ue_o h9 (by omega) (by omega), ue_o h10 (by omega) (by omega), ue_o h11 (by omega) (by omega), ue_o h12 (by omega) (by omega), ue_o h13 (by omega) (by omega), ue_s h14, ue_o h15 (by omega) (by omega), ue_o h16 (by omega) (by omega), ue_o h17 (by omega) (by omega), ue_o h18 (by omega) (by omega), ue_o h19 (by omega) (by omega), ue_o h20 (by omega) (by omega), ?_, ?_, ?_, ue_o h24 (by omega) (by omega), ?_, ue_1 h26 (by omega) (by omega), ue_1 h27 (by omega) (by omega), fun q => ue_o (h28 q) (by omega) (by omega), fun q => ue_o (h29 q) (by omega) (by omega), fun q => ue_o (h30 q) (by omega) (by omega)⟩
  · have hh := h21
    clear h1 h2 h3 h4 h5 h6 h7 h8 h9 h10 h11 h12 h13 h14 h15 h16 h17 h18 h19 h20 h21 h22 h23 h24 h25 h26 h27 h28 h29 h30
    simp only [us_rd, fs_rd]
    grind
  · have hh := h22
    clear h1 h2 h3 h4 h5 h6 h7 h8 h9 h10 h11 h12 h13 h14 h15 h16 h17 h18 h19 h20 h21 h22 h23 h24 h25 h26 h27 h28 h29 h30
    simp only [us_rd, fs_rd]
    grind
  · have hh := h23
    clear h1 h2 h3 h4 h5 h6 h7 h8 h9 h10 h11 h12 h13 h14 h15 h16 h17 h18 h19 h20 h21 h22 h23 h24 h25 h26 h27 h28 h29 h30
    simp only [us_rd, fs_rd]
    grind
  · have hh := h25
    clear h1 h2 h3 h4 h5 h6 h7 h8 h9 h10 h11 h12 h13 h14 h15 h16 h17 h18 h19 h20 h21 h22 h23 h24 h25 h26 h27 h28 h29 h30
    simp only [us_rd, fs_rd]
    grind
theorem up_21 {m : Bool} {b : Nat} {e d0 d : Dat} {P : Row} {i : Nat} {v : Int} (h : RL m b e d0 d P) (hi : i < 4) : RL m b e d0 (ups d (b + 21) i v) (fset P (196 + i) v) := by
  obtain ⟨h0, h1, h2, h3, h4, h5, h6, h7, h8, h9, h10, h11, h12, h13, h14, h15, h16, h17, h18, h19, h20, h21, h22, h23, h24, h25, h26, h27, h28, h29, h30⟩ := h
  refine ⟨h0, us_fr (by omega) h1, ue_o h2 (by omega) (by omega), ue_0 h3 (by omega) (by omega), ue_o h4 (by omega) (by omega), ue_o h5 (by omega) (by omega), ue_o h6 (by omega) (by omega), ue_o h7 (by omega) (by omega), ue_o h8 (by omega) (by omega), ue_o h9 (by omega) (by omega), ue_o h10 (by omega) (by omega), ue_o h11 (by omega) (by omega), ue_o h12 (by omega) (by omega), ue_o h13 (by omega) (by omega), ue_o h14 (by omega) (by omega), ue_s h15, ue_o h16 (by omega) (by omega), ue_o h17 (by omega) (by omega), ue_o h18 (by omega) (by omega), ue_o h19 (by omega) (by omega), ue_o h20 (by omega) (by omega), ?_, ?_, ?_, ue_o h24 (by omega) (by omega), ?_, ue_1 h26 (by omega) (by omega), ue_1 h27 (by omega) (by omega), fun q => ue_o (h28 q) (by omega) (by omega), fun q => ue_o (h29 q) (by omega) (by omega), fun q => ue_o (h30 q) (by omega) (by omega)⟩
  · have hh := h21
    clear h1 h2 h3 h4 h5 h6 h7 h8 h9 h10 h11 h12 h13 h14 h15 h16 h17 h18 h19 h20 h21 h22 h23 h24 h25 h26 h27 h28 h29 h30
    simp only [us_rd, fs_rd]
    grind
  · have hh := h22
    clear h1 h2 h3 h4 h5 h6 h7 h8 h9 h10 h11 h12 h13 h14 h15 h16 h17 h18 h19 h20 h21 h22 h23 h24 h25 h26 h27 h28 h29 h30
    simp only [us_rd, fs_rd]
    grind
  · have hh := h23
    clear h1 h2 h3 h4 h5 h6 h7 h8 h9 h10 h11 h12 h13 h14 h15 h16 h17 h18 h19 h20 h21 h22 h23 h24 h25 h26 h27 h28 h29 h30
    simp only [us_rd, fs_rd]
    grind
  · have hh := h25
    clear h1 h2 h3 h4 h5 h6 h7 h8 h9 h10 h11 h12 h13 h14 h15 h16 h17 h18 h19 h20 h21 h22 h23 h24 h25 h26 h27 h28 h29 h30
    simp only [us_rd, fs_rd]
    grind
theorem up_22 {m : Bool} {b : Nat} {e d0 d : Dat} {P : Row} {i : Nat} {v : Int} (h : RL m b e d0 d P) (hi : i < 4) : RL m b e d0 (ups d (b + 22) i v) (fset P (200 + i) v) := by
  obtain ⟨h0, h1, h2, h3, h4, h5, h6, h7, h8, h9, h10, h11, h12, h13, h14, h15, h16, h17, h18, h19, h20, h21, h22, h23, h24, h25, h26, h27, h28, h29, h30⟩ := h
  refine ⟨h0, us_fr (by omega) h1, ue_o h2 (by omega) (by omega), ue_0 h3 (by omega) (by omega), ue_o h4 (by omega) (by omega), ue_o h5 (by omega) (by omega), ue_o h6 (by omega) (by omega), ue_o h7 (by omega) (by omega), ue_o h8 (by omega) (by omega), ue_o h9 (by omega) (by omega), ue_o h10 (by omega) (by omega), ue_o h11 (by omega) (by omega), ue_o h12 (by omega) (by omega), ue_o h13 (by omega) (by omega), ue_o h14 (by omega) (by omega), ue_o h15 (by omega) (by omega), ue_s h16, ue_o h17 (by omega) (by omega), ue_o h18 (by omega) (by omega), ue_o h19 (by omega) (by omega), ue_o h20 (by omega) (by omega), ?_, ?_, ?_, ue_o h24 (by omega) (by omega), ?_, ue_1 h26 (by omega) (by omega), ue_1 h27 (by omega) (by omega), fun q => ue_o (h28 q) (by omega) (by omega), fun q => ue_o (h29 q) (by omega) (by omega), fun q => ue_o (h30 q) (by omega) (by omega)⟩
  · have hh := h21
    clear h1 h2 h3 h4 h5 h6 h7 h8 h9 h10 h11 h12 h13 h14 h15 h16 h17 h18 h19 h20 h21 h22 h23 h24 h25 h26 h27 h28 h29 h30
    simp only [us_rd, fs_rd]
    grind
  · have hh := h22
    clear h1 h2 h3 h4 h5 h6 h7 h8 h9 h10 h11 h12 h13 h14 h15 h16 h17 h18 h19 h20 h21 h22 h23 h24 h25 h26 h27 h28 h29 h30
    simp only [us_rd, fs_rd]
    grind
  · have hh := h23
    clear h1 h2 h3 h4 h5 h6 h7 h8 h9 h10 h11 h12 h13 h14 h15 h16 h17 h18 h19 h20 h21 h22 h23 h24 h25 h26 h27 h28 h29 h30
    simp only [us_rd, fs_rd]
    grind
  · have hh := h25
    clear h1 h2 h3 h4 h5 h6 h7 h8 h9 h10 h11 h12 h13 h14 h15 h16 h17 h18 h19 h20 h21 h22 h23 h24 h25 h26 h27 h28 h29 h30
    simp only [us_rd, fs_rd]
    grind
theorem up_23 {m : Bool} {b : Nat} {e d0 d : Dat} {P : Row} {i : Nat} {v : Int} (h : RL m b e d0 d P) (hi : i < 4) : RL m b e d0 (ups d (b + 23) i v) (fset P (204 + i) v) := by
  obtain ⟨h0, h1, h2, h3, h4, h5, h6, h7, h8, h9, h10, h11, h12, h13, h14, h15, h16, h17, h18, h19, h20, h21, h22, h23, h24, h25, h26, h27, h28, h29, h30⟩ := h
  refine ⟨h0, us_fr (by omega) h1, ue_o h2 (by omega) (by omega), ue_0 h3 (by omega) (by omega), ue_o h4 (by omega) (by omega), ue_o h5 (by omega) (by omega), ue_o h6 (by omega) (by omega), ue_o h7 (by omega) (by omega), ue_o h8 (by omega) (by omega), ue_o h9 (by omega) (by omega), ue_o h10 (by omega) (by omega), ue_o h11 (by omega) (by omega), ue_o h12 (by omega) (by omega), ue_o h13 (by omega) (by omega), ue_o h14 (by omega) (by omega), ue_o h15 (by omega) (by omega), ue_o h16 (by omega) (by omega), ue_s h17, ue_o h18 (by omega) (by omega), ue_o h19 (by omega) (by omega), ue_o h20 (by omega) (by omega), ?_, ?_, ?_, ue_o h24 (by omega) (by omega), ?_, ue_1 h26 (by omega) (by omega), ue_1 h27 (by omega) (by omega), fun q => ue_o (h28 q) (by omega) (by omega), fun q => ue_o (h29 q) (by omega) (by omega), fun q => ue_o (h30 q) (by omega) (by omega)⟩
  · have hh := h21
    clear h1 h2 h3 h4 h5 h6 h7 h8 h9 h10 h11 h12 h13 h14 h15 h16 h17 h18 h19 h20 h21 h22 h23 h24 h25 h26 h27 h28 h29 h30
    simp only [us_rd, fs_rd]
    grind
  · have hh := h22
    clear h1 h2 h3 h4 h5 h6 h7 h8 h9 h10 h11 h12 h13 h14 h15 h16 h17 h18 h19 h20 h21 h22 h23 h24 h25 h26 h27 h28 h29 h30
    simp only [us_rd, fs_rd]
    grind
  · have hh := h23
    clear h1 h2 h3 h4 h5 h6 h7 h8 h9 h10 h11 h12 h13 h14 h15 h16 h17 h18 h19 h20 h21 h22 h23 h24 h25 h26 h27 h28 h29 h30
    simp only [us_rd, fs_rd]
    grind
  · have hh := h25
    clear h1 h2 h3 h4 h5 h6 h7 h8 h9 h10 h11 h12 h13 h14 h15 h16 h17 h18 h19 h20 h21 h22 h23 h24 h25 h26 h27 h28 h29 h30
    simp only [us_rd, fs_rd]
    grind
theorem up_24 {m : Bool} {b : Nat} {e d0 d : Dat} {P : Row} {i : Nat} {v : Int} (h : RL m b e d0 d P) (hi : i < 20) : RL m b e d0 (ups d (b + 24) i v) (fset P (84 + i) v) := by
  obtain ⟨h0, h1, h2, h3, h4, h5, h6, h7, h8, h9, h10, h11, h12, h13, h14, h15, h16, h17, h18, h19, h20, h21, h22, h23, h24, h25, h26, h27, h28, h29, h30⟩ := h
  refine ⟨h0, us_fr (by omega) h1, ue_o h2 (by omega) (by omega), ue_0 h3 (by omega) (by omega), ue_o h4 (by omega) (by omega), ue_o h5 (by omega) (by omega), ue_o h6 (by omega) (by omega), ue_o h7 (by omega) (by omega), ue_o h8 (by omega) (by omega), ue_o h9 (by omega) (by omega), ue_o h10 (by omega) (by omega), ue_o h11 (by omega) (by omega), ue_o h12 (by omega) (by omega), ue_o h13 (by omega) (by omega), ue_o h14 (by omega) (by omega), ue_o h15 (by omega) (by omega), ue_o h16 (by omega) (by omega), ue_o h17 (by omega) (by omega), ue_s h18, ue_o h19 (by omega) (by omega), ue_o h20 (by omega) (by omega), ?_, ?_, ?_, ue_o h24 (by omega) (by omega), ?_, ue_1 h26 (by omega) (by omega), ue_1 h27 (by omega) (by omega), fun q => ue_o (h28 q) (by omega) (by omega), fun q => ue_o (h29 q) (by omega) (by omega), fun q => ue_o (h30 q) (by omega) (by omega)⟩
  · have hh := h21
    clear h1 h2 h3 h4 h5 h6 h7 h8 h9 h10 h11 h12 h13 h14 h15 h16 h17 h18 h19 h20 h21 h22 h23 h24 h25 h26 h27 h28 h29 h30
    simp only [us_rd, fs_rd]
    grind
  · have hh := h22
    clear h1 h2 h3 h4 h5 h6 h7 h8 h9 h10 h11 h12 h13 h14 h15 h16 h17 h18 h19 h20 h21 h22 h23 h24 h25 h26 h27 h28 h29 h30
    simp only [us_rd, fs_rd]
    grind
  · have hh := h23
    clear h1 h2 h3 h4 h5 h6 h7 h8 h9 h10 h11 h12 h13 h14 h15 h16 h17 h18 h19 h20 h21 h22 h23 h24 h25 h26 h27 h28 h29 h30
    simp only [us_rd, fs_rd]
    grind
  · have hh := h25
    clear h1 h2 h3 h4 h5 h6 h7 h8 h9 h10 h11 h12 h13 h14 h15 h16 h17 h18 h19 h20 h21 h22 h23 h24 h25 h26 h27 h28 h29 h30
    simp only [us_rd, fs_rd]
    grind
theorem up_25 {m : Bool} {b : Nat} {e d0 d : Dat} {P : Row} {i : Nat} {v : Int} (h : RL m b e d0 d P) (hi : i < 16) : RL m b e d0 (ups d (b + 25) i v) (fset P (208 + i) v) := by
  obtain ⟨h0, h1, h2, h3, h4, h5, h6, h7, h8, h9, h10, h11, h12, h13, h14, h15, h16, h17, h18, h19, h20, h21, h22, h23, h24, h25, h26, h27, h28, h29, h30⟩ := h
  refine ⟨h0, us_fr (by omega) h1, ue_o h2 (by omega) (by omega), ue_0 h3 (by omega) (by omega), ue_o h4 (by omega) (by omega), ue_o h5 (by omega) (by omega), ue_o h6 (by omega) (by omega), ue_o h7 (by omega) (by omega), ue_o h8 (by omega) (by omega), ue_o h9 (by omega) (by omega), ue_o h10 (by omega) (by omega), ue_o h11 (by omega) (by omega), ue_o h12 (by omega) (by omega), ue_o h13 (by omega) (by omega), ue_o h14 (by omega) (by omega), ue_o h15 (by omega) (by omega), ue_o h16 (by omega) (by omega), ue_o h17 (by omega) (by omega), ue_o h18 (by omega) (by omega), ue_s h19, ue_o h20 (by omega) (by omega), ?_, ?_, ?_, ue_o h24 (by omega) (by omega), ?_, ue_1 h26 (by omega) (by omega), ue_1 h27 (by omega) (by omega), fun q => ue_o (h28 q) (by omega) (by omega), fun q => ue_o (h29 q) (by omega) (by omega), fun q => ue_o (h30 q) (by omega) (by omega)⟩
  · have hh := h21
    clear h1 h2 h3 h4 h5 h6 h7 h8 h9 h10 h11 h12 h13 h14 h15 h16 h17 h18 h19 h20 h21 h22 h23 h24 h25 h26 h27 h28 h29 h30
    simp only [us_rd, fs_rd]
    grind
  · have hh := h22
    clear h1 h2 h3 h4 h5 h6 h7 h8 h9 h10 h11 h12 h13 h14 h15 h16 h17 h18 h19 h20 h21 h22 h23 h24 h25 h26 h27 h28 h29 h30
    simp only [us_rd, fs_rd]
    grind
  · have hh := h23
    clear h1 h2 h3 h4 h5 h6 h7 h8 h9 h10 h11 h12 h13 h14 h15 h16 h17 h18 h19 h20 h21 h22 h23 h24 h25 h26 h27 h28 h29 h30
    simp only [us_rd, fs_rd]
    grind
  · have hh := h25
    clear h1 h2 h3 h4 h5 h6 h7 h8 h9 h10 h11 h12 h13 h14 h15 h16 h17 h18 h19 h20 h21 h22 h23 h24 h25 h26 h27 h28 h29 h30
    simp only [us_rd, fs_rd]
    grind
theorem up_2 {m : Bool} {b : Nat} {e d0 d : Dat} {P : Row} {i : Nat} {v : Int} (h : RL m b e d0 d P) (hi : i < (e 241 1).toNat) : RL m b e d0 (ups d (b + 2) i v) (fset P (70 + i) v) := by
  obtain ⟨h0, h1, h2, h3, h4, h5, h6, h7, h8, h9, h10, h11, h12, h13, h14, h15, h16, h17, h18, h19, h20, h21, h22, h23, h24, h25, h26, h27, h28, h29, h30⟩ := h
  refine ⟨h0, us_fr (by omega) h1, ue_o h2 (by omega) (by omega), ue_0 h3 (by omega) (by omega), ue_o h4 (by omega) (by omega), ue_o h5 (by omega) (by omega), ue_o h6 (by omega) (by omega), ue_o h7 (by omega) (by omega), ue_o h8 (by omega) (by omega), ue_o h9 (by omega) (by omega), ue_o h10 (by omega) (by omega), ue_o h11 (by omega) (by omega), ue_o h12 (by omega) (by omega), ue_o h13 (by omega) (by omega), ue_o h14 (by omega) (by omega), ue_o h15 (by omega) (by omega), ue_o h16 (by omega) (by omega), ue_o h17 (by omega) (by omega), ue_o h18 (by omega) (by omega), ue_o h19 (by omega) (by omega), ue_s h20, ?_, ?_, ?_, ue_o h24 (by omega) (by omega), ?_, ue_1 h26 (by omega) (by omega), ue_1 h27 (by omega) (by omega), fun q => ue_o (h28 q) (by omega) (by omega), fun q => ue_o (h29 q) (by omega) (by omega), fun q => ue_o (h30 q) (by omega) (by omega)⟩
  · have hh := h21
    clear h1 h2 h3 h4 h5 h6 h7 h8 h9 h10 h11 h12 h13 h14 h15 h16 h17 h18 h19 h20 h21 h22 h23 h24 h25 h26 h27 h28 h29 h30
    simp only [us_rd, fs_rd]
    grind
  · have hh := h22
    clear h1 h2 h3 h4 h5 h6 h7 h8 h9 h10 h11 h12 h13 h14 h15 h16 h17 h18 h19 h20 h21 h22 h23 h24 h25 h26 h27 h28 h29 h30
    simp only [us_rd, fs_rd]
    grind
  · have hh := h23
    clear h1 h2 h3 h4 h5 h6 h7 h8 h9 h10 h11 h12 h13 h14 h15 h16 h17 h18 h19 h20 h21 h22 h23 h24 h25 h26 h27 h28 h29 h30
    simp only [us_rd, fs_rd]
    grind
  · have hh := h25
    clear h1 h2 h3 h4 h5 h6 h7 h8 h9 h10 h11 h12 h13 h14 h15 h16 h17 h18 h19 h20 h21 h22 h23 h24 h25 h26 h27 h28 h29 h30
    simp only [us_rd, fs_rd]
    grind
theorem up_m {m : Bool} {b : Nat} {e d0 d : Dat} {P : Row} {i : Nat} {v : Int} (h : RL m b e d0 d P) : RL m b e d0 (ups d b 14 v) (fset P (285) v) := by
  obtain ⟨h0, h1, h2, h3, h4, h5, h6, h7, h8, h9, h10, h11, h12, h13, h14, h15, h16, h17, h18, h19, h20, h21, h22, h23, h24, h25, h26, h27, h28, h29, h30⟩ := h
  refine ⟨h0, us_fr (by omega) h1, ue_o h2 (by omega) (by omega), ue_0 h3 (by omega) (by omega), ue_o h4 (by omega) (by omega), ue_o h5 (by omega) (by omega), ue_o h6 (by omega) (by omega), ue_o h7 (by omega) (by omega), ue_o h8 (by omega) (by omega), ue_o h9 (by omega) (by omega), ue_o h10 (by omega) (by omega), ue_o h11 (by omega) (by omega), ue_o h12 (by omega) (by omega), ue_o h13 (by omega) (by omega), ue_o h14 (by omega) (by omega), ue_o h15 (by omega) (by omega), ue_o h16 (by omega) (by omega), ue_o h17 (by omega) (by omega), ue_o h18 (by omega) (by omega), ue_o h19 (by omega) (by omega), ue_o h20 (by omega) (by omega), ?_, ?_, ?_, ue_o h24 (by omega) (by omega), ?_, ?_, ?_, fun q => ue_o (h28 q) (by omega) (by omega), fun q => ue_o (h29 q) (by omega) (by omega), fun q => ue_o (h30 q) (by omega) (by omega)⟩
  · have hh := h21
    clear h1 h2 h3 h4 h5 h6 h7 h8 h9 h10 h11 h12 h13 h14 h15 h16 h17 h18 h19 h20 h21 h22 h23 h24 h25 h26 h27 h28 h29 h30
    simp only [us_rd, fs_rd]
    grind
  · have hh := h22
    clear h1 h2 h3 h4 h5 h6 h7 h8 h9 h10 h11 h12 h13 h14 h15 h16 h17 h18 h19 h20 h21 h22 h23 h24 h25 h26 h27 h28 h29 h30
    simp only [us_rd, fs_rd]
    grind
  · have hh := h23
    clear h1 h2 h3 h4 h5 h6 h7 h8 h9 h10 h11 h12 h13 h14 h15 h16 h17 h18 h19 h20 h21 h22 h23 h24 h25 h26 h27 h28 h29 h30
    simp only [us_rd, fs_rd]
    grind
  · have hh := h25
    clear h1 h2 h3 h4 h5 h6 h7 h8 h9 h10 h11 h12 h13 h14 h15 h16 h17 h18 h19 h20 h21 h22 h23 h24 h25 h26 h27 h28 h29 h30
    simp only [us_rd, fs_rd]
    grind
  · have hh := h26
    clear h1 h2 h3 h4 h5 h6 h7 h8 h9 h10 h11 h12 h13 h14 h15 h16 h17 h18 h19 h20 h21 h22 h23 h24 h25 h26 h27 h28 h29 h30
    simp only [us_rd, fs_rd]
    grind
  · have hh := h27
    clear h1 h2 h3 h4 h5 h6 h7 h8 h9 h10 h11 h12 h13 h14 h15 h16 h17 h18 h19 h20 h21 h22 h23 h24 h25 h26 h27 h28 h29 h30
    simp only [us_rd, fs_rd]
    grind
theorem up_f {m : Bool} {b : Nat} {e d0 d : Dat} {P : Row} {i : Nat} {v : Int} (h : RL m b e d0 d P) : RL m b e d0 (ups d b 15 v) (fset P (224) v) := by
  obtain ⟨h0, h1, h2, h3, h4, h5, h6, h7, h8, h9, h10, h11, h12, h13, h14, h15, h16, h17, h18, h19, h20, h21, h22, h23, h24, h25, h26, h27, h28, h29, h30⟩ := h
  refine ⟨h0, us_fr (by omega) h1, ue_o h2 (by omega) (by omega), ue_0 h3 (by omega) (by omega), ue_o h4 (by omega) (by omega), ue_o h5 (by omega) (by omega), ue_o h6 (by omega) (by omega), ue_o h7 (by omega) (by omega), ue_o h8 (by omega) (by omega), ue_o h9 (by omega) (by omega), ue_o h10 (by omega) (by omega), ue_o h11 (by omega) (by omega), ue_o h12 (by omega) (by omega), ue_o h13 (by omega) (by omega), ue_o h14 (by omega) (by omega), ue_o h15 (by omega) (by omega), ue_o h16 (by omega) (by omega), ue_o h17 (by omega) (by omega), ue_o h18 (by omega) (by omega), ue_o h19 (by omega) (by omega), ue_o h20 (by omega) (by omega), ?_, ?_, ?_, ue_o h24 (by omega) (by omega), ?_, ?_, ?_, fun q => ue_o (h28 q) (by omega) (by omega), fun q => ue_o (h29 q) (by omega) (by omega), fun q => ue_o (h30 q) (by omega) (by omega)⟩
  · have hh := h21
    clear h1 h2 h3 h4 h5 h6 h7 h8 h9 h10 h11 h12 h13 h14 h15 h16 h17 h18 h19 h20 h21 h22 h23 h24 h25 h26 h27 h28 h29 h30
    simp only [us_rd, fs_rd]
    grind
  · have hh := h22
    clear h1 h2 h3 h4 h5 h6 h7 h8 h9 h10 h11 h12 h13 h14 h15 h16 h17 h18 h19 h20 h21 h22 h23 h24 h25 h26 h27 h28 h29 h30
    simp only [us_rd, fs_rd]
    grind
  · have hh := h23
    clear h1 h2 h3 h4 h5 h6 h7 h8 h9 h10 h11 h12 h13 h14 h15 h16 h17 h18 h19 h20 h21 h22 h23 h24 h25 h26 h27 h28 h29 h30
    simp only [us_rd, fs_rd]
    grind
  · have hh := h25
    clear h1 h2 h3 h4 h5 h6 h7 h8 h9 h10 h11 h12 h13 h14 h15 h16 h17 h18 h19 h20 h21 h22 h23 h24 h25 h26 h27 h28 h29 h30
    simp only [us_rd, fs_rd]
    grind
  · have hh := h26
    clear h1 h2 h3 h4 h5 h6 h7 h8 h9 h10 h11 h12 h13 h14 h15 h16 h17 h18 h19 h20 h21 h22 h23 h24 h25 h26 h27 h28 h29 h30
    simp only [us_rd, fs_rd]
    grind
  · have hh := h27
    clear h1 h2 h3 h4 h5 h6 h7 h8 h9 h10 h11 h12 h13 h14 h15 h16 h17 h18 h19 h20 h21 h22 h23 h24 h25 h26 h27 h28 h29 h30
    simp only [us_rd, fs_rd]
    grind
theorem up_26 {m : Bool} {b : Nat} {e d0 d : Dat} {P : Row} {i : Nat} {v : Int} (h : RL m b e d0 d P) (hi : i < 20) : RL m b e d0 (ups d (b + 26) i v) (fset P (225 + i) v) := by
  obtain ⟨h0, h1, h2, h3, h4, h5, h6, h7, h8, h9, h10, h11, h12, h13, h14, h15, h16, h17, h18, h19, h20, h21, h22, h23, h24, h25, h26, h27, h28, h29, h30⟩ := h
  refine ⟨h0, us_fr (by omega) h1, ue_o h2 (by omega) (by omega), ue_0 h3 (by omega) (by omega), ue_o h4 (by omega) (by omega), ue_o h5 (by omega) (by omega), ue_o h6 (by omega) (by omega), ue_o h7 (by omega) (by omega), ue_o h8 (by omega) (by omega), ue_o h9 (by omega) (by omega), ue_o h10 (by omega) (by omega), ue_o h11 (by omega) (by omega), ue_o h12 (by omega) (by omega), ue_o h13 (by omega) (by omega), ue_o h14 (by omega) (by omega), ue_o h15 (by omega) (by omega), ue_o h16 (by omega) (by omega), ue_o h17 (by omega) (by omega), ue_o h18 (by omega) (by omega), ue_o h19 (by omega) (by omega), ue_o h20 (by omega) (by omega), ?_, ?_, ?_, ue_o h24 (by omega) (by omega), ?_, ue_1 h26 (by omega) (by omega), ue_1 h27 (by omega) (by omega), fun q => ue_s (h28 q), fun q => ue_o (h29 q) (by omega) (by omega), fun q => ue_o (h30 q) (by omega) (by omega)⟩
  · have hh := h21
    clear h1 h2 h3 h4 h5 h6 h7 h8 h9 h10 h11 h12 h13 h14 h15 h16 h17 h18 h19 h20 h21 h22 h23 h24 h25 h26 h27 h28 h29 h30
    simp only [us_rd, fs_rd]
    grind
  · have hh := h22
    clear h1 h2 h3 h4 h5 h6 h7 h8 h9 h10 h11 h12 h13 h14 h15 h16 h17 h18 h19 h20 h21 h22 h23 h24 h25 h26 h27 h28 h29 h30
    simp only [us_rd, fs_rd]
    grind
  · have hh := h23
    clear h1 h2 h3 h4 h5 h6 h7 h8 h9 h10 h11 h12 h13 h14 h15 h16 h17 h18 h19 h20 h21 h22 h23 h24 h25 h26 h27 h28 h29 h30
    simp only [us_rd, fs_rd]
    grind
  · have hh := h25
    clear h1 h2 h3 h4 h5 h6 h7 h8 h9 h10 h11 h12 h13 h14 h15 h16 h17 h18 h19 h20 h21 h22 h23 h24 h25 h26 h27 h28 h29 h30
    simp only [us_rd, fs_rd]
    grind
theorem up_27 {m : Bool} {b : Nat} {e d0 d : Dat} {P : Row} {i : Nat} {v : Int} (h : RL m b e d0 d P) (hi : i < 20) : RL m b e d0 (ups d (b + 27) i v) (fset P (245 + i) v) := by
  obtain ⟨h0, h1, h2, h3, h4, h5, h6, h7, h8, h9, h10, h11, h12, h13, h14, h15, h16, h17, h18, h19, h20, h21, h22, h23, h24, h25, h26, h27, h28, h29, h30⟩ := h
  refine ⟨h0, us_fr (by omega) h1, ue_o h2 (by omega) (by omega), ue_0 h3 (by omega) (by omega), ue_o h4 (by omega) (by omega), ue_o h5 (by omega) (by omega), ue_o h6 (by omega) (by omega), ue_o h7 (by omega) (by omega), ue_o h8 (by omega) (by omega), ue_o h9 (by omega) (by omega), ue_o h10 (by omega) (by omega), ue_o h11 (by omega) (by omega), ue_o h12 (by omega) (by omega), ue_o h13 (by omega) (by omega), ue_o h14 (by omega) (by omega), ue_o h15 (by omega) (by omega), ue_o h16 (by omega) (by omega), ue_o h17 (by omega) (by omega), ue_o h18 (by omega) (by omega), ue_o h19 (by omega) (by omega), ue_o h20 (by omega) (by omega), ?_, ?_, ?_, ue_o h24 (by omega) (by omega), ?_, ue_1 h26 (by omega) (by omega), ue_1 h27 (by omega) (by omega), fun q => ue_o (h28 q) (by omega) (by omega), fun q => ue_s (h29 q), fun q => ue_o (h30 q) (by omega) (by omega)⟩
  · have hh := h21
    clear h1 h2 h3 h4 h5 h6 h7 h8 h9 h10 h11 h12 h13 h14 h15 h16 h17 h18 h19 h20 h21 h22 h23 h24 h25 h26 h27 h28 h29 h30
    simp only [us_rd, fs_rd]
    grind
  · have hh := h22
    clear h1 h2 h3 h4 h5 h6 h7 h8 h9 h10 h11 h12 h13 h14 h15 h16 h17 h18 h19 h20 h21 h22 h23 h24 h25 h26 h27 h28 h29 h30
    simp only [us_rd, fs_rd]
    grind
  · have hh := h23
    clear h1 h2 h3 h4 h5 h6 h7 h8 h9 h10 h11 h12 h13 h14 h15 h16 h17 h18 h19 h20 h21 h22 h23 h24 h25 h26 h27 h28 h29 h30
    simp only [us_rd, fs_rd]
    grind
  · have hh := h25
    clear h1 h2 h3 h4 h5 h6 h7 h8 h9 h10 h11 h12 h13 h14 h15 h16 h17 h18 h19 h20 h21 h22 h23 h24 h25 h26 h27 h28 h29 h30
    simp only [us_rd, fs_rd]
    grind
theorem up_28 {m : Bool} {b : Nat} {e d0 d : Dat} {P : Row} {i : Nat} {v : Int} (h : RL m b e d0 d P) (hi : i < 20) : RL m b e d0 (ups d (b + 28) i v) (fset P (265 + i) v) := by
  obtain ⟨h0, h1, h2, h3, h4, h5, h6, h7, h8, h9, h10, h11, h12, h13, h14, h15, h16, h17, h18, h19, h20, h21, h22, h23, h24, h25, h26, h27, h28, h29, h30⟩ := h
  refine ⟨h0, us_fr (by omega) h1, ue_o h2 (by omega) (by omega), ue_0 h3 (by omega) (by omega), ue_o h4 (by omega) (by omega), ue_o h5 (by omega) (by omega), ue_o h6 (by omega) (by omega), ue_o h7 (by omega) (by omega), ue_o h8 (by omega) (by omega), ue_o h9 (by omega) (by omega), ue_o h10 (by omega) (by omega), ue_o h11 (by omega) (by omega), ue_o h12 (by omega) (by omega), ue_o h13 (by omega) (by omega), ue_o h14 (by omega) (by omega), ue_o h15 (by omega) (by omega), ue_o h16 (by omega) (by omega), ue_o h17 (by omega) (by omega), ue_o h18 (by omega) (by omega), ue_o h19 (by omega) (by omega), ue_o h20 (by omega) (by omega), ?_, ?_, ?_, ue_o h24 (by omega) (by omega), ?_, ue_1 h26 (by omega) (by omega), ue_1 h27 (by omega) (by omega), fun q => ue_o (h28 q) (by omega) (by omega), fun q => ue_o (h29 q) (by omega) (by omega), fun q => ue_s (h30 q)⟩
  · have hh := h21
    clear h1 h2 h3 h4 h5 h6 h7 h8 h9 h10 h11 h12 h13 h14 h15 h16 h17 h18 h19 h20 h21 h22 h23 h24 h25 h26 h27 h28 h29 h30
    simp only [us_rd, fs_rd]
    grind
  · have hh := h22
    clear h1 h2 h3 h4 h5 h6 h7 h8 h9 h10 h11 h12 h13 h14 h15 h16 h17 h18 h19 h20 h21 h22 h23 h24 h25 h26 h27 h28 h29 h30
    simp only [us_rd, fs_rd]
    grind
  · have hh := h23
    clear h1 h2 h3 h4 h5 h6 h7 h8 h9 h10 h11 h12 h13 h14 h15 h16 h17 h18 h19 h20 h21 h22 h23 h24 h25 h26 h27 h28 h29 h30
    simp only [us_rd, fs_rd]
    grind
  · have hh := h25
    clear h1 h2 h3 h4 h5 h6 h7 h8 h9 h10 h11 h12 h13 h14 h15 h16 h17 h18 h19 h20 h21 h22 h23 h24 h25 h26 h27 h28 h29 h30
    simp only [us_rd, fs_rd]
    grind
