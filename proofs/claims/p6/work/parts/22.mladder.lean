-- LadderWordsModel.ladder(III)I
def sp_M_ladder : mx_Sp := fun As F P => ∃ (th sz sp : Int32) (wy : Int64) (kp sd : Int32) (n : Nat) (N : Nat → Nat) (ch : Nat → Nat → Int32) (lt ml : Nat → Int32) (la fa : Nat → Int32) (ca : Nat → Int64) (x y z : Int32), As = [mx_r 40, mx_i x, mx_i y, mx_i z] ∧ F 42 = some (mx_ia 360 lt) ∧ F 43 = some (mx_ia 60 ml) ∧ F 40 = some (e_M th sz (nI n) sp wy kp sd) ∧ F 44 = some (mx_ia 60 la) ∧ F 45 = some (mx_ia 60 fa) ∧ F 46 = some (mx_la 60 ca) ∧ mst n N ch lt ml ∧ ((¬ ∃ a t kd, a < n ∧ t < n ∧ kd ≤ 1 ∧ x = nI a ∧ y = nI t ∧ z = nI kd) → P (some (mx_i (-1))) (mx_put F 40 (e_M (nI 0) sz (nI n) (-1) wy kp sd))) ∧ ∀ a t kd, a < n → t < n → kd ≤ 1 → x = nI a → y = nI t → z = nI kd → ((∀ d, de n (stepP N ch kd) t d a = none) → ∀ fa' ca', P (some (mx_i (-1))) (mx_put (mx_put (mx_put F 40 (e_M (nI 0) sz (nI n) (-1) wy kp sd)) 45 (mx_ia 60 fa')) 46 (mx_la 60 ca'))) ∧ (∀ D, de n (stepP N ch kd) t D a = some D → ∀ la' fa' ca' wy', (∀ k, k ≤ D → la' k = nI (lad n (stepP N ch kd) t a D k)) → P (some (mx_i (nI D))) (mx_put (mx_put (mx_put (mx_put F 40 (e_M (nI 0) sz (nI n) (nI D) wy' kp sd)) 44 (mx_ia 60 la')) 45 (mx_ia 60 fa')) 46 (mx_la 60 ca')))
theorem d_M_ladder_0 : decode c_M_ladder 0 = .ok (.aload_n 0, 1) := by decide +kernel
theorem d_M_ladder_1 : decode c_M_ladder 1 = .ok (.iconst 0, 1) := by decide +kernel
theorem d_M_ladder_2 : decode c_M_ladder 2 = .ok (.putfield 48, 3) := by decide +kernel
theorem d_M_ladder_5 : decode c_M_ladder 5 = .ok (.aload_n 0, 1) := by decide +kernel
theorem d_M_ladder_6 : decode c_M_ladder 6 = .ok (.iconst (-1), 1) := by decide +kernel
theorem d_M_ladder_7 : decode c_M_ladder 7 = .ok (.putfield 19, 3) := by decide +kernel
theorem d_M_ladder_10 : decode c_M_ladder 10 = .ok (.aload_n 0, 1) := by decide +kernel
theorem d_M_ladder_11 : decode c_M_ladder 11 = .ok (.iload_n 1, 1) := by decide +kernel
theorem d_M_ladder_12 : decode c_M_ladder 12 = .ok (.invokevirtual 75, 3) := by decide +kernel
theorem d_M_ladder_15 : decode c_M_ladder 15 = .ok (.ifCond .eq 20, 3) := by decide +kernel
theorem d_M_ladder_18 : decode c_M_ladder 18 = .ok (.aload_n 0, 1) := by decide +kernel
theorem d_M_ladder_19 : decode c_M_ladder 19 = .ok (.iload_n 2, 1) := by decide +kernel
theorem d_M_ladder_20 : decode c_M_ladder 20 = .ok (.invokevirtual 75, 3) := by decide +kernel
theorem d_M_ladder_23 : decode c_M_ladder 23 = .ok (.ifCond .eq 12, 3) := by decide +kernel
theorem d_M_ladder_26 : decode c_M_ladder 26 = .ok (.iload_n 3, 1) := by decide +kernel
theorem d_M_ladder_27 : decode c_M_ladder 27 = .ok (.ifCond .eq 10, 3) := by decide +kernel
theorem d_M_ladder_30 : decode c_M_ladder 30 = .ok (.iload_n 3, 1) := by decide +kernel
theorem d_M_ladder_31 : decode c_M_ladder 31 = .ok (.iconst 1, 1) := by decide +kernel
theorem d_M_ladder_32 : decode c_M_ladder 32 = .ok (.if_icmp .eq 5, 3) := by decide +kernel
theorem d_M_ladder_35 : decode c_M_ladder 35 = .ok (.iconst (-1), 1) := by decide +kernel
theorem d_M_ladder_36 : decode c_M_ladder 36 = .ok (.ireturn, 1) := by decide +kernel
theorem d_M_ladder_37 : decode c_M_ladder 37 = .ok (.iconst 0, 1) := by decide +kernel
theorem d_M_ladder_38 : decode c_M_ladder 38 = .ok (.istore 4, 2) := by decide +kernel
theorem d_M_ladder_40 : decode c_M_ladder 40 = .ok (.iload 4, 2) := by decide +kernel
theorem d_M_ladder_42 : decode c_M_ladder 42 = .ok (.aload_n 0, 1) := by decide +kernel
theorem d_M_ladder_43 : decode c_M_ladder 43 = .ok (.getfield 51, 3) := by decide +kernel
theorem d_M_ladder_46 : decode c_M_ladder 46 = .ok (.if_icmp .ge 45, 3) := by decide +kernel
theorem d_M_ladder_49 : decode c_M_ladder 49 = .ok (.aload_n 0, 1) := by decide +kernel
theorem d_M_ladder_50 : decode c_M_ladder 50 = .ok (.getfield 26, 3) := by decide +kernel
theorem d_M_ladder_53 : decode c_M_ladder 53 = .ok (.iload 4, 2) := by decide +kernel
theorem d_M_ladder_55 : decode c_M_ladder 55 = .ok (.iload 4, 2) := by decide +kernel
theorem d_M_ladder_57 : decode c_M_ladder 57 = .ok (.iload_n 2, 1) := by decide +kernel
theorem d_M_ladder_58 : decode c_M_ladder 58 = .ok (.if_icmp .ne 7, 3) := by decide +kernel
theorem d_M_ladder_61 : decode c_M_ladder 61 = .ok (.iconst 0, 1) := by decide +kernel
theorem d_M_ladder_62 : decode c_M_ladder 62 = .ok (.goto 4, 3) := by decide +kernel
theorem d_M_ladder_65 : decode c_M_ladder 65 = .ok (.iconst (-1), 1) := by decide +kernel
theorem d_M_ladder_66 : decode c_M_ladder 66 = .ok (.iastore, 1) := by decide +kernel
theorem d_M_ladder_67 : decode c_M_ladder 67 = .ok (.aload_n 0, 1) := by decide +kernel
theorem d_M_ladder_68 : decode c_M_ladder 68 = .ok (.getfield 29, 3) := by decide +kernel
theorem d_M_ladder_71 : decode c_M_ladder 71 = .ok (.iload 4, 2) := by decide +kernel
theorem d_M_ladder_73 : decode c_M_ladder 73 = .ok (.iload 4, 2) := by decide +kernel
theorem d_M_ladder_75 : decode c_M_ladder 75 = .ok (.iload_n 2, 1) := by decide +kernel
theorem d_M_ladder_76 : decode c_M_ladder 76 = .ok (.if_icmp .ne 7, 3) := by decide +kernel
theorem d_M_ladder_79 : decode c_M_ladder 79 = .ok (.lconst 1, 1) := by decide +kernel
theorem d_M_ladder_80 : decode c_M_ladder 80 = .ok (.goto 4, 3) := by decide +kernel
theorem d_M_ladder_83 : decode c_M_ladder 83 = .ok (.lconst 0, 1) := by decide +kernel
theorem d_M_ladder_84 : decode c_M_ladder 84 = .ok (.lastore, 1) := by decide +kernel
theorem d_M_ladder_85 : decode c_M_ladder 85 = .ok (.iinc 4 1, 3) := by decide +kernel
theorem d_M_ladder_88 : decode c_M_ladder 88 = .ok (.goto (-48), 3) := by decide +kernel
theorem d_M_ladder_91 : decode c_M_ladder 91 = .ok (.iconst 1, 1) := by decide +kernel
theorem d_M_ladder_92 : decode c_M_ladder 92 = .ok (.istore 4, 2) := by decide +kernel
theorem d_M_ladder_94 : decode c_M_ladder 94 = .ok (.iconst 0, 1) := by decide +kernel
theorem d_M_ladder_95 : decode c_M_ladder 95 = .ok (.istore 5, 2) := by decide +kernel
theorem d_M_ladder_97 : decode c_M_ladder 97 = .ok (.iload 4, 2) := by decide +kernel
theorem d_M_ladder_99 : decode c_M_ladder 99 = .ok (.ifCond .eq 133, 3) := by decide +kernel
theorem d_M_ladder_102 : decode c_M_ladder 102 = .ok (.iconst 0, 1) := by decide +kernel
theorem d_M_ladder_103 : decode c_M_ladder 103 = .ok (.istore 4, 2) := by decide +kernel
theorem d_M_ladder_105 : decode c_M_ladder 105 = .ok (.iconst 0, 1) := by decide +kernel
theorem d_M_ladder_106 : decode c_M_ladder 106 = .ok (.istore 6, 2) := by decide +kernel
theorem d_M_ladder_108 : decode c_M_ladder 108 = .ok (.iload 6, 2) := by decide +kernel
theorem d_M_ladder_110 : decode c_M_ladder 110 = .ok (.aload_n 0, 1) := by decide +kernel
theorem d_M_ladder_111 : decode c_M_ladder 111 = .ok (.getfield 51, 3) := by decide +kernel
theorem d_M_ladder_114 : decode c_M_ladder 114 = .ok (.if_icmp .ge 112, 3) := by decide +kernel
theorem d_M_ladder_117 : decode c_M_ladder 117 = .ok (.aload_n 0, 1) := by decide +kernel
theorem d_M_ladder_118 : decode c_M_ladder 118 = .ok (.getfield 26, 3) := by decide +kernel
theorem d_M_ladder_121 : decode c_M_ladder 121 = .ok (.iload 6, 2) := by decide +kernel
theorem d_M_ladder_123 : decode c_M_ladder 123 = .ok (.iaload, 1) := by decide +kernel
theorem d_M_ladder_124 : decode c_M_ladder 124 = .ok (.iload 5, 2) := by decide +kernel
theorem d_M_ladder_126 : decode c_M_ladder 126 = .ok (.if_icmp .eq 6, 3) := by decide +kernel
theorem d_M_ladder_129 : decode c_M_ladder 129 = .ok (.goto 91, 3) := by decide +kernel
theorem d_M_ladder_132 : decode c_M_ladder 132 = .ok (.iconst 0, 1) := by decide +kernel
theorem d_M_ladder_133 : decode c_M_ladder 133 = .ok (.istore 7, 2) := by decide +kernel
theorem d_M_ladder_135 : decode c_M_ladder 135 = .ok (.iload 7, 2) := by decide +kernel
theorem d_M_ladder_137 : decode c_M_ladder 137 = .ok (.aload_n 0, 1) := by decide +kernel
theorem d_M_ladder_138 : decode c_M_ladder 138 = .ok (.getfield 51, 3) := by decide +kernel
theorem d_M_ladder_141 : decode c_M_ladder 141 = .ok (.if_icmp .ge 79, 3) := by decide +kernel
theorem d_M_ladder_144 : decode c_M_ladder 144 = .ok (.aload_n 0, 1) := by decide +kernel
theorem d_M_ladder_145 : decode c_M_ladder 145 = .ok (.getfield 26, 3) := by decide +kernel
theorem d_M_ladder_148 : decode c_M_ladder 148 = .ok (.iload 7, 2) := by decide +kernel
theorem d_M_ladder_150 : decode c_M_ladder 150 = .ok (.iaload, 1) := by decide +kernel
theorem d_M_ladder_151 : decode c_M_ladder 151 = .ok (.ifCond .lt 17, 3) := by decide +kernel
theorem d_M_ladder_154 : decode c_M_ladder 154 = .ok (.aload_n 0, 1) := by decide +kernel
theorem d_M_ladder_155 : decode c_M_ladder 155 = .ok (.getfield 26, 3) := by decide +kernel
theorem d_M_ladder_158 : decode c_M_ladder 158 = .ok (.iload 7, 2) := by decide +kernel
theorem d_M_ladder_160 : decode c_M_ladder 160 = .ok (.iaload, 1) := by decide +kernel
theorem d_M_ladder_161 : decode c_M_ladder 161 = .ok (.iload 5, 2) := by decide +kernel
theorem d_M_ladder_163 : decode c_M_ladder 163 = .ok (.iconst 1, 1) := by decide +kernel
theorem d_M_ladder_164 : decode c_M_ladder 164 = .ok (.iadd, 1) := by decide +kernel
theorem d_M_ladder_165 : decode c_M_ladder 165 = .ok (.if_icmp .ne 49, 3) := by decide +kernel
theorem d_M_ladder_168 : decode c_M_ladder 168 = .ok (.aload_n 0, 1) := by decide +kernel
theorem d_M_ladder_169 : decode c_M_ladder 169 = .ok (.iload 6, 2) := by decide +kernel
theorem d_M_ladder_171 : decode c_M_ladder 171 = .ok (.iload 7, 2) := by decide +kernel
theorem d_M_ladder_173 : decode c_M_ladder 173 = .ok (.iload_n 3, 1) := by decide +kernel
theorem d_M_ladder_174 : decode c_M_ladder 174 = .ok (.invokevirtual 85, 3) := by decide +kernel
theorem d_M_ladder_177 : decode c_M_ladder 177 = .ok (.ifCond .ne 6, 3) := by decide +kernel
theorem d_M_ladder_180 : decode c_M_ladder 180 = .ok (.goto 34, 3) := by decide +kernel
theorem d_M_ladder_183 : decode c_M_ladder 183 = .ok (.aload_n 0, 1) := by decide +kernel
theorem d_M_ladder_184 : decode c_M_ladder 184 = .ok (.getfield 26, 3) := by decide +kernel
theorem d_M_ladder_187 : decode c_M_ladder 187 = .ok (.iload 7, 2) := by decide +kernel
theorem d_M_ladder_189 : decode c_M_ladder 189 = .ok (.iload 5, 2) := by decide +kernel
theorem d_M_ladder_191 : decode c_M_ladder 191 = .ok (.iconst 1, 1) := by decide +kernel
theorem d_M_ladder_192 : decode c_M_ladder 192 = .ok (.iadd, 1) := by decide +kernel
theorem d_M_ladder_193 : decode c_M_ladder 193 = .ok (.iastore, 1) := by decide +kernel
theorem d_M_ladder_194 : decode c_M_ladder 194 = .ok (.aload_n 0, 1) := by decide +kernel
theorem d_M_ladder_195 : decode c_M_ladder 195 = .ok (.getfield 29, 3) := by decide +kernel
theorem d_M_ladder_198 : decode c_M_ladder 198 = .ok (.iload 7, 2) := by decide +kernel
theorem d_M_ladder_200 : decode c_M_ladder 200 = .ok (.dup2, 1) := by decide +kernel
theorem d_M_ladder_201 : decode c_M_ladder 201 = .ok (.laload, 1) := by decide +kernel
theorem d_M_ladder_202 : decode c_M_ladder 202 = .ok (.aload_n 0, 1) := by decide +kernel
theorem d_M_ladder_203 : decode c_M_ladder 203 = .ok (.getfield 29, 3) := by decide +kernel
theorem d_M_ladder_206 : decode c_M_ladder 206 = .ok (.iload 6, 2) := by decide +kernel
theorem d_M_ladder_208 : decode c_M_ladder 208 = .ok (.laload, 1) := by decide +kernel
theorem d_M_ladder_209 : decode c_M_ladder 209 = .ok (.ladd, 1) := by decide +kernel
theorem d_M_ladder_210 : decode c_M_ladder 210 = .ok (.lastore, 1) := by decide +kernel
theorem d_M_ladder_211 : decode c_M_ladder 211 = .ok (.iconst 1, 1) := by decide +kernel
theorem d_M_ladder_212 : decode c_M_ladder 212 = .ok (.istore 4, 2) := by decide +kernel
theorem d_M_ladder_214 : decode c_M_ladder 214 = .ok (.iinc 7 1, 3) := by decide +kernel
theorem d_M_ladder_217 : decode c_M_ladder 217 = .ok (.goto (-82), 3) := by decide +kernel
theorem d_M_ladder_220 : decode c_M_ladder 220 = .ok (.iinc 6 1, 3) := by decide +kernel
theorem d_M_ladder_223 : decode c_M_ladder 223 = .ok (.goto (-115), 3) := by decide +kernel
theorem d_M_ladder_226 : decode c_M_ladder 226 = .ok (.iinc 5 1, 3) := by decide +kernel
theorem d_M_ladder_229 : decode c_M_ladder 229 = .ok (.goto (-132), 3) := by decide +kernel
theorem d_M_ladder_232 : decode c_M_ladder 232 = .ok (.aload_n 0, 1) := by decide +kernel
theorem d_M_ladder_233 : decode c_M_ladder 233 = .ok (.getfield 26, 3) := by decide +kernel
theorem d_M_ladder_236 : decode c_M_ladder 236 = .ok (.iload_n 1, 1) := by decide +kernel
theorem d_M_ladder_237 : decode c_M_ladder 237 = .ok (.iaload, 1) := by decide +kernel
theorem d_M_ladder_238 : decode c_M_ladder 238 = .ok (.ifCond .ge 5, 3) := by decide +kernel
theorem d_M_ladder_241 : decode c_M_ladder 241 = .ok (.iconst (-1), 1) := by decide +kernel
theorem d_M_ladder_242 : decode c_M_ladder 242 = .ok (.ireturn, 1) := by decide +kernel
theorem d_M_ladder_243 : decode c_M_ladder 243 = .ok (.aload_n 0, 1) := by decide +kernel
theorem d_M_ladder_244 : decode c_M_ladder 244 = .ok (.aload_n 0, 1) := by decide +kernel
theorem d_M_ladder_245 : decode c_M_ladder 245 = .ok (.getfield 26, 3) := by decide +kernel
theorem d_M_ladder_248 : decode c_M_ladder 248 = .ok (.iload_n 1, 1) := by decide +kernel
theorem d_M_ladder_249 : decode c_M_ladder 249 = .ok (.iaload, 1) := by decide +kernel
theorem d_M_ladder_250 : decode c_M_ladder 250 = .ok (.putfield 19, 3) := by decide +kernel
theorem d_M_ladder_253 : decode c_M_ladder 253 = .ok (.aload_n 0, 1) := by decide +kernel
theorem d_M_ladder_254 : decode c_M_ladder 254 = .ok (.aload_n 0, 1) := by decide +kernel
theorem d_M_ladder_255 : decode c_M_ladder 255 = .ok (.getfield 29, 3) := by decide +kernel
theorem d_M_ladder_258 : decode c_M_ladder 258 = .ok (.iload_n 1, 1) := by decide +kernel
theorem d_M_ladder_259 : decode c_M_ladder 259 = .ok (.laload, 1) := by decide +kernel
theorem d_M_ladder_260 : decode c_M_ladder 260 = .ok (.putfield 89, 3) := by decide +kernel
theorem d_M_ladder_263 : decode c_M_ladder 263 = .ok (.aload_n 0, 1) := by decide +kernel
theorem d_M_ladder_264 : decode c_M_ladder 264 = .ok (.getfield 23, 3) := by decide +kernel
theorem d_M_ladder_267 : decode c_M_ladder 267 = .ok (.iconst 0, 1) := by decide +kernel
theorem d_M_ladder_268 : decode c_M_ladder 268 = .ok (.iload_n 1, 1) := by decide +kernel
theorem d_M_ladder_269 : decode c_M_ladder 269 = .ok (.iastore, 1) := by decide +kernel
theorem d_M_ladder_270 : decode c_M_ladder 270 = .ok (.iconst 0, 1) := by decide +kernel
theorem d_M_ladder_271 : decode c_M_ladder 271 = .ok (.istore 5, 2) := by decide +kernel
theorem d_M_ladder_273 : decode c_M_ladder 273 = .ok (.iload 5, 2) := by decide +kernel
theorem d_M_ladder_275 : decode c_M_ladder 275 = .ok (.aload_n 0, 1) := by decide +kernel
theorem d_M_ladder_276 : decode c_M_ladder 276 = .ok (.getfield 19, 3) := by decide +kernel
theorem d_M_ladder_279 : decode c_M_ladder 279 = .ok (.if_icmp .ge 70, 3) := by decide +kernel
theorem d_M_ladder_282 : decode c_M_ladder 282 = .ok (.iconst 0, 1) := by decide +kernel
theorem d_M_ladder_283 : decode c_M_ladder 283 = .ok (.istore 6, 2) := by decide +kernel
theorem d_M_ladder_285 : decode c_M_ladder 285 = .ok (.aload_n 0, 1) := by decide +kernel
theorem d_M_ladder_286 : decode c_M_ladder 286 = .ok (.getfield 26, 3) := by decide +kernel
theorem d_M_ladder_289 : decode c_M_ladder 289 = .ok (.iload 6, 2) := by decide +kernel
theorem d_M_ladder_291 : decode c_M_ladder 291 = .ok (.iaload, 1) := by decide +kernel
theorem d_M_ladder_292 : decode c_M_ladder 292 = .ok (.aload_n 0, 1) := by decide +kernel
theorem d_M_ladder_293 : decode c_M_ladder 293 = .ok (.getfield 26, 3) := by decide +kernel
theorem d_M_ladder_296 : decode c_M_ladder 296 = .ok (.aload_n 0, 1) := by decide +kernel
theorem d_M_ladder_297 : decode c_M_ladder 297 = .ok (.getfield 23, 3) := by decide +kernel
theorem d_M_ladder_300 : decode c_M_ladder 300 = .ok (.iload 5, 2) := by decide +kernel
theorem d_M_ladder_302 : decode c_M_ladder 302 = .ok (.iaload, 1) := by decide +kernel
theorem d_M_ladder_303 : decode c_M_ladder 303 = .ok (.iaload, 1) := by decide +kernel
theorem d_M_ladder_304 : decode c_M_ladder 304 = .ok (.iconst 1, 1) := by decide +kernel
theorem d_M_ladder_305 : decode c_M_ladder 305 = .ok (.isub, 1) := by decide +kernel
theorem d_M_ladder_306 : decode c_M_ladder 306 = .ok (.if_icmp .ne 20, 3) := by decide +kernel
theorem d_M_ladder_309 : decode c_M_ladder 309 = .ok (.aload_n 0, 1) := by decide +kernel
theorem d_M_ladder_310 : decode c_M_ladder 310 = .ok (.aload_n 0, 1) := by decide +kernel
theorem d_M_ladder_311 : decode c_M_ladder 311 = .ok (.getfield 23, 3) := by decide +kernel
theorem d_M_ladder_314 : decode c_M_ladder 314 = .ok (.iload 5, 2) := by decide +kernel
theorem d_M_ladder_316 : decode c_M_ladder 316 = .ok (.iaload, 1) := by decide +kernel
theorem d_M_ladder_317 : decode c_M_ladder 317 = .ok (.iload 6, 2) := by decide +kernel
theorem d_M_ladder_319 : decode c_M_ladder 319 = .ok (.iload_n 3, 1) := by decide +kernel
theorem d_M_ladder_320 : decode c_M_ladder 320 = .ok (.invokevirtual 85, 3) := by decide +kernel
theorem d_M_ladder_323 : decode c_M_ladder 323 = .ok (.ifCond .ne 9, 3) := by decide +kernel
theorem d_M_ladder_326 : decode c_M_ladder 326 = .ok (.iinc 6 1, 3) := by decide +kernel
theorem d_M_ladder_329 : decode c_M_ladder 329 = .ok (.goto (-44), 3) := by decide +kernel
theorem d_M_ladder_332 : decode c_M_ladder 332 = .ok (.aload_n 0, 1) := by decide +kernel
theorem d_M_ladder_333 : decode c_M_ladder 333 = .ok (.getfield 23, 3) := by decide +kernel
theorem d_M_ladder_336 : decode c_M_ladder 336 = .ok (.iload 5, 2) := by decide +kernel
theorem d_M_ladder_338 : decode c_M_ladder 338 = .ok (.iconst 1, 1) := by decide +kernel
theorem d_M_ladder_339 : decode c_M_ladder 339 = .ok (.iadd, 1) := by decide +kernel
theorem d_M_ladder_340 : decode c_M_ladder 340 = .ok (.iload 6, 2) := by decide +kernel
theorem d_M_ladder_342 : decode c_M_ladder 342 = .ok (.iastore, 1) := by decide +kernel
theorem d_M_ladder_343 : decode c_M_ladder 343 = .ok (.iinc 5 1, 3) := by decide +kernel
theorem d_M_ladder_346 : decode c_M_ladder 346 = .ok (.goto (-73), 3) := by decide +kernel
theorem d_M_ladder_349 : decode c_M_ladder 349 = .ok (.aload_n 0, 1) := by decide +kernel
theorem d_M_ladder_350 : decode c_M_ladder 350 = .ok (.getfield 19, 3) := by decide +kernel
theorem d_M_ladder_353 : decode c_M_ladder 353 = .ok (.ireturn, 1) := by decide +kernel
abbrev w_M_ladder : List Cond := mx_ws y_M_ladder c_M_ladder 8 (some .int)
abbrev rm_M_ladder : Room := { frames := 40, cells := 0, slots := 0, locals := 800 }
def t_M_ladder  (P : Option mx_V → mx_F → Prop) : List (Nat × mx_O) := [
  (0, mx_aload 0 1),
  (1, mx_push (.inl (nI 0)) 2),
  (2, mx_puti 7 0 5),
  (5, mx_aload 0 6),
  (6, mx_push (.inl (-1)) 7),
  (7, mx_puti 7 6 10),
  (10, mx_aload 0 11),
  (11, mx_iload 1 12),
  (12, mx_cv1 7 sp_M_isWord 0 0 15),
  (15, mx_if_eq 35 18),
  (18, mx_aload 0 19),
  (19, mx_iload 2 20),
  (20, mx_cv1 7 sp_M_isWord 0 0 23),
  (23, mx_if_eq 35 26),
  (26, mx_iload 3 27),
  (27, mx_if_eq 37 30),
  (30, mx_iload 3 31),
  (31, mx_push (.inl (nI 1)) 32),
  (32, mx_ic_eq 37 35),
  (35, mx_push (.inl (-1)) 36),
  (36, mx_iret P),
  (37, mx_push (.inl (nI 0)) 38),
  (38, mx_istore 4 40),
  (40, mx_iload 4 42),
  (42, mx_aload 0 43),
  (43, mx_get 7 3 46),
  (46, mx_ic_ge 91 49),
  (49, mx_aload 0 50),
  (50, mx_get 7 9 53),
  (53, mx_iload 4 55),
  (55, mx_iload 4 57),
  (57, mx_iload 2 58),
  (58, mx_ic_ne 65 61),
  (61, mx_push (.inl (nI 0)) 62),
  (62, mx_goto 66),
  (65, mx_push (.inl (-1)) 66),
  (66, mx_iast 67),
  (67, mx_aload 0 68),
  (68, mx_get 7 10 71),
  (71, mx_iload 4 73),
  (73, mx_iload 4 75),
  (75, mx_iload 2 76),
  (76, mx_ic_ne 83 79),
  (79, mx_push (.inr (.inl 1)) 80),
  (80, mx_goto 84),
  (83, mx_push (.inr (.inl 0)) 84),
  (84, mx_last 85),
  (85, mx_iinc 4 (nI 1) 88),
  (88, mx_goto 40),
  (91, mx_push (.inl (nI 1)) 92),
  (92, mx_istore 4 94),
  (94, mx_push (.inl (nI 0)) 95),
  (95, mx_istore 5 97),
  (97, mx_iload 4 99),
  (99, mx_if_eq 232 102),
  (102, mx_push (.inl (nI 0)) 103),
  (103, mx_istore 4 105),
  (105, mx_push (.inl (nI 0)) 106),
  (106, mx_istore 6 108),
  (108, mx_iload 6 110),
  (110, mx_aload 0 111),
  (111, mx_get 7 3 114),
  (114, mx_ic_ge 226 117),
  (117, mx_aload 0 118),
  (118, mx_get 7 9 121),
  (121, mx_iload 6 123),
  (123, mx_iald 124),
  (124, mx_iload 5 126),
  (126, mx_ic_eq 132 129),
  (129, mx_goto 220),
  (132, mx_push (.inl (nI 0)) 133),
  (133, mx_istore 7 135),
  (135, mx_iload 7 137),
  (137, mx_aload 0 138),
  (138, mx_get 7 3 141),
  (141, mx_ic_ge 220 144),
  (144, mx_aload 0 145),
  (145, mx_get 7 9 148),
  (148, mx_iload 7 150),
  (150, mx_iald 151),
  (151, mx_if_lt 168 154),
  (154, mx_aload 0 155),
  (155, mx_get 7 9 158),
  (158, mx_iload 7 160),
  (160, mx_iald 161),
  (161, mx_iload 5 163),
  (163, mx_push (.inl (nI 1)) 164),
  (164, mx_iadd 165),
  (165, mx_ic_ne 214 168),
  (168, mx_aload 0 169),
  (169, mx_iload 6 171),
  (171, mx_iload 7 173),
  (173, mx_iload 3 174),
  (174, mx_cv3 7 sp_M_isStep 0 0 177),
  (177, mx_if_ne 183 180),
  (180, mx_goto 214),
  (183, mx_aload 0 184),
  (184, mx_get 7 9 187),
  (187, mx_iload 7 189),
  (189, mx_iload 5 191),
  (191, mx_push (.inl (nI 1)) 192),
  (192, mx_iadd 193),
  (193, mx_iast 194),
  (194, mx_aload 0 195),
  (195, mx_get 7 10 198),
  (198, mx_iload 7 200),
  (200, mx_dup2 201),
  (201, mx_lald 202),
  (202, mx_aload 0 203),
  (203, mx_get 7 10 206),
  (206, mx_iload 6 208),
  (208, mx_lald 209),
  (209, mx_ladd 210),
  (210, mx_last 211),
  (211, mx_push (.inl (nI 1)) 212),
  (212, mx_istore 4 214),
  (214, mx_iinc 7 (nI 1) 217),
  (217, mx_goto 135),
  (220, mx_iinc 6 (nI 1) 223),
  (223, mx_goto 108),
  (226, mx_iinc 5 (nI 1) 229),
  (229, mx_goto 97),
  (232, mx_aload 0 233),
  (233, mx_get 7 9 236),
  (236, mx_iload 1 237),
  (237, mx_iald 238),
  (238, mx_if_ge 243 241),
  (241, mx_push (.inl (-1)) 242),
  (242, mx_iret P),
  (243, mx_aload 0 244),
  (244, mx_aload 0 245),
  (245, mx_get 7 9 248),
  (248, mx_iload 1 249),
  (249, mx_iald 250),
  (250, mx_puti 7 6 253),
  (253, mx_aload 0 254),
  (254, mx_aload 0 255),
  (255, mx_get 7 10 258),
  (258, mx_iload 1 259),
  (259, mx_lald 260),
  (260, mx_putl 7 8 263),
  (263, mx_aload 0 264),
  (264, mx_get 7 7 267),
  (267, mx_push (.inl (nI 0)) 268),
  (268, mx_iload 1 269),
  (269, mx_iast 270),
  (270, mx_push (.inl (nI 0)) 271),
  (271, mx_istore 5 273),
  (273, mx_iload 5 275),
  (275, mx_aload 0 276),
  (276, mx_get 7 6 279),
  (279, mx_ic_ge 349 282),
  (282, mx_push (.inl (nI 0)) 283),
  (283, mx_istore 6 285),
  (285, mx_aload 0 286),
  (286, mx_get 7 9 289),
  (289, mx_iload 6 291),
  (291, mx_iald 292),
  (292, mx_aload 0 293),
  (293, mx_get 7 9 296),
  (296, mx_aload 0 297),
  (297, mx_get 7 7 300),
  (300, mx_iload 5 302),
  (302, mx_iald 303),
  (303, mx_iald 304),
  (304, mx_push (.inl (nI 1)) 305),
  (305, mx_isub 306),
  (306, mx_ic_ne 326 309),
  (309, mx_aload 0 310),
  (310, mx_aload 0 311),
  (311, mx_get 7 7 314),
  (314, mx_iload 5 316),
  (316, mx_iald 317),
  (317, mx_iload 6 319),
  (319, mx_iload 3 320),
  (320, mx_cv3 7 sp_M_isStep 0 0 323),
  (323, mx_if_ne 332 326),
  (326, mx_iinc 6 (nI 1) 329),
  (329, mx_goto 285),
  (332, mx_aload 0 333),
  (333, mx_get 7 7 336),
  (336, mx_iload 5 338),
  (338, mx_push (.inl (nI 1)) 339),
  (339, mx_iadd 340),
  (340, mx_iload 6 342),
  (342, mx_iast 343),
  (343, mx_iinc 5 (nI 1) 346),
  (346, mx_goto 273),
  (349, mx_aload 0 350),
  (350, mx_get 7 6 353),
  (353, mx_iret P)]
set_option maxRecDepth 20000 in
theorem a_M_ladder  {p : Program} {l : Launch} {e : Env} {s : State} {m : MethodId} {args : Array Value} {below : List Frame} {meth : Method} {c : Code} {D : va_G} {tc : Nat → ClassId} {tb : Nat → Nat} {sz : Nat} {a0 : Nat → Nat} {G : mx_F} {P : Option mx_V → mx_F → Prop}  (C : mx_C p s m args c c_M_ladder y_M_ladder.cls w_M_ladder D tc tb (mx_A a0 G sz) 8 (mx_Ok0 a0 G)) (hr : meth.sig.returnType = (some .int)) (hlk : meth.locks = false) : mx_all (mx_W p l e rm_M_ladder s m args below meth c (MQ below (mx_Q D tc tb a0 G sz P) args s 0 0 (mx_A a0 G sz)) D tc tb (mx_A a0 G sz) 8 (mx_Ok0 a0 G)) (t_M_ladder  P) :=
  ⟨mx_s_aload_n C d_M_ladder_0 rfl,
  mx_s_iconst C d_M_ladder_1 (by decide),
  mx_s_puti (T := T_M) (N := 18) (k := 0) C (fun w h => List.mem_cons_of_mem _ (in_M w h)) rfl ty_M ok_M nm_M (by decide) (List.mem_cons_of_mem _ fk_M_48) rfl rfl (ok_M 0 (by decide)) d_M_ladder_2,
  mx_s_aload_n C d_M_ladder_5 rfl,
  mx_s_iconst C d_M_ladder_6 (by decide),
  mx_s_puti (T := T_M) (N := 18) (k := 6) C (fun w h => List.mem_cons_of_mem _ (in_M w h)) rfl ty_M ok_M nm_M (by decide) (List.mem_cons_of_mem _ fk_M_19) rfl rfl (ok_M 6 (by decide)) d_M_ladder_7,
  mx_s_aload_n C d_M_ladder_10 rfl,
  mx_s_iload_n C d_M_ladder_11 rfl,
  mx_s_cv1 C (m_M_isWord l) rfl (cwV 1 C.2.2.2.2.1 (mx_gV (fun w h => List.mem_cons_of_mem _ h) mk_M_75 im_M_isWord se_M_isWord ic_M co_M_isWord) rfl rfl rfl (by decide +kernel) ⟨by decide, by decide⟩) d_M_ladder_12 ⟨Nat.zero_le _, Nat.zero_le _⟩,
  mx_s_if_eq C d_M_ladder_15 (by decide),
  mx_s_aload_n C d_M_ladder_18 rfl,
  mx_s_iload_n C d_M_ladder_19 rfl,
  mx_s_cv1 C (m_M_isWord l) rfl (cwV 1 C.2.2.2.2.1 (mx_gV (fun w h => List.mem_cons_of_mem _ h) mk_M_75 im_M_isWord se_M_isWord ic_M co_M_isWord) rfl rfl rfl (by decide +kernel) ⟨by decide, by decide⟩) d_M_ladder_20 ⟨Nat.zero_le _, Nat.zero_le _⟩,
  mx_s_if_eq C d_M_ladder_23 (by decide),
  mx_s_iload_n C d_M_ladder_26 rfl,
  mx_s_if_eq C d_M_ladder_27 (by decide),
  mx_s_iload_n C d_M_ladder_30 rfl,
  mx_s_iconst C d_M_ladder_31 (by decide),
  mx_s_ic_eq C d_M_ladder_32 (by decide),
  mx_s_iconst C d_M_ladder_35 (by decide),
  mx_s_iret C hr hlk d_M_ladder_36,
  mx_s_iconst C d_M_ladder_37 (by decide),
  mx_s_istore C d_M_ladder_38 (by decide),
  mx_s_iload C d_M_ladder_40,
  mx_s_aload_n C d_M_ladder_42 rfl,
  mx_s_get (T := T_M) (N := 18) (k := 3) C (fun w h => List.mem_cons_of_mem _ (in_M w h)) rfl (by decide) (List.mem_cons_of_mem _ fk_M_51) rfl d_M_ladder_43,
  mx_s_ic_ge C d_M_ladder_46 (by decide),
  mx_s_aload_n C d_M_ladder_49 rfl,
  mx_s_get (T := T_M) (N := 18) (k := 9) C (fun w h => List.mem_cons_of_mem _ (in_M w h)) rfl (by decide) (List.mem_cons_of_mem _ fk_M_26) rfl d_M_ladder_50,
  mx_s_iload C d_M_ladder_53,
  mx_s_iload C d_M_ladder_55,
  mx_s_iload_n C d_M_ladder_57 rfl,
  mx_s_ic_ne C d_M_ladder_58 (by decide),
  mx_s_iconst C d_M_ladder_61 (by decide),
  mx_s_goto C d_M_ladder_62 (by decide),
  mx_s_iconst C d_M_ladder_65 (by decide),
  mx_s_iast C d_M_ladder_66,
  mx_s_aload_n C d_M_ladder_67 rfl,
  mx_s_get (T := T_M) (N := 18) (k := 10) C (fun w h => List.mem_cons_of_mem _ (in_M w h)) rfl (by decide) (List.mem_cons_of_mem _ fk_M_29) rfl d_M_ladder_68,
  mx_s_iload C d_M_ladder_71,
  mx_s_iload C d_M_ladder_73,
  mx_s_iload_n C d_M_ladder_75 rfl,
  mx_s_ic_ne C d_M_ladder_76 (by decide),
  mx_s_lconst C d_M_ladder_79 (by decide),
  mx_s_goto C d_M_ladder_80 (by decide),
  mx_s_lconst C d_M_ladder_83 (by decide),
  mx_s_last C d_M_ladder_84,
  mx_s_iinc C d_M_ladder_85 (by decide) (by decide),
  mx_s_goto C d_M_ladder_88 (by decide),
  mx_s_iconst C d_M_ladder_91 (by decide),
  mx_s_istore C d_M_ladder_92 (by decide),
  mx_s_iconst C d_M_ladder_94 (by decide),
  mx_s_istore C d_M_ladder_95 (by decide),
  mx_s_iload C d_M_ladder_97,
  mx_s_if_eq C d_M_ladder_99 (by decide),
  mx_s_iconst C d_M_ladder_102 (by decide),
  mx_s_istore C d_M_ladder_103 (by decide),
  mx_s_iconst C d_M_ladder_105 (by decide),
  mx_s_istore C d_M_ladder_106 (by decide),
  mx_s_iload C d_M_ladder_108,
  mx_s_aload_n C d_M_ladder_110 rfl,
  mx_s_get (T := T_M) (N := 18) (k := 3) C (fun w h => List.mem_cons_of_mem _ (in_M w h)) rfl (by decide) (List.mem_cons_of_mem _ fk_M_51) rfl d_M_ladder_111,
  mx_s_ic_ge C d_M_ladder_114 (by decide),
  mx_s_aload_n C d_M_ladder_117 rfl,
  mx_s_get (T := T_M) (N := 18) (k := 9) C (fun w h => List.mem_cons_of_mem _ (in_M w h)) rfl (by decide) (List.mem_cons_of_mem _ fk_M_26) rfl d_M_ladder_118,
  mx_s_iload C d_M_ladder_121,
  mx_s_iald C d_M_ladder_123,
  mx_s_iload C d_M_ladder_124,
  mx_s_ic_eq C d_M_ladder_126 (by decide),
  mx_s_goto C d_M_ladder_129 (by decide),
  mx_s_iconst C d_M_ladder_132 (by decide),
  mx_s_istore C d_M_ladder_133 (by decide),
  mx_s_iload C d_M_ladder_135,
  mx_s_aload_n C d_M_ladder_137 rfl,
  mx_s_get (T := T_M) (N := 18) (k := 3) C (fun w h => List.mem_cons_of_mem _ (in_M w h)) rfl (by decide) (List.mem_cons_of_mem _ fk_M_51) rfl d_M_ladder_138,
  mx_s_ic_ge C d_M_ladder_141 (by decide),
  mx_s_aload_n C d_M_ladder_144 rfl,
  mx_s_get (T := T_M) (N := 18) (k := 9) C (fun w h => List.mem_cons_of_mem _ (in_M w h)) rfl (by decide) (List.mem_cons_of_mem _ fk_M_26) rfl d_M_ladder_145,
  mx_s_iload C d_M_ladder_148,
  mx_s_iald C d_M_ladder_150,
  mx_s_if_lt C d_M_ladder_151 (by decide),
  mx_s_aload_n C d_M_ladder_154 rfl,
  mx_s_get (T := T_M) (N := 18) (k := 9) C (fun w h => List.mem_cons_of_mem _ (in_M w h)) rfl (by decide) (List.mem_cons_of_mem _ fk_M_26) rfl d_M_ladder_155,
  mx_s_iload C d_M_ladder_158,
  mx_s_iald C d_M_ladder_160,
  mx_s_iload C d_M_ladder_161,
  mx_s_iconst C d_M_ladder_163 (by decide),
  mx_s_iadd C d_M_ladder_164,
  mx_s_ic_ne C d_M_ladder_165 (by decide),
  mx_s_aload_n C d_M_ladder_168 rfl,
  mx_s_iload C d_M_ladder_169,
  mx_s_iload C d_M_ladder_171,
  mx_s_iload_n C d_M_ladder_173 rfl,
  mx_s_cv3 C (m_M_isStep l) rfl (cwV 3 C.2.2.2.2.1 (mx_gV (fun w h => List.mem_cons_of_mem _ h) mk_M_85 im_M_isStep se_M_isStep ic_M co_M_isStep) rfl rfl rfl (by decide +kernel) ⟨by decide, by decide⟩) d_M_ladder_174 ⟨Nat.zero_le _, Nat.zero_le _⟩,
  mx_s_if_ne C d_M_ladder_177 (by decide),
  mx_s_goto C d_M_ladder_180 (by decide),
  mx_s_aload_n C d_M_ladder_183 rfl,
  mx_s_get (T := T_M) (N := 18) (k := 9) C (fun w h => List.mem_cons_of_mem _ (in_M w h)) rfl (by decide) (List.mem_cons_of_mem _ fk_M_26) rfl d_M_ladder_184,
  mx_s_iload C d_M_ladder_187,
  mx_s_iload C d_M_ladder_189,
  mx_s_iconst C d_M_ladder_191 (by decide),
  mx_s_iadd C d_M_ladder_192,
  mx_s_iast C d_M_ladder_193,
  mx_s_aload_n C d_M_ladder_194 rfl,
  mx_s_get (T := T_M) (N := 18) (k := 10) C (fun w h => List.mem_cons_of_mem _ (in_M w h)) rfl (by decide) (List.mem_cons_of_mem _ fk_M_29) rfl d_M_ladder_195,
  mx_s_iload C d_M_ladder_198,
  mx_s_dup2 C d_M_ladder_200,
  mx_s_lald C d_M_ladder_201,
  mx_s_aload_n C d_M_ladder_202 rfl,
  mx_s_get (T := T_M) (N := 18) (k := 10) C (fun w h => List.mem_cons_of_mem _ (in_M w h)) rfl (by decide) (List.mem_cons_of_mem _ fk_M_29) rfl d_M_ladder_203,
  mx_s_iload C d_M_ladder_206,
  mx_s_lald C d_M_ladder_208,
  mx_s_ladd C d_M_ladder_209,
  mx_s_last C d_M_ladder_210,
  mx_s_iconst C d_M_ladder_211 (by decide),
  mx_s_istore C d_M_ladder_212 (by decide),
  mx_s_iinc C d_M_ladder_214 (by decide) (by decide),
  mx_s_goto C d_M_ladder_217 (by decide),
  mx_s_iinc C d_M_ladder_220 (by decide) (by decide),
  mx_s_goto C d_M_ladder_223 (by decide),
  mx_s_iinc C d_M_ladder_226 (by decide) (by decide),
  mx_s_goto C d_M_ladder_229 (by decide),
  mx_s_aload_n C d_M_ladder_232 rfl,
  mx_s_get (T := T_M) (N := 18) (k := 9) C (fun w h => List.mem_cons_of_mem _ (in_M w h)) rfl (by decide) (List.mem_cons_of_mem _ fk_M_26) rfl d_M_ladder_233,
  mx_s_iload_n C d_M_ladder_236 rfl,
  mx_s_iald C d_M_ladder_237,
  mx_s_if_ge C d_M_ladder_238 (by decide),
  mx_s_iconst C d_M_ladder_241 (by decide),
  mx_s_iret C hr hlk d_M_ladder_242,
  mx_s_aload_n C d_M_ladder_243 rfl,
  mx_s_aload_n C d_M_ladder_244 rfl,
  mx_s_get (T := T_M) (N := 18) (k := 9) C (fun w h => List.mem_cons_of_mem _ (in_M w h)) rfl (by decide) (List.mem_cons_of_mem _ fk_M_26) rfl d_M_ladder_245,
  mx_s_iload_n C d_M_ladder_248 rfl,
  mx_s_iald C d_M_ladder_249,
  mx_s_puti (T := T_M) (N := 18) (k := 6) C (fun w h => List.mem_cons_of_mem _ (in_M w h)) rfl ty_M ok_M nm_M (by decide) (List.mem_cons_of_mem _ fk_M_19) rfl rfl (ok_M 6 (by decide)) d_M_ladder_250,
  mx_s_aload_n C d_M_ladder_253 rfl,
  mx_s_aload_n C d_M_ladder_254 rfl,
  mx_s_get (T := T_M) (N := 18) (k := 10) C (fun w h => List.mem_cons_of_mem _ (in_M w h)) rfl (by decide) (List.mem_cons_of_mem _ fk_M_29) rfl d_M_ladder_255,
  mx_s_iload_n C d_M_ladder_258 rfl,
  mx_s_lald C d_M_ladder_259,
  mx_s_putl (T := T_M) (N := 18) (k := 8) C (fun w h => List.mem_cons_of_mem _ (in_M w h)) rfl ty_M ok_M nm_M (by decide) (List.mem_cons_of_mem _ fk_M_89) rfl rfl (ok_M 8 (by decide)) d_M_ladder_260,
  mx_s_aload_n C d_M_ladder_263 rfl,
  mx_s_get (T := T_M) (N := 18) (k := 7) C (fun w h => List.mem_cons_of_mem _ (in_M w h)) rfl (by decide) (List.mem_cons_of_mem _ fk_M_23) rfl d_M_ladder_264,
  mx_s_iconst C d_M_ladder_267 (by decide),
  mx_s_iload_n C d_M_ladder_268 rfl,
  mx_s_iast C d_M_ladder_269,
  mx_s_iconst C d_M_ladder_270 (by decide),
  mx_s_istore C d_M_ladder_271 (by decide),
  mx_s_iload C d_M_ladder_273,
  mx_s_aload_n C d_M_ladder_275 rfl,
  mx_s_get (T := T_M) (N := 18) (k := 6) C (fun w h => List.mem_cons_of_mem _ (in_M w h)) rfl (by decide) (List.mem_cons_of_mem _ fk_M_19) rfl d_M_ladder_276,
  mx_s_ic_ge C d_M_ladder_279 (by decide),
  mx_s_iconst C d_M_ladder_282 (by decide),
  mx_s_istore C d_M_ladder_283 (by decide),
  mx_s_aload_n C d_M_ladder_285 rfl,
  mx_s_get (T := T_M) (N := 18) (k := 9) C (fun w h => List.mem_cons_of_mem _ (in_M w h)) rfl (by decide) (List.mem_cons_of_mem _ fk_M_26) rfl d_M_ladder_286,
  mx_s_iload C d_M_ladder_289,
  mx_s_iald C d_M_ladder_291,
  mx_s_aload_n C d_M_ladder_292 rfl,
  mx_s_get (T := T_M) (N := 18) (k := 9) C (fun w h => List.mem_cons_of_mem _ (in_M w h)) rfl (by decide) (List.mem_cons_of_mem _ fk_M_26) rfl d_M_ladder_293,
  mx_s_aload_n C d_M_ladder_296 rfl,
  mx_s_get (T := T_M) (N := 18) (k := 7) C (fun w h => List.mem_cons_of_mem _ (in_M w h)) rfl (by decide) (List.mem_cons_of_mem _ fk_M_23) rfl d_M_ladder_297,
  mx_s_iload C d_M_ladder_300,
  mx_s_iald C d_M_ladder_302,
  mx_s_iald C d_M_ladder_303,
  mx_s_iconst C d_M_ladder_304 (by decide),
  mx_s_isub C d_M_ladder_305,
  mx_s_ic_ne C d_M_ladder_306 (by decide),
  mx_s_aload_n C d_M_ladder_309 rfl,
  mx_s_aload_n C d_M_ladder_310 rfl,
  mx_s_get (T := T_M) (N := 18) (k := 7) C (fun w h => List.mem_cons_of_mem _ (in_M w h)) rfl (by decide) (List.mem_cons_of_mem _ fk_M_23) rfl d_M_ladder_311,
  mx_s_iload C d_M_ladder_314,
  mx_s_iald C d_M_ladder_316,
  mx_s_iload C d_M_ladder_317,
  mx_s_iload_n C d_M_ladder_319 rfl,
  mx_s_cv3 C (m_M_isStep l) rfl (cwV 3 C.2.2.2.2.1 (mx_gV (fun w h => List.mem_cons_of_mem _ h) mk_M_85 im_M_isStep se_M_isStep ic_M co_M_isStep) rfl rfl rfl (by decide +kernel) ⟨by decide, by decide⟩) d_M_ladder_320 ⟨Nat.zero_le _, Nat.zero_le _⟩,
  mx_s_if_ne C d_M_ladder_323 (by decide),
  mx_s_iinc C d_M_ladder_326 (by decide) (by decide),
  mx_s_goto C d_M_ladder_329 (by decide),
  mx_s_aload_n C d_M_ladder_332 rfl,
  mx_s_get (T := T_M) (N := 18) (k := 7) C (fun w h => List.mem_cons_of_mem _ (in_M w h)) rfl (by decide) (List.mem_cons_of_mem _ fk_M_23) rfl d_M_ladder_333,
  mx_s_iload C d_M_ladder_336,
  mx_s_iconst C d_M_ladder_338 (by decide),
  mx_s_iadd C d_M_ladder_339,
  mx_s_iload C d_M_ladder_340,
  mx_s_iast C d_M_ladder_342,
  mx_s_iinc C d_M_ladder_343 (by decide) (by decide),
  mx_s_goto C d_M_ladder_346 (by decide),
  mx_s_aload_n C d_M_ladder_349 rfl,
  mx_s_get (T := T_M) (N := 18) (k := 6) C (fun w h => List.mem_cons_of_mem _ (in_M w h)) rfl (by decide) (List.mem_cons_of_mem _ fk_M_19) rfl d_M_ladder_350,
  mx_s_iret C hr hlk d_M_ladder_353,
  trivial⟩
set_option maxRecDepth 20000 in
set_option maxHeartbeats 2000000 in
theorem m_M_ladder (l : Launch) : mx_M l y_M_ladder w_M_ladder rm_M_ladder sp_M_ladder := by
  intro zD ztc ztb zad As F P sz0 h
  obtain ⟨th, sz, sp, wy, kp, sd, n, N, ch, lt, ml, la, fa, ca, x, y, z, rfl, h2, h3, h0, h44, h45, h46, hw, hz, ho⟩ := h
  refine mx_run (cc := c_M_ladder) (maxL := 8) (ret := (some .int)) (tab := t_M_ladder  P) (by decide) rfl zD ztc ztb zad _ F P sz0 (Nat.le_of_ble_eq_true rfl) (fun p e s m args below meth c C hr hlk => a_M_ladder  C hr hlk) ?_
  intro Rr go
  have hF : F = (mx_put (mx_put (mx_put (mx_put (mx_put (mx_put F 42 (mx_ia 360 lt)) 43 (mx_ia 60 ml)) 40 (e_M th sz (nI n) sp wy kp sd)) 44 (mx_ia 60 la)) 45 (mx_ia 60 fa)) 46 (mx_la 60 ca)) := by rw [mx_self h2, mx_self h3, mx_self h0, mx_self h44, mx_self h45, mx_self h46]
  have hB : (mx_put (mx_put F 42 (mx_ia 360 lt)) 43 (mx_ia 60 ml)) = F := by rw [mx_self h2, mx_self h3]
  have hW0 : (mx_put (mx_put (mx_put (mx_put (mx_put (mx_put F 42 (mx_ia 360 lt)) 43 (mx_ia 60 ml)) 40 (e_M (nI 0) sz (nI n) (-1) wy kp sd)) 44 (mx_ia 60 la)) 45 (mx_ia 60 fa)) 46 (mx_la 60 ca)) = mx_put F 40 (e_M (nI 0) sz (nI n) (-1) wy kp sd) := by
    rw [mx_pc _ _ _ (show (44 : Nat) ≠ 40 by decide), mx_pc _ _ _ (show (45 : Nat) ≠ 40 by decide), mx_pc _ _ _ (show (46 : Nat) ≠ 40 by decide), mx_self h2, mx_self h3, mx_self h44, mx_self h45, mx_self h46]
  have hn := hw.1.1
  have bad : (¬ ∃ a t kd, a < n ∧ t < n ∧ kd ≤ 1 ∧ x = nI a ∧ y = nI t ∧ z = nI kd) → Rr 35 (mx_en [mx_r 40, mx_i x, mx_i y, mx_i z] 8) [] (mx_put (mx_put (mx_put (mx_put (mx_put (mx_put F 42 (mx_ia 360 lt)) 43 (mx_ia 60 ml)) 40 (e_M (nI 0) sz (nI n) (-1) wy kp sd)) 44 (mx_ia 60 la)) 45 (mx_ia 60 fa)) 46 (mx_la 60 ca)) 0 0 := by
    intro h
    refine go rfl ?_
    refine go rfl ⟨_, rfl, rfl, rfl, ?_⟩
    rw [hW0]
    exact hz h
  have good : ∀ a t kd, a < n → t < n → kd ≤ 1 → x = nI a → y = nI t → z = nI kd → Rr 37 (mx_en [mx_r 40, mx_i x, mx_i y, mx_i z] 8) [] (mx_put (mx_put (mx_put (mx_put (mx_put (mx_put F 42 (mx_ia 360 lt)) 43 (mx_ia 60 ml)) 40 (e_M (nI 0) sz (nI n) (-1) wy kp sd)) 44 (mx_ia 60 la)) 45 (mx_ia 60 fa)) 46 (mx_la 60 ca)) 0 0 := by
    intro a t kd ha ht hk ex ey ez
    subst ex
    subst ey
    subst ez
    have ho := ho a t kd ha ht hk rfl rfl rfl
    have hR : ∀ x y, (stepP N ch kd) x y → (stepP N ch kd) y x := fun x y h => stepP_c h
    -- the end: the least ladder
    have climb : ∀ (D E : Nat) (wy' : Int64) (fa' : Nat → Int32) (ca' : Nat → Int64), D ≤ E → E ≤ 60 → de n (stepP N ch kd) t D a = some D → (∀ w, w < n → fa' w = oi (de n (stepP N ch kd) t E w)) → ∀ (m k : Nat) (la' : Nat → Int32) (x4 : Int32) (j6 j7 : Option mx_V), k + m = D → (∀ q, q ≤ k → la' q = nI (lad n (stepP N ch kd) t a D q)) → Rr 273 [some (mx_r 40), some (mx_i (nI a)), some (mx_i (nI t)), some (mx_i (nI kd)), some (mx_i x4), some (mx_i (nI k)), j6, j7] [] (mx_put (mx_put (mx_put (mx_put (mx_put (mx_put F 42 (mx_ia 360 lt)) 43 (mx_ia 60 ml)) 40 (e_M (nI 0) sz (nI n) (nI D) wy' kp sd)) 44 (mx_ia 60 la')) 45 (mx_ia 60 fa')) 46 (mx_la 60 ca')) 0 0 := by
      intro D E wy' fa' ca' hDE hE hda hq m
      have hDn := de_lt ha hda
      induction m with
      | zero =>
        intro k la' x4 j6 j7 hm hr
        refine go rfl ⟨_, rfl, ?_⟩
        refine go rfl ⟨_, rfl, ?_⟩
        refine go rfl ⟨_, _, _, _, rfl, rfl, rfl, ?_⟩
        refine go rfl ⟨_, _, _, rfl, fun c => ?_, fun c => ?_⟩
        · refine go rfl ⟨_, rfl, ?_⟩
          refine go rfl ⟨_, _, _, _, rfl, rfl, rfl, ?_⟩
          refine go rfl ⟨_, rfl, rfl, rfl, ?_⟩
          rw [hB]
          exact ho.2 D hda la' fa' ca' wy' (fun q hq2 => hr q (by omega))
        · exact absurd (nI_le (by omega) (by omega)) c
      | succ m ih =>
        intro k la' x4 j6 j7 hm hr
        have hl := lad_ok hR ha hda k (by omega)
        have hex := lad_ex hR ha hda (show k < D by omega)
        refine go rfl ⟨_, rfl, ?_⟩
        refine go rfl ⟨_, rfl, ?_⟩
        refine go rfl ⟨_, _, _, _, rfl, rfl, rfl, ?_⟩
        refine go rfl ⟨_, _, _, rfl, fun c => ?_, fun c => ?_⟩
        · exact absurd ((nI_leI (by omega) (by omega)).mp c) (by omega)
        have find : ∀ (p v : Nat), v + p = n → (∀ u, u < v → ¬ (de n (stepP N ch kd) t (D - (k + 1)) u = some (D - (k + 1)) ∧ (stepP N ch kd) (lad n (stepP N ch kd) t a D k) u)) → Rr 285 [some (mx_r 40), some (mx_i (nI a)), some (mx_i (nI t)), some (mx_i (nI kd)), some (mx_i x4), some (mx_i (nI k)), some (mx_i (nI v)), j7] [] (mx_put (mx_put (mx_put (mx_put (mx_put (mx_put F 42 (mx_ia 360 lt)) 43 (mx_ia 60 ml)) 40 (e_M (nI 0) sz (nI n) (nI D) wy' kp sd)) 44 (mx_ia 60 la')) 45 (mx_ia 60 fa')) 46 (mx_la 60 ca')) 0 0 := by
          intro p
          induction p with
          | zero =>
            intro v hv hno
            exfalso
            obtain ⟨u, q1, q2⟩ := hex
            exact hno u (by omega) q2
          | succ p ih2 =>
            intro v hv hno
            have hvn : v < n := by omega
            have next : ¬ (de n (stepP N ch kd) t (D - (k + 1)) v = some (D - (k + 1)) ∧ (stepP N ch kd) (lad n (stepP N ch kd) t a D k) v) → Rr 326 [some (mx_r 40), some (mx_i (nI a)), some (mx_i (nI t)), some (mx_i (nI kd)), some (mx_i x4), some (mx_i (nI k)), some (mx_i (nI v)), j7] [] (mx_put (mx_put (mx_put (mx_put (mx_put (mx_put F 42 (mx_ia 360 lt)) 43 (mx_ia 60 ml)) 40 (e_M (nI 0) sz (nI n) (nI D) wy' kp sd)) 44 (mx_ia 60 la')) 45 (mx_ia 60 fa')) 46 (mx_la 60 ca')) 0 0 := by
              intro hn2
              refine go rfl ⟨_, rfl, ?_⟩
              refine go rfl ?_
              rw [nI_add]
              refine ih2 (v + 1) (by omega) (fun u hu => ?_)
              rcases Nat.lt_or_ge u v with w | w
              · exact hno u w
              · rw [show u = v by omega]
                exact hn2
            refine go rfl ⟨_, rfl, ?_⟩
            refine go rfl ⟨_, _, _, _, rfl, rfl, rfl, ?_⟩
            refine go rfl ⟨_, rfl, ?_⟩
            refine go rfl ⟨_, _, _, _, _, rfl, rfl, (vp_in_nI (show v < 60 by omega) (by omega)), ?_⟩
            refine go rfl ⟨_, rfl, ?_⟩
            refine go rfl ⟨_, _, _, _, rfl, rfl, rfl, ?_⟩
            refine go rfl ⟨_, rfl, ?_⟩
            refine go rfl ⟨_, _, _, _, rfl, rfl, rfl, ?_⟩
            refine go rfl ⟨_, rfl, ?_⟩
            refine go rfl ⟨_, _, _, _, _, rfl, rfl, (vp_in_nI (show k < 60 by omega) (by omega)), ?_⟩
            rw [nI_clamp (show v < 2 ^ 31 by omega), nI_clamp (show k < 2 ^ 31 by omega), hq v hvn, hr k (Nat.le_refl k)]
            refine go rfl ⟨_, _, _, _, _, rfl, rfl, (vp_in_nI (show lad n (stepP N ch kd) t a D k < 60 by omega) (by omega)), ?_⟩
            rw [nI_clamp (by omega), hq _ hl.1, (de_iff (show D - k ≤ E by omega)).mpr hl.2]
            show Rr 304 _ [mx_i (nI (D - k)), _] _ 0 0
            refine go rfl ?_
            refine go rfl ⟨_, _, _, rfl, ?_⟩
            rw [pk_sub (by omega), show D - k - 1 = D - (k + 1) by omega]
            refine go rfl ⟨_, _, _, rfl, fun e => ?_, fun e => ?_⟩
            · exact next (fun h => e (by rw [(de_iff (show D - (k + 1) ≤ E by omega)).mpr h.1]; rfl))
            have e := (de_iff (show D - (k + 1) ≤ E by omega)).mp ((oi_eq (by omega) (oi_b hE)).mp e)
            refine go rfl ⟨_, rfl, ?_⟩
            refine go rfl ⟨_, rfl, ?_⟩
            refine go rfl ⟨_, _, _, _, rfl, rfl, rfl, ?_⟩
            refine go rfl ⟨_, rfl, ?_⟩
            refine go rfl ⟨_, _, _, _, _, rfl, rfl, (vp_in_nI (show k < 60 by omega) (by omega)), ?_⟩
            rw [nI_clamp (by omega), hr k (Nat.le_refl k)]
            refine go rfl ⟨_, rfl, ?_⟩
            refine go rfl ⟨_, rfl, ?_⟩
            refine go rfl ⟨_, _, _, _, _, _, rfl, rfl, rfl, rfl, rfl, ⟨_, _, _, _, _, _, _, n, N, ch, lt, ml, _, v, kd, rfl, rfl, rfl, rfl, hw, hl.1, hvn, hk, fun hs => ?_, fun hs => ?_⟩⟩
            · refine go rfl ⟨_, _, rfl, fun e2 => ?_, fun e2 => ?_⟩
              rotate_left
              · exact absurd e2 (by decide)
              refine go rfl ⟨_, rfl, ?_⟩
              refine go rfl ⟨_, _, _, _, rfl, rfl, rfl, ?_⟩
              refine go rfl ⟨_, rfl, ?_⟩
              refine go rfl ?_
              refine go rfl ⟨_, _, _, rfl, ?_⟩
              rw [nI_add]
              refine go rfl ⟨_, rfl, ?_⟩
              refine go rfl ⟨_, _, _, _, _, _, rfl, rfl, (vp_in_nI (show k + 1 < 60 by omega) (by omega)), ?_⟩
              rw [nI_clamp (by omega), mx_pc _ _ _ (show (44 : Nat) ≠ 46 by decide), mx_pc _ _ _ (show (44 : Nat) ≠ 45 by decide), mx_pp]
              refine go rfl ⟨_, rfl, ?_⟩
              refine go rfl ?_
              rw [nI_add]
              refine ih (k + 1) _ _ _ _ (by omega) (fun q hq2 => ?_)
              by_cases eq : q = k + 1
              · rw [eq, pk_us]
                exact congrArg nI (lst_eq (Q := fun v => de n (stepP N ch kd) t (D - (k + 1)) v = some (D - (k + 1)) ∧ (stepP N ch kd) (lad n (stepP N ch kd) t a D k) v) ⟨e, hs⟩ hno n hvn).symm
              · rw [pk_un eq]
                exact hr q (by omega)
            · refine go rfl ⟨_, _, rfl, fun e2 => ?_, fun e2 => ?_⟩
              · exact absurd rfl e2
              · exact next (fun h => hs h.2)
        refine go rfl ?_
        refine go rfl ⟨_, _, rfl, ?_⟩
        exact find n 0 (by omega) (fun u hu => absurd hu (Nat.not_lt_zero u))
    -- the levels
    have level : ∀ (m d mo : Nat) (fa' : Nat → Int32) (ca' : Nat → Int64) (j6 j7 : Option mx_V), d + m = n → mo ≤ 1 → (mo = 1 → ∃ v, v < n ∧ de n (stepP N ch kd) t d v = some d) → (mo = 0 → ∀ v, v < n → ¬ de n (stepP N ch kd) t d v = some d) → (∀ w, w < n → fa' w = oi (de n (stepP N ch kd) t d w)) → Rr 97 [some (mx_r 40), some (mx_i (nI a)), some (mx_i (nI t)), some (mx_i (nI kd)), some (mx_i (nI mo)), some (mx_i (nI d)), j6, j7] [] (mx_put (mx_put (mx_put (mx_put (mx_put (mx_put F 42 (mx_ia 360 lt)) 43 (mx_ia 60 ml)) 40 (e_M (nI 0) sz (nI n) (-1) wy kp sd)) 44 (mx_ia 60 la)) 45 (mx_ia 60 fa')) 46 (mx_la 60 ca')) 0 0 := by
      intro m
      induction m with
      | zero =>
        intro d mo fa' ca' j6 j7 hd hmo h1 h2 hq
        have hmo0 : mo = 0 := by
          rcases Nat.eq_zero_or_pos mo with q | q
          · exact q
          · obtain ⟨v, q1, q2⟩ := h1 (by omega)
            have := de_lt q1 q2
            omega
        have h2 := h2 hmo0
        subst hmo0
        refine go rfl ⟨_, rfl, ?_⟩
        refine go rfl ⟨_, _, rfl, fun e => ?_, fun e => ?_⟩
        rotate_left
        · exact absurd rfl e
        refine go rfl ⟨_, rfl, ?_⟩
        refine go rfl ⟨_, _, _, _, rfl, rfl, rfl, ?_⟩
        refine go rfl ⟨_, rfl, ?_⟩
        refine go rfl ⟨_, _, _, _, _, rfl, rfl, (vp_in_nI (show a < 60 by omega) (by omega)), ?_⟩
        rw [nI_clamp (by omega), hq a ha]
        cases hda : de n (stepP N ch kd) t d a with
        | none =>
          refine go rfl ⟨_, _, rfl, fun e2 => ?_, fun e2 => ?_⟩
          · exact absurd e2 (by decide)
          refine go rfl ?_
          refine go rfl ⟨_, rfl, rfl, rfl, ?_⟩
          rw [hB, mx_self (F := mx_put F 40 (e_M (nI 0) sz (nI n) (-1) wy kp sd)) (k := 44) h44]
          refine ho.1 ?_ fa' ca'
          have hdn : d = n := by omega
          rw [hdn] at hda
          exact de_fin hda
        | some D =>
          have hDd := de_le hda
          have hDn := de_lt ha hda
          refine go rfl ⟨_, _, rfl, fun e2 => ?_, fun e2 => ?_⟩
          rotate_left
          · exact absurd (nI_pos' (by omega)) e2
          refine go rfl ⟨_, rfl, ?_⟩
          refine go rfl ⟨_, rfl, ?_⟩
          refine go rfl ⟨_, _, _, _, rfl, rfl, rfl, ?_⟩
          refine go rfl ⟨_, rfl, ?_⟩
          refine go rfl ⟨_, _, _, _, _, rfl, rfl, (vp_in_nI (show a < 60 by omega) (by omega)), ?_⟩
          rw [nI_clamp (by omega), hq a ha, hda]
          refine go rfl ⟨_, _, _, _, rfl, rfl, (Nat.le_of_ble_eq_true rfl), ?_⟩
          rw [mx_pc _ _ _ (show (40 : Nat) ≠ 46 by decide), mx_pc _ _ _ (show (40 : Nat) ≠ 45 by decide), mx_pc _ _ _ (show (40 : Nat) ≠ 44 by decide), mx_pp]
          refine go rfl ⟨_, rfl, ?_⟩
          refine go rfl ⟨_, rfl, ?_⟩
          refine go rfl ⟨_, _, _, _, rfl, rfl, rfl, ?_⟩
          refine go rfl ⟨_, rfl, ?_⟩
          refine go rfl ⟨_, _, _, _, _, rfl, rfl, (vp_in_nI (show a < 60 by omega) (by omega)), ?_⟩
          refine go rfl ⟨_, _, _, _, rfl, rfl, (Nat.le_of_ble_eq_true rfl), ?_⟩
          rw [mx_pc _ _ _ (show (40 : Nat) ≠ 46 by decide), mx_pc _ _ _ (show (40 : Nat) ≠ 45 by decide), mx_pc _ _ _ (show (40 : Nat) ≠ 44 by decide), mx_pp]
          refine go rfl ⟨_, rfl, ?_⟩
          refine go rfl ⟨_, _, _, _, rfl, rfl, rfl, ?_⟩
          refine go rfl ?_
          refine go rfl ⟨_, rfl, ?_⟩
          refine go rfl ⟨_, _, _, _, _, _, rfl, rfl, (vp_in_nI (show 0 < 60 by omega) (by omega)), ?_⟩
          rw [nI_clamp (show 0 < 2 ^ 31 by omega), mx_pc _ _ _ (show (44 : Nat) ≠ 46 by decide), mx_pc _ _ _ (show (44 : Nat) ≠ 45 by decide), mx_pp]
          refine go rfl ?_
          refine go rfl ⟨_, _, rfl, ?_⟩
          refine climb D d _ fa' ca' hDd (by omega) (de_lv hda) hq D 0 _ _ _ _ (by omega) (fun q hq2 => ?_)
          rw [show q = 0 by omega, pk_us]
          rfl
      | succ m ih =>
        intro d mo fa' ca' j6 j7 hd hmo h1 h2 hq
        have hq6 : d < 60 := by omega
        refine go rfl ⟨_, rfl, ?_⟩
        refine go rfl ⟨_, _, rfl, fun e => ?_, fun e => ?_⟩
        · have hmo0 : mo = 0 := (nI_eq (b := 0) (by omega) (by omega)).mp e
          have h2 := h2 hmo0
          refine go rfl ⟨_, rfl, ?_⟩
          refine go rfl ⟨_, _, _, _, rfl, rfl, rfl, ?_⟩
          refine go rfl ⟨_, rfl, ?_⟩
          refine go rfl ⟨_, _, _, _, _, rfl, rfl, (vp_in_nI (show a < 60 by omega) (by omega)), ?_⟩
          rw [nI_clamp (by omega), hq a ha]
          cases hda : de n (stepP N ch kd) t d a with
          | none =>
            refine go rfl ⟨_, _, rfl, fun e2 => ?_, fun e2 => ?_⟩
            · exact absurd e2 (by decide)
            refine go rfl ?_
            refine go rfl ⟨_, rfl, rfl, rfl, ?_⟩
            rw [hB, mx_self (F := mx_put F 40 (e_M (nI 0) sz (nI n) (-1) wy kp sd)) (k := 44) h44]
            refine ho.1 (fun e => ?_) fa' ca'
            rcases Nat.lt_or_ge e d with r | r
            · cases hx : de n (stepP N ch kd) t e a with
              | none => rfl
              | some k =>
                rw [de_mono hx d (by omega)] at hda
                cases hda
            · rw [de_stab h2 e r a]
              exact hda
          | some D =>
            have hDd := de_le hda
            have hDn := de_lt ha hda
            refine go rfl ⟨_, _, rfl, fun e2 => ?_, fun e2 => ?_⟩
            rotate_left
            · exact absurd (nI_pos' (by omega)) e2
            refine go rfl ⟨_, rfl, ?_⟩
            refine go rfl ⟨_, rfl, ?_⟩
            refine go rfl ⟨_, _, _, _, rfl, rfl, rfl, ?_⟩
            refine go rfl ⟨_, rfl, ?_⟩
            refine go rfl ⟨_, _, _, _, _, rfl, rfl, (vp_in_nI (show a < 60 by omega) (by omega)), ?_⟩
            rw [nI_clamp (by omega), hq a ha, hda]
            refine go rfl ⟨_, _, _, _, rfl, rfl, (Nat.le_of_ble_eq_true rfl), ?_⟩
            rw [mx_pc _ _ _ (show (40 : Nat) ≠ 46 by decide), mx_pc _ _ _ (show (40 : Nat) ≠ 45 by decide), mx_pc _ _ _ (show (40 : Nat) ≠ 44 by decide), mx_pp]
            refine go rfl ⟨_, rfl, ?_⟩
            refine go rfl ⟨_, rfl, ?_⟩
            refine go rfl ⟨_, _, _, _, rfl, rfl, rfl, ?_⟩
            refine go rfl ⟨_, rfl, ?_⟩
            refine go rfl ⟨_, _, _, _, _, rfl, rfl, (vp_in_nI (show a < 60 by omega) (by omega)), ?_⟩
            refine go rfl ⟨_, _, _, _, rfl, rfl, (Nat.le_of_ble_eq_true rfl), ?_⟩
            rw [mx_pc _ _ _ (show (40 : Nat) ≠ 46 by decide), mx_pc _ _ _ (show (40 : Nat) ≠ 45 by decide), mx_pc _ _ _ (show (40 : Nat) ≠ 44 by decide), mx_pp]
            refine go rfl ⟨_, rfl, ?_⟩
            refine go rfl ⟨_, _, _, _, rfl, rfl, rfl, ?_⟩
            refine go rfl ?_
            refine go rfl ⟨_, rfl, ?_⟩
            refine go rfl ⟨_, _, _, _, _, _, rfl, rfl, (vp_in_nI (show 0 < 60 by omega) (by omega)), ?_⟩
            rw [nI_clamp (show 0 < 2 ^ 31 by omega), mx_pc _ _ _ (show (44 : Nat) ≠ 46 by decide), mx_pc _ _ _ (show (44 : Nat) ≠ 45 by decide), mx_pp]
            refine go rfl ?_
            refine go rfl ⟨_, _, rfl, ?_⟩
            refine climb D d _ fa' ca' hDd (by omega) (de_lv hda) hq D 0 _ _ _ _ (by omega) (fun q hq2 => ?_)
            rw [show q = 0 by omega, pk_us]
            rfl
        -- a level
        have rows : ∀ (p u w : Nat) (fa' : Nat → Int32) (ca' : Nat → Int64) (j7 : Option mx_V), u + p = n → w ≤ 1 → ((w = 1 → ∃ v, v < n ∧ po n (stepP N ch kd) t d (u) (0) v = some (d + 1)) ∧ (w = 0 → ∀ v, v < n → ¬ po n (stepP N ch kd) t d (u) (0) v = some (d + 1))) → (∀ v, v < n → fa' v = oi (po n (stepP N ch kd) t d u 0 v)) → Rr 108 [some (mx_r 40), some (mx_i (nI a)), some (mx_i (nI t)), some (mx_i (nI kd)), some (mx_i (nI w)), some (mx_i (nI d)), some (mx_i (nI u)), j7] [] (mx_put (mx_put (mx_put (mx_put (mx_put (mx_put F 42 (mx_ia 360 lt)) 43 (mx_ia 60 ml)) 40 (e_M (nI 0) sz (nI n) (-1) wy kp sd)) 44 (mx_ia 60 la)) 45 (mx_ia 60 fa')) 46 (mx_la 60 ca')) 0 0 := by
          intro p
          induction p with
          | zero =>
            intro u w fa' ca' j7 hu hw1 hv hq2
            have eu : u = n := by omega
            subst eu
            refine go rfl ⟨_, rfl, ?_⟩
            refine go rfl ⟨_, rfl, ?_⟩
            refine go rfl ⟨_, _, _, _, rfl, rfl, rfl, ?_⟩
            refine go rfl ⟨_, _, _, rfl, fun c => ?_, fun c => ?_⟩
            · refine go rfl ⟨_, rfl, ?_⟩
              refine go rfl ?_
              rw [nI_add]
              refine ih (d + 1) w fa' ca' _ _ (by omega) hw1 (fun h => ?_) (fun h v hv2 => ?_) (fun v hv2 => ?_)
              · obtain ⟨v, q1, q2⟩ := hv.1 h
                rw [po_n] at q2
                exact ⟨v, q1, q2⟩
              · have := hv.2 h v hv2
                rw [po_n] at this
                exact this
              · rw [hq2 v hv2, po_n]
            · exact absurd (nI_le (by omega) (by omega)) c
          | succ p ih2 =>
            intro u w fa' ca' j7 hu hw1 hv hq2
            have hun : u < n := by omega
            refine go rfl ⟨_, rfl, ?_⟩
            refine go rfl ⟨_, rfl, ?_⟩
            refine go rfl ⟨_, _, _, _, rfl, rfl, rfl, ?_⟩
            refine go rfl ⟨_, _, _, rfl, fun c => ?_, fun c => ?_⟩
            · exact absurd ((nI_leI (by omega) (by omega)).mp c) (by omega)
            refine go rfl ⟨_, rfl, ?_⟩
            refine go rfl ⟨_, _, _, _, rfl, rfl, rfl, ?_⟩
            refine go rfl ⟨_, rfl, ?_⟩
            refine go rfl ⟨_, _, _, _, _, rfl, rfl, (vp_in_nI (show u < 60 by omega) (by omega)), ?_⟩
            rw [nI_clamp (by omega), hq2 u hun]
            refine go rfl ⟨_, rfl, ?_⟩
            refine go rfl ⟨_, _, _, rfl, fun e1 => ?_, fun e1 => ?_⟩
            rotate_left
            · have e1 : ¬ de n (stepP N ch kd) t d u = some d := fun h => e1 (by rw [po_old h]; rfl)
              refine go rfl ?_
              refine go rfl ⟨_, rfl, ?_⟩
              refine go rfl ?_
              rw [nI_add]
              refine ih2 (u + 1) w fa' ca' _ (by omega) hw1 ⟨fun h => ?_, fun h v hv2 => ?_⟩ (fun v hv2 => ?_)
              · obtain ⟨v, q1, q2⟩ := hv.1 h
                rw [po_skip e1] at q2
                exact ⟨v, q1, q2⟩
              · rw [← po_skip e1]
                exact hv.2 h v hv2
              · rw [hq2 v hv2, po_skip e1]
            have e1 := po_d ((oi_eq (by omega) (po_b (by omega))).mp e1)
            have cols : ∀ (r b w : Nat) (fa' : Nat → Int32) (ca' : Nat → Int64), b + r = n → w ≤ 1 → ((w = 1 → ∃ v, v < n ∧ po n (stepP N ch kd) t d (u) (b) v = some (d + 1)) ∧ (w = 0 → ∀ v, v < n → ¬ po n (stepP N ch kd) t d (u) (b) v = some (d + 1))) → (∀ v, v < n → fa' v = oi (po n (stepP N ch kd) t d u b v)) → Rr 135 [some (mx_r 40), some (mx_i (nI a)), some (mx_i (nI t)), some (mx_i (nI kd)), some (mx_i (nI w)), some (mx_i (nI d)), some (mx_i (nI u)), some (mx_i (nI b))] [] (mx_put (mx_put (mx_put (mx_put (mx_put (mx_put F 42 (mx_ia 360 lt)) 43 (mx_ia 60 ml)) 40 (e_M (nI 0) sz (nI n) (-1) wy kp sd)) 44 (mx_ia 60 la)) 45 (mx_ia 60 fa')) 46 (mx_la 60 ca')) 0 0 := by
              intro r
              induction r with
              | zero =>
                intro b w fa' ca' hb hw1 hv hq3
                have eb : b = n := by omega
                subst eb
                refine go rfl ⟨_, rfl, ?_⟩
                refine go rfl ⟨_, rfl, ?_⟩
                refine go rfl ⟨_, _, _, _, rfl, rfl, rfl, ?_⟩
                refine go rfl ⟨_, _, _, rfl, fun c => ?_, fun c => ?_⟩
                · refine go rfl ⟨_, rfl, ?_⟩
                  refine go rfl ?_
                  rw [nI_add]
                  refine ih2 (u + 1) w fa' ca' _ (by omega) hw1 ⟨fun h => ?_, fun h v hv2 => ?_⟩ (fun v hv2 => ?_)
                  · obtain ⟨v, q1, q2⟩ := hv.1 h
                    rw [po_next q1] at q2
                    exact ⟨v, q1, q2⟩
                  · rw [← po_next hv2]
                    exact hv.2 h v hv2
                  · rw [hq3 v hv2, po_next hv2]
                · exact absurd (nI_le (by omega) (by omega)) c
              | succ r ih3 =>
                intro b w fa' ca' hb hw1 hv hq3
                have hbn : b < n := by omega
                refine go rfl ⟨_, rfl, ?_⟩
                refine go rfl ⟨_, rfl, ?_⟩
                refine go rfl ⟨_, _, _, _, rfl, rfl, rfl, ?_⟩
                refine go rfl ⟨_, _, _, rfl, fun c => ?_, fun c => ?_⟩
                · exact absurd ((nI_leI (by omega) (by omega)).mp c) (by omega)
                have skip : po n (stepP N ch kd) t d u (b + 1) b = po n (stepP N ch kd) t d u b b → Rr 214 [some (mx_r 40), some (mx_i (nI a)), some (mx_i (nI t)), some (mx_i (nI kd)), some (mx_i (nI w)), some (mx_i (nI d)), some (mx_i (nI u)), some (mx_i (nI b))] [] (mx_put (mx_put (mx_put (mx_put (mx_put (mx_put F 42 (mx_ia 360 lt)) 43 (mx_ia 60 ml)) 40 (e_M (nI 0) sz (nI n) (-1) wy kp sd)) 44 (mx_ia 60 la)) 45 (mx_ia 60 fa')) 46 (mx_la 60 ca')) 0 0 := by
                  intro hs
                  have same : ∀ v, po n (stepP N ch kd) t d u (b + 1) v = po n (stepP N ch kd) t d u b v := fun v => by
                    by_cases e : v = b
                    · rw [e, hs]
                    · rw [po_same e]
                  refine go rfl ⟨_, rfl, ?_⟩
                  refine go rfl ?_
                  rw [nI_add]
                  refine ih3 (b + 1) w fa' ca' (by omega) hw1 ⟨fun h => ?_, fun h v hv2 => ?_⟩ (fun v hv2 => ?_)
                  · obtain ⟨v, q1, q2⟩ := hv.1 h
                    exact ⟨v, q1, by rw [same]; exact q2⟩
                  · rw [same]
                    exact hv.2 h v hv2
                  · rw [same]
                    exact hq3 v hv2
                have op : de n (stepP N ch kd) t d b = none → Rr 168 [some (mx_r 40), some (mx_i (nI a)), some (mx_i (nI t)), some (mx_i (nI kd)), some (mx_i (nI w)), some (mx_i (nI d)), some (mx_i (nI u)), some (mx_i (nI b))] [] (mx_put (mx_put (mx_put (mx_put (mx_put (mx_put F 42 (mx_ia 360 lt)) 43 (mx_ia 60 ml)) 40 (e_M (nI 0) sz (nI n) (-1) wy kp sd)) 44 (mx_ia 60 la)) 45 (mx_ia 60 fa')) 46 (mx_la 60 ca')) 0 0 := by
                  intro hno
                  refine go rfl ⟨_, rfl, ?_⟩
                  refine go rfl ⟨_, rfl, ?_⟩
                  refine go rfl ⟨_, rfl, ?_⟩
                  refine go rfl ⟨_, rfl, ?_⟩
                  refine go rfl ⟨_, _, _, _, _, _, rfl, rfl, rfl, rfl, rfl, ⟨_, _, _, _, _, _, _, n, N, ch, lt, ml, u, b, kd, rfl, rfl, rfl, rfl, hw, hun, hbn, hk, fun hs => ?_, fun hs => ?_⟩⟩
                  · refine go rfl ⟨_, _, rfl, fun e => ?_, fun e => ?_⟩
                    rotate_left
                    · exact absurd e (by decide)
                    refine go rfl ⟨_, rfl, ?_⟩
                    refine go rfl ⟨_, _, _, _, rfl, rfl, rfl, ?_⟩
                    refine go rfl ⟨_, rfl, ?_⟩
                    refine go rfl ⟨_, rfl, ?_⟩
                    refine go rfl ?_
                    refine go rfl ⟨_, _, _, rfl, ?_⟩
                    rw [nI_add]
                    refine go rfl ⟨_, _, _, _, _, _, rfl, rfl, (vp_in_nI (show b < 60 by omega) (by omega)), ?_⟩
                    rw [nI_clamp (by omega), mx_pc _ _ _ (show (45 : Nat) ≠ 46 by decide), mx_pp]
                    refine go rfl ⟨_, rfl, ?_⟩
                    refine go rfl ⟨_, _, _, _, rfl, rfl, rfl, ?_⟩
                    refine go rfl ⟨_, rfl, ?_⟩
                    refine go rfl ⟨_, _, _, rfl, rfl, rfl, ?_⟩
                    refine go rfl ⟨_, _, _, _, _, rfl, rfl, (vp_in_nI (show b < 60 by omega) (by omega)), ?_⟩
                    refine go rfl ⟨_, rfl, ?_⟩
                    refine go rfl ⟨_, _, _, _, rfl, rfl, rfl, ?_⟩
                    refine go rfl ⟨_, rfl, ?_⟩
                    refine go rfl ⟨_, _, _, _, _, rfl, rfl, (vp_in_nI (show u < 60 by omega) (by omega)), ?_⟩
                    refine go rfl ⟨_, _, _, rfl, ?_⟩
                    refine go rfl ⟨_, _, _, _, _, _, rfl, rfl, (vp_in_nI (show b < 60 by omega) (by omega)), ?_⟩
                    rw [mx_pp]
                    refine go rfl ?_
                    refine go rfl ⟨_, _, rfl, ?_⟩
                    refine go rfl ⟨_, rfl, ?_⟩
                    refine go rfl ?_
                    rw [nI_add]
                    refine ih3 (b + 1) 1 _ _ (by omega) (by omega) ⟨fun _ => ⟨b, hbn, po_set hno e1 hs⟩, fun h => absurd h (by omega)⟩ (fun v hv2 => ?_)
                    by_cases ev : v = b
                    · rw [ev, pk_us, po_set hno e1 hs]
                      rfl
                    · rw [pk_un ev, po_same ev]
                      exact hq3 v hv2
                  · refine go rfl ⟨_, _, rfl, fun e => ?_, fun e => ?_⟩
                    · exact absurd rfl e
                    refine go rfl ?_
                    exact skip (po_nost hs)
                refine go rfl ⟨_, rfl, ?_⟩
                refine go rfl ⟨_, _, _, _, rfl, rfl, rfl, ?_⟩
                refine go rfl ⟨_, rfl, ?_⟩
                refine go rfl ⟨_, _, _, _, _, rfl, rfl, (vp_in_nI (show b < 60 by omega) (by omega)), ?_⟩
                rw [nI_clamp (by omega), hq3 b hbn]
                cases hdb : de n (stepP N ch kd) t d b with
                | some k =>
                  have hkd := de_le hdb
                  rw [po_old hdb]
                  refine go rfl ⟨_, _, rfl, fun e => ?_, fun e => ?_⟩
                  · exact absurd e (nI_pos (by omega))
                  refine go rfl ⟨_, rfl, ?_⟩
                  refine go rfl ⟨_, _, _, _, rfl, rfl, rfl, ?_⟩
                  refine go rfl ⟨_, rfl, ?_⟩
                  refine go rfl ⟨_, _, _, _, _, rfl, rfl, (vp_in_nI (show b < 60 by omega) (by omega)), ?_⟩
                  rw [nI_clamp (by omega), hq3 b hbn, po_old hdb]
                  refine go rfl ⟨_, rfl, ?_⟩
                  refine go rfl ?_
                  refine go rfl ⟨_, _, _, rfl, ?_⟩
                  rw [nI_add]
                  refine go rfl ⟨_, _, _, rfl, fun e2 => ?_, fun e2 => ?_⟩
                  · exact skip (by rw [po_old hdb, po_old hdb])
                  · have e2 := (nI_eq (by omega) (by omega)).mp e2
                    omega
                | none =>
                  rcases po_new (a := u) (b := b) hdb with q | q
                  · rw [q]
                    refine go rfl ⟨_, _, rfl, fun e => ?_, fun e => ?_⟩
                    · exact op hdb
                    · exact absurd (by decide) e
                  · rw [q]
                    refine go rfl ⟨_, _, rfl, fun e => ?_, fun e => ?_⟩
                    · exact absurd e (nI_pos (by omega))
                    refine go rfl ⟨_, rfl, ?_⟩
                    refine go rfl ⟨_, _, _, _, rfl, rfl, rfl, ?_⟩
                    refine go rfl ⟨_, rfl, ?_⟩
                    refine go rfl ⟨_, _, _, _, _, rfl, rfl, (vp_in_nI (show b < 60 by omega) (by omega)), ?_⟩
                    rw [nI_clamp (by omega), hq3 b hbn, q]
                    refine go rfl ⟨_, rfl, ?_⟩
                    refine go rfl ?_
                    refine go rfl ⟨_, _, _, rfl, ?_⟩
                    rw [nI_add]
                    refine go rfl ⟨_, _, _, rfl, fun e2 => ?_, fun e2 => ?_⟩
                    · exact absurd rfl e2
                    · exact op hdb
            refine go rfl ?_
            refine go rfl ⟨_, _, rfl, ?_⟩
            exact cols n 0 w fa' ca' (by omega) hw1 hv hq2
        refine go rfl ?_
        refine go rfl ⟨_, _, rfl, ?_⟩
        refine go rfl ?_
        refine go rfl ⟨_, _, rfl, ?_⟩
        refine rows n 0 0 fa' ca' _ (by omega) (by omega) ⟨fun h => absurd h (by omega), fun _ v hv2 h => ?_⟩ (fun v hv2 => ?_)
        · rw [po_0] at h
          have := de_le h
          omega
        · rw [hq v hv2, po_0]
    have clear : ∀ (m v : Nat) (fa' : Nat → Int32) (ca' : Nat → Int64) (j5 j6 j7 : Option mx_V), v + m = n → (∀ w, w < v → fa' w = oi (de n (stepP N ch kd) t 0 w)) → Rr 40 [some (mx_r 40), some (mx_i (nI a)), some (mx_i (nI t)), some (mx_i (nI kd)), some (mx_i (nI v)), j5, j6, j7] [] (mx_put (mx_put (mx_put (mx_put (mx_put (mx_put F 42 (mx_ia 360 lt)) 43 (mx_ia 60 ml)) 40 (e_M (nI 0) sz (nI n) (-1) wy kp sd)) 44 (mx_ia 60 la)) 45 (mx_ia 60 fa')) 46 (mx_la 60 ca')) 0 0 := by
      intro m
      induction m with
      | zero =>
        intro v fa' ca' j5 j6 j7 hv hq
        refine go rfl ⟨_, rfl, ?_⟩
        refine go rfl ⟨_, rfl, ?_⟩
        refine go rfl ⟨_, _, _, _, rfl, rfl, rfl, ?_⟩
        refine go rfl ⟨_, _, _, rfl, fun c => ?_, fun c => ?_⟩
        · refine go rfl ?_
          refine go rfl ⟨_, _, rfl, ?_⟩
          refine go rfl ?_
          refine go rfl ⟨_, _, rfl, ?_⟩
          refine level n 0 1 fa' ca' _ _ (by omega) (by omega) (fun _ => ⟨t, ht, by rw [de_0, if_pos rfl]⟩) (fun h => absurd h (by omega)) (fun w hw2 => hq w (by omega))
        · exact absurd (nI_le (by omega) (by omega)) c
      | succ m ih =>
        intro v fa' ca' j5 j6 j7 hv hq
        refine go rfl ⟨_, rfl, ?_⟩
        refine go rfl ⟨_, rfl, ?_⟩
        refine go rfl ⟨_, _, _, _, rfl, rfl, rfl, ?_⟩
        refine go rfl ⟨_, _, _, rfl, fun c => ?_, fun c => ?_⟩
        · exact absurd ((nI_leI (by omega) (by omega)).mp c) (by omega)
        have fin : ∀ (y : Int32) (fa2 : Nat → Int32), y = oi (de n (stepP N ch kd) t 0 v) → (∀ w, w < v → fa2 w = oi (de n (stepP N ch kd) t 0 w)) → fa2 v = y → ∀ (c2 : Int64), Rr 84 [some (mx_r 40), some (mx_i (nI a)), some (mx_i (nI t)), some (mx_i (nI kd)), some (mx_i (nI v)), j5, j6, j7] [mx_l c2, mx_i (nI v), mx_r 46] (mx_put (mx_put (mx_put (mx_put (mx_put (mx_put F 42 (mx_ia 360 lt)) 43 (mx_ia 60 ml)) 40 (e_M (nI 0) sz (nI n) (-1) wy kp sd)) 44 (mx_ia 60 la)) 45 (mx_ia 60 fa2)) 46 (mx_la 60 ca')) 0 0 := by
          intro y fa2 hy h1 h2 c2
          refine go rfl ⟨_, _, _, _, _, _, rfl, rfl, (vp_in_nI (show v < 60 by omega) (by omega)), ?_⟩
          rw [mx_pp]
          refine go rfl ⟨_, rfl, ?_⟩
          refine go rfl ?_
          rw [nI_add]
          refine ih (v + 1) _ _ _ _ _ (by omega) (fun w hw2 => ?_)
          by_cases e : w = v
          · rw [e, h2, hy]
          · exact h1 w (by omega)
        have sto : ∀ (y : Int32), y = oi (de n (stepP N ch kd) t 0 v) → Rr 66 [some (mx_r 40), some (mx_i (nI a)), some (mx_i (nI t)), some (mx_i (nI kd)), some (mx_i (nI v)), j5, j6, j7] [mx_i y, mx_i (nI v), mx_r 45] (mx_put (mx_put (mx_put (mx_put (mx_put (mx_put F 42 (mx_ia 360 lt)) 43 (mx_ia 60 ml)) 40 (e_M (nI 0) sz (nI n) (-1) wy kp sd)) 44 (mx_ia 60 la)) 45 (mx_ia 60 fa')) 46 (mx_la 60 ca')) 0 0 := by
          intro y hy
          refine go rfl ⟨_, _, _, _, _, _, rfl, rfl, (vp_in_nI (show v < 60 by omega) (by omega)), ?_⟩
          rw [nI_clamp (by omega), mx_pc _ _ _ (show (45 : Nat) ≠ 46 by decide), mx_pp]
          refine go rfl ⟨_, rfl, ?_⟩
          refine go rfl ⟨_, _, _, _, rfl, rfl, rfl, ?_⟩
          refine go rfl ⟨_, rfl, ?_⟩
          refine go rfl ⟨_, rfl, ?_⟩
          refine go rfl ⟨_, rfl, ?_⟩
          have g := fin y (upd fa' v y) hy (fun w hw2 => by rw [pk_un (by omega)]; exact hq w hw2) pk_us
          refine go rfl ⟨_, _, _, rfl, fun e => ?_, fun e => ?_⟩
          · refine go rfl ?_
            exact g 0
          · refine go rfl ?_
            refine go rfl ?_
            exact g 1
        refine go rfl ⟨_, rfl, ?_⟩
        refine go rfl ⟨_, _, _, _, rfl, rfl, rfl, ?_⟩
        refine go rfl ⟨_, rfl, ?_⟩
        refine go rfl ⟨_, rfl, ?_⟩
        refine go rfl ⟨_, rfl, ?_⟩
        refine go rfl ⟨_, _, _, rfl, fun e => ?_, fun e => ?_⟩
        · have e : ¬ v = t := fun h => e (by rw [h])
          refine go rfl ?_
          exact sto _ (by rw [de_0, if_neg e]; rfl)
        · have e := (nI_eq (by omega) (by omega)).mp e
          refine go rfl ?_
          refine go rfl ?_
          exact sto _ (by rw [de_0, if_pos e]; rfl)
    refine go rfl ?_
    refine go rfl ⟨_, _, rfl, ?_⟩
    exact clear n 0 fa ca none none none (by omega) (fun w hw2 => absurd hw2 (Nat.not_lt_zero w))
  rw [hF]
  refine go rfl ⟨_, rfl, ?_⟩
  refine go rfl ?_
  refine go rfl ⟨_, _, _, _, rfl, rfl, (Nat.le_of_ble_eq_true rfl), ?_⟩
  refine go rfl ⟨_, rfl, ?_⟩
  refine go rfl ?_
  refine go rfl ⟨_, _, _, _, rfl, rfl, (Nat.le_of_ble_eq_true rfl), ?_⟩
  rw [mx_pc _ _ _ (show (40 : Nat) ≠ 46 by decide), mx_pc _ _ _ (show (40 : Nat) ≠ 45 by decide), mx_pc _ _ _ (show (40 : Nat) ≠ 44 by decide), mx_pp, mx_pc _ _ _ (show (40 : Nat) ≠ 46 by decide), mx_pc _ _ _ (show (40 : Nat) ≠ 45 by decide), mx_pc _ _ _ (show (40 : Nat) ≠ 44 by decide), mx_pp]
  refine go rfl ⟨_, rfl, ?_⟩
  refine go rfl ⟨_, rfl, ?_⟩
  refine go rfl ⟨_, _, _, _, rfl, rfl, rfl, rfl, rfl, ⟨_, _, _, _, _, _, n, x, rfl, rfl, fun c => ?_, fun c => ?_⟩⟩
  · refine go rfl ⟨_, _, rfl, fun e => ?_, fun e => ?_⟩
    · refine bad ?_
      rintro ⟨a, t, kd, q1, q2, q3, rfl, _⟩
      rcases c with c | c
      · exact nI_pos (by omega) c
      · exact absurd ((nI_leI (by omega) (by omega)).mp c) (by omega)
    · exact absurd rfl e
  refine go rfl ⟨_, _, rfl, fun e => ?_, fun e => ?_⟩
  · exact absurd e (by decide)
  refine go rfl ⟨_, rfl, ?_⟩
  refine go rfl ⟨_, rfl, ?_⟩
  refine go rfl ⟨_, _, _, _, rfl, rfl, rfl, rfl, rfl, ⟨_, _, _, _, _, _, n, y, rfl, rfl, fun c2 => ?_, fun c2 => ?_⟩⟩
  · refine go rfl ⟨_, _, rfl, fun e => ?_, fun e => ?_⟩
    · refine bad ?_
      rintro ⟨a', t, kd, q1, q2, q3, _, rfl, _⟩
      rcases c2 with c | c
      · exact nI_pos (by omega) c
      · exact absurd ((nI_leI (by omega) (by omega)).mp c) (by omega)
    · exact absurd rfl e
  refine go rfl ⟨_, _, rfl, fun e => ?_, fun e => ?_⟩
  · exact absurd e (by decide)
  rcases pk_ix x (n := n) (by omega) with q | q | ⟨a, ha, ex⟩
  · exact absurd (Or.inl q) c
  · exact absurd (Or.inr q) c
  rcases pk_ix y (n := n) (by omega) with q | q | ⟨t, ht, ey⟩
  · exact absurd (Or.inl q) c2
  · exact absurd (Or.inr q) c2
  refine go rfl ⟨_, rfl, ?_⟩
  refine go rfl ⟨_, _, rfl, fun c3 => ?_, fun c3 => ?_⟩
  · exact good a t 0 ha ht (by omega) ex ey c3
  refine go rfl ⟨_, rfl, ?_⟩
  refine go rfl ?_
  refine go rfl ⟨_, _, _, rfl, fun c4 => ?_, fun c4 => ?_⟩
  · exact good a t 1 ha ht (by omega) ex ey c4
  refine bad ?_
  rintro ⟨a', t', kd, q1, q2, q3, _, _, e⟩
  rcases (show kd = 0 ∨ kd = 1 by omega) with rfl | rfl
  · exact c3 e
  · exact c4 e
-- LadderWordsModel.step(I)I
def sp_M_step : mx_Sp := fun As F P => ∃ (th sz mn sp : Int32) (wy : Int64) (kp sd : Int32) (la : Nat → Int32) (x : Int32), As = [mx_r 40, mx_i x] ∧ F 44 = some (mx_ia 60 la) ∧ F 40 = some (e_M th sz mn sp wy kp sd) ∧ (sp = -1 ∨ ∃ D, D < 60 ∧ sp = nI D) ∧ (∀ D k, D < 60 → sp = nI D → k ≤ D → x = nI k → P (some (mx_i (la k))) (mx_put F 40 (e_M (nI 0) sz mn sp wy kp sd))) ∧ ((¬ ∃ D k, D < 60 ∧ sp = nI D ∧ k ≤ D ∧ x = nI k) → P (some (mx_i (-1))) (mx_put F 40 (e_M (nI 0) sz mn sp wy kp sd)))
theorem d_M_step_0 : decode c_M_step 0 = .ok (.aload_n 0, 1) := by decide +kernel
theorem d_M_step_1 : decode c_M_step 1 = .ok (.iconst 0, 1) := by decide +kernel
theorem d_M_step_2 : decode c_M_step 2 = .ok (.putfield 48, 3) := by decide +kernel
theorem d_M_step_5 : decode c_M_step 5 = .ok (.iload_n 1, 1) := by decide +kernel
theorem d_M_step_6 : decode c_M_step 6 = .ok (.ifCond .lt 20, 3) := by decide +kernel
theorem d_M_step_9 : decode c_M_step 9 = .ok (.iload_n 1, 1) := by decide +kernel
theorem d_M_step_10 : decode c_M_step 10 = .ok (.aload_n 0, 1) := by decide +kernel
theorem d_M_step_11 : decode c_M_step 11 = .ok (.getfield 19, 3) := by decide +kernel
theorem d_M_step_14 : decode c_M_step 14 = .ok (.if_icmp .gt 12, 3) := by decide +kernel
theorem d_M_step_17 : decode c_M_step 17 = .ok (.aload_n 0, 1) := by decide +kernel
theorem d_M_step_18 : decode c_M_step 18 = .ok (.getfield 23, 3) := by decide +kernel
theorem d_M_step_21 : decode c_M_step 21 = .ok (.iload_n 1, 1) := by decide +kernel
theorem d_M_step_22 : decode c_M_step 22 = .ok (.iaload, 1) := by decide +kernel
theorem d_M_step_23 : decode c_M_step 23 = .ok (.goto 4, 3) := by decide +kernel
theorem d_M_step_26 : decode c_M_step 26 = .ok (.iconst (-1), 1) := by decide +kernel
theorem d_M_step_27 : decode c_M_step 27 = .ok (.ireturn, 1) := by decide +kernel
abbrev w_M_step : List Cond := mx_ws y_M_step c_M_step 2 (some .int)
abbrev rm_M_step : Room := { frames := 10, cells := 0, slots := 0, locals := 200 }
def t_M_step  (P : Option mx_V → mx_F → Prop) : List (Nat × mx_O) := [
  (0, mx_aload 0 1),
  (1, mx_push (.inl (nI 0)) 2),
  (2, mx_puti 7 0 5),
  (5, mx_iload 1 6),
  (6, mx_if_lt 26 9),
  (9, mx_iload 1 10),
  (10, mx_aload 0 11),
  (11, mx_get 7 6 14),
  (14, mx_ic_gt 26 17),
  (17, mx_aload 0 18),
  (18, mx_get 7 7 21),
  (21, mx_iload 1 22),
  (22, mx_iald 23),
  (23, mx_goto 27),
  (26, mx_push (.inl (-1)) 27),
  (27, mx_iret P)]
set_option maxRecDepth 20000 in
theorem a_M_step  {p : Program} {l : Launch} {e : Env} {s : State} {m : MethodId} {args : Array Value} {below : List Frame} {meth : Method} {c : Code} {D : va_G} {tc : Nat → ClassId} {tb : Nat → Nat} {sz : Nat} {a0 : Nat → Nat} {G : mx_F} {P : Option mx_V → mx_F → Prop}  (C : mx_C p s m args c c_M_step y_M_step.cls w_M_step D tc tb (mx_A a0 G sz) 2 (mx_Ok0 a0 G)) (hr : meth.sig.returnType = (some .int)) (hlk : meth.locks = false) : mx_all (mx_W p l e rm_M_step s m args below meth c (MQ below (mx_Q D tc tb a0 G sz P) args s 0 0 (mx_A a0 G sz)) D tc tb (mx_A a0 G sz) 2 (mx_Ok0 a0 G)) (t_M_step  P) :=
  ⟨mx_s_aload_n C d_M_step_0 rfl,
  mx_s_iconst C d_M_step_1 (by decide),
  mx_s_puti (T := T_M) (N := 18) (k := 0) C (fun w h => List.mem_cons_of_mem _ (in_M w h)) rfl ty_M ok_M nm_M (by decide) (List.mem_cons_of_mem _ fk_M_48) rfl rfl (ok_M 0 (by decide)) d_M_step_2,
  mx_s_iload_n C d_M_step_5 rfl,
  mx_s_if_lt C d_M_step_6 (by decide),
  mx_s_iload_n C d_M_step_9 rfl,
  mx_s_aload_n C d_M_step_10 rfl,
  mx_s_get (T := T_M) (N := 18) (k := 6) C (fun w h => List.mem_cons_of_mem _ (in_M w h)) rfl (by decide) (List.mem_cons_of_mem _ fk_M_19) rfl d_M_step_11,
  mx_s_ic_gt C d_M_step_14 (by decide),
  mx_s_aload_n C d_M_step_17 rfl,
  mx_s_get (T := T_M) (N := 18) (k := 7) C (fun w h => List.mem_cons_of_mem _ (in_M w h)) rfl (by decide) (List.mem_cons_of_mem _ fk_M_23) rfl d_M_step_18,
  mx_s_iload_n C d_M_step_21 rfl,
  mx_s_iald C d_M_step_22,
  mx_s_goto C d_M_step_23 (by decide),
  mx_s_iconst C d_M_step_26 (by decide),
  mx_s_iret C hr hlk d_M_step_27,
  trivial⟩
set_option maxRecDepth 20000 in
set_option maxHeartbeats 2000000 in
theorem m_M_step (l : Launch) : mx_M l y_M_step w_M_step rm_M_step sp_M_step := by
  intro zD ztc ztb zad As F P sz0 h
  obtain ⟨th, sz, mn, sp, wy, kp, sd, la, x, rfl, h44, h0, hsp, ho, hz⟩ := h
  refine mx_run (cc := c_M_step) (maxL := 2) (ret := (some .int)) (tab := t_M_step  P) (by decide) rfl zD ztc ztb zad _ F P sz0 (Nat.le_of_ble_eq_true rfl) (fun p e s m args below meth c C hr hlk => a_M_step  C hr hlk) ?_
  intro Rr go
  have hF := mx_as2 h44 h0
  have hX := mx_as1 h44
  rw [hF]
  have z : (¬ ∃ D k, D < 60 ∧ sp = nI D ∧ k ≤ D ∧ x = nI k) → Rr 26 (mx_en [mx_r 40, mx_i x] 2) [] (mx_put (mx_put F 44 (mx_ia 60 la)) 40 (e_M (nI 0) sz mn sp wy kp sd)) 0 0 := by
    intro h
    refine go rfl ?_
    refine go rfl ⟨_, rfl, rfl, rfl, ?_⟩
    rw [← hX]
    exact hz h
  refine go rfl ⟨_, rfl, ?_⟩
  refine go rfl ?_
  refine go rfl ⟨_, _, _, _, rfl, rfl, (Nat.le_of_ble_eq_true rfl), ?_⟩
  rw [mx_pp]
  refine go rfl ⟨_, rfl, ?_⟩
  refine go rfl ⟨_, _, rfl, fun c1 => ?_, fun c1 => ?_⟩
  · refine z ?_
    rintro ⟨D, k, q1, q2, q3, rfl⟩
    exact nI_pos (by omega) c1
  obtain ⟨k, hk, rfl⟩ := nI_of c1
  refine go rfl ⟨_, rfl, ?_⟩
  refine go rfl ⟨_, rfl, ?_⟩
  refine go rfl ⟨_, _, _, _, rfl, rfl, rfl, ?_⟩
  refine go rfl ⟨_, _, _, rfl, fun c2 => ?_, fun c2 => ?_⟩
  · refine z ?_
    rintro ⟨D, k', q1, q2, q3, e⟩
    have e := (nI_eq hk (by omega)).mp e
    subst e
    rw [q2] at c2
    exact absurd ((nI_ltI (by omega) (by omega)).mp c2) (by omega)
  rcases hsp with rfl | ⟨D, hD, rfl⟩
  · exfalso
    refine c2 ?_
    rw [Int32.lt_iff_toInt_lt, nI_toInt hk]
    have : (-1 : Int32).toInt = -1 := by decide
    omega
  have hkD : k ≤ D := by
    rcases Nat.lt_or_ge D k with q | q
    · exact absurd (nI_lt q (by omega)) c2
    · exact q
  refine go rfl ⟨_, rfl, ?_⟩
  refine go rfl ⟨_, _, _, _, rfl, rfl, rfl, ?_⟩
  refine go rfl ⟨_, rfl, ?_⟩
  refine go rfl ⟨_, _, _, _, _, rfl, rfl, (vp_in_nI (show k < 60 by omega) (by omega)), ?_⟩
  rw [nI_clamp (by omega)]
  refine go rfl ?_
  refine go rfl ⟨_, rfl, rfl, rfl, ?_⟩
  rw [← hX]
  exact ho D k hD rfl hkD rfl
-- LadderWordsModel.ways()J
def sp_M_ways : mx_Sp := fun As F P => ∃ (th sz mn sp : Int32) (wy : Int64) (kp sd : Int32), As = [mx_r 40] ∧ F 40 = some (e_M th sz mn sp wy kp sd) ∧ ∀ v : Int64, P (some (mx_l v)) (mx_put F 40 (e_M (nI 0) sz mn sp wy kp sd))
theorem d_M_ways_0 : decode c_M_ways 0 = .ok (.aload_n 0, 1) := by decide +kernel
theorem d_M_ways_1 : decode c_M_ways 1 = .ok (.iconst 0, 1) := by decide +kernel
theorem d_M_ways_2 : decode c_M_ways 2 = .ok (.putfield 48, 3) := by decide +kernel
theorem d_M_ways_5 : decode c_M_ways 5 = .ok (.aload_n 0, 1) := by decide +kernel
theorem d_M_ways_6 : decode c_M_ways 6 = .ok (.getfield 19, 3) := by decide +kernel
theorem d_M_ways_9 : decode c_M_ways 9 = .ok (.ifCond .ge 7, 3) := by decide +kernel
theorem d_M_ways_12 : decode c_M_ways 12 = .ok (.lconst 0, 1) := by decide +kernel
theorem d_M_ways_13 : decode c_M_ways 13 = .ok (.goto 7, 3) := by decide +kernel
theorem d_M_ways_16 : decode c_M_ways 16 = .ok (.aload_n 0, 1) := by decide +kernel
theorem d_M_ways_17 : decode c_M_ways 17 = .ok (.getfield 89, 3) := by decide +kernel
theorem d_M_ways_20 : decode c_M_ways 20 = .ok (.lreturn, 1) := by decide +kernel
abbrev w_M_ways : List Cond := mx_ws y_M_ways c_M_ways 1 (some .long)
abbrev rm_M_ways : Room := { frames := 10, cells := 0, slots := 0, locals := 200 }
def t_M_ways  (P : Option mx_V → mx_F → Prop) : List (Nat × mx_O) := [
  (0, mx_aload 0 1),
  (1, mx_push (.inl (nI 0)) 2),
  (2, mx_puti 7 0 5),
  (5, mx_aload 0 6),
  (6, mx_get 7 6 9),
  (9, mx_if_ge 16 12),
  (12, mx_push (.inr (.inl 0)) 13),
  (13, mx_goto 20),
  (16, mx_aload 0 17),
  (17, mx_get 7 8 20),
  (20, mx_lret P)]
set_option maxRecDepth 20000 in
theorem a_M_ways  {p : Program} {l : Launch} {e : Env} {s : State} {m : MethodId} {args : Array Value} {below : List Frame} {meth : Method} {c : Code} {D : va_G} {tc : Nat → ClassId} {tb : Nat → Nat} {sz : Nat} {a0 : Nat → Nat} {G : mx_F} {P : Option mx_V → mx_F → Prop}  (C : mx_C p s m args c c_M_ways y_M_ways.cls w_M_ways D tc tb (mx_A a0 G sz) 1 (mx_Ok0 a0 G)) (hr : meth.sig.returnType = (some .long)) (hlk : meth.locks = false) : mx_all (mx_W p l e rm_M_ways s m args below meth c (MQ below (mx_Q D tc tb a0 G sz P) args s 0 0 (mx_A a0 G sz)) D tc tb (mx_A a0 G sz) 1 (mx_Ok0 a0 G)) (t_M_ways  P) :=
  ⟨mx_s_aload_n C d_M_ways_0 rfl,
  mx_s_iconst C d_M_ways_1 (by decide),
  mx_s_puti (T := T_M) (N := 18) (k := 0) C (fun w h => List.mem_cons_of_mem _ (in_M w h)) rfl ty_M ok_M nm_M (by decide) (List.mem_cons_of_mem _ fk_M_48) rfl rfl (ok_M 0 (by decide)) d_M_ways_2,
  mx_s_aload_n C d_M_ways_5 rfl,
  mx_s_get (T := T_M) (N := 18) (k := 6) C (fun w h => List.mem_cons_of_mem _ (in_M w h)) rfl (by decide) (List.mem_cons_of_mem _ fk_M_19) rfl d_M_ways_6,
  mx_s_if_ge C d_M_ways_9 (by decide),
  mx_s_lconst C d_M_ways_12 (by decide),
  mx_s_goto C d_M_ways_13 (by decide),
  mx_s_aload_n C d_M_ways_16 rfl,
  mx_s_get (T := T_M) (N := 18) (k := 8) C (fun w h => List.mem_cons_of_mem _ (in_M w h)) rfl (by decide) (List.mem_cons_of_mem _ fk_M_89) rfl d_M_ways_17,
  mx_s_lret C hr hlk d_M_ways_20,
  trivial⟩
set_option maxRecDepth 20000 in
set_option maxHeartbeats 2000000 in
theorem m_M_ways (l : Launch) : mx_M l y_M_ways w_M_ways rm_M_ways sp_M_ways := by
  intro zD ztc ztb zad As F P sz0 h
  obtain ⟨th, sz, mn, sp, wy, kp, sd, rfl, h0, hp⟩ := h
  refine mx_run (cc := c_M_ways) (maxL := 1) (ret := (some .long)) (tab := t_M_ways  P) (by decide) rfl zD ztc ztb zad _ F P sz0 (Nat.le_of_ble_eq_true rfl) (fun p e s m args below meth c C hr hlk => a_M_ways  C hr hlk) ?_
  intro Rr go
  have hF := mx_as1 h0
  rw [hF]
  refine go rfl ⟨_, rfl, ?_⟩
  refine go rfl ?_
  refine go rfl ⟨_, _, _, _, rfl, rfl, (Nat.le_of_ble_eq_true rfl), ?_⟩
  rw [mx_pp]
  refine go rfl ⟨_, rfl, ?_⟩
  refine go rfl ⟨_, _, _, _, rfl, rfl, rfl, ?_⟩
  refine go rfl ⟨_, _, rfl, fun c => ?_, fun c => ?_⟩
  · refine go rfl ⟨_, rfl, ?_⟩
    refine go rfl ⟨_, _, _, _, rfl, rfl, rfl, ?_⟩
    refine go rfl ⟨_, rfl, rfl, rfl, ?_⟩
    exact hp wy
  · refine go rfl ?_
    refine go rfl ?_
    refine go rfl ⟨_, rfl, rfl, rfl, ?_⟩
    exact hp 0
