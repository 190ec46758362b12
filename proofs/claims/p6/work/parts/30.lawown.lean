/-! THE LAW: its own steps, its table -/
def mx_aloadT (i nx : Nat) : mx_O := fun lv st F ca sl K => ∃ t : Nat, lv[i]? = some (some (.inr (.inr (.inr t)))) ∧ K nx lv (.inr (.inr (.inr t)) :: st) F ca sl
def mx_slen (L nx : Nat) : mx_O := fun lv st F ca sl K => ∃ r : mx_S, st = mx_tb 9 :: r ∧ K nx lv (.inl (nI L) :: r) F ca sl
def mx_sld (L : Nat) (xs : Nat → Int32) (nx : Nat) : mx_O := fun lv st F ca sl K => ∃ (i : Int32) (r : mx_S), st = .inl i :: mx_tb 9 :: r ∧ vp_in i L ∧ K nx lv (.inl (xs i.toNatClampNeg) :: r) F ca sl
def law_tg (k : Nat) : Nat := match k with
  | 0 => 112
  | 1 => 135
  | 2 => 148
  | 3 => 181
  | 4 => 224
  | 5 => 247
  | 6 => 260
  | 7 => 283
  | 8 => 316
  | 9 => 339
  | 10 => 362
  | 11 => 415
  | 12 => 468
  | 13 => 501
  | 14 => 524
  | _ => 557
def mx_tsw (tg : Nat → Nat) : mx_O := fun lv st F ca sl K => ∃ (k : Nat) (r : mx_S), st = .inl (nI k) :: r ∧ k < 16 ∧ K (tg k) lv r F ca sl
def mx_pop2 (nx : Nat) : mx_O := fun lv st F ca sl K => ∃ (v : mx_V) (r : mx_S), st = v :: r ∧ mx_cat v = 2 ∧ K nx lv r F ca sl
def mx_law : mx_O := fun _ st _ ca sl _ => st = [.inl (nI 1)] ∧ Nat.ble ca 600000 = true ∧ Nat.ble sl 7302250 = true
section MXL
variable {p : Program} {l : Launch} {e : Env} {R : Room} {s : State} {m : MethodId} {args : Array Value} {below : List Frame} {meth : Method} {c : Code} {Q : State → Prop} {cc : ByteArray} {own : String} {Ts : List Cond} {D : va_G} {tc : Nat → ClassId} {tb : Nat → Nat} {A : Nat → Prop} {nL : Nat} {Ok : (Nat → Nat) → mx_F → Prop} {pc : Nat}
theorem mx_s_aloadT (C : mx_C p s m args c cc own Ts D tc tb A nL Ok) {k : Fin 4} {i : Nat} (hd : decode cc pc = .ok (.aload_n k, 1)) (hi : (k : Nat) = i) : mx_So (mx_W p l e R s m args below meth c Q D tc tb A nL Ok) pc (mx_aloadT i (pc + 1)) := by
  obtain ⟨hx, hb, hml, hown, hts, hK, hA, hZ, hOk⟩ := C
  intro lv st F ca sl h
  obtain ⟨t, hv, h⟩ := h
  intro ad H locs ls h1 hP hD hS hl
  exact lv_aload_n hx hb hd hi (hl.at hv) (h ad H locs ls h1 hP hD hS hl)
theorem mx_s_pop2 (C : mx_C p s m args c cc own Ts D tc tb A nL Ok) (hd : decode cc pc = .ok (.pop2, 1)) : mx_So (mx_W p l e R s m args below meth c Q D tc tb A nL Ok) pc (mx_pop2 (pc + 1)) := by
  obtain ⟨hx, hb, hml, hown, hts, hK, hA, hZ, hOk⟩ := C
  intro lv st F ca sl h
  obtain ⟨v, r, rfl, hv, h⟩ := h
  intro ad H locs ls h1 hP hD hS hl
  exact lv_pop2_2 hx hb hd ((mx_cat_v ad tb v).trans hv) (h ad H locs ls h1 hP hD hS hl)
theorem mx_s_slen (C : mx_C p s m args c cc own Ts D tc tb A nL Ok) {L : Nat} {xs : Nat → Int32} (hX : va_X (tb 9) L xs s s.heap) (hbl : tb 9 < s.heap.size) (hbA : ¬ A (tb 9)) (hd : decode cc pc = .ok (.arraylength, 1)) : mx_So (mx_W p l e R s m args below meth c Q D tc tb A nL Ok) pc (mx_slen L (pc + 1)) := by
  obtain ⟨hx, hb, hml, hown, hts, hK, hA, hZ, hOk⟩ := C
  intro lv st F ca sl h
  obtain ⟨r, rfl, h⟩ := h
  intro ad H locs ls h1 hP hD hS hl
  exact va_slen hx hb hX hbl hbA hS hd (h ad H locs ls h1 hP hD hS hl)
theorem mx_s_sld (C : mx_C p s m args c cc own Ts D tc tb A nL Ok) {L : Nat} {xs : Nat → Int32} (hX : va_X (tb 9) L xs s s.heap) (hbl : tb 9 < s.heap.size) (hbA : ¬ A (tb 9)) (hd : decode cc pc = .ok (.iaload, 1)) : mx_So (mx_W p l e R s m args below meth c Q D tc tb A nL Ok) pc (mx_sld L xs (pc + 1)) := by
  obtain ⟨hx, hb, hml, hown, hts, hK, hA, hZ, hOk⟩ := C
  intro lv st F ca sl h
  obtain ⟨i, r, rfl, hin, h⟩ := h
  intro ad H locs ls h1 hP hD hS hl
  exact va_sld hx hb hX hbl hbA hS hin hd (h ad H locs ls h1 hP hD hS hl)
theorem mx_s_tsw (C : mx_C p s m args c cc own Ts D tc tb A nL Ok) (hd : decode cc 32 = .ok (.tableswitch 536 0 15 #[80, 103, 116, 149, 192, 215, 228, 251, 284, 307, 330, 383, 436, 469, 492, 525], 80)) : mx_So (mx_W p l e R s m args below meth c Q D tc tb A nL Ok) 32 (mx_tsw law_tg) := by
  obtain ⟨hx, hb, hml, hown, hts, hK, hA, hZ, hOk⟩ := C
  intro lv st F ca sl h
  obtain ⟨k, r, rfl, hk, h⟩ := h
  intro ad H locs ls h1 hP hD hS hl
  have h := h ad H locs ls h1 hP hD hS hl
  rcases (show k = 0 ∨ k = 1 ∨ k = 2 ∨ k = 3 ∨ k = 4 ∨ k = 5 ∨ k = 6 ∨ k = 7 ∨ k = 8 ∨ k = 9 ∨ k = 10 ∨ k = 11 ∨ k = 12 ∨ k = 13 ∨ k = 14 ∨ k = 15 by omega) with rfl | rfl | rfl | rfl | rfl | rfl | rfl | rfl | rfl | rfl | rfl | rfl | rfl | rfl | rfl | rfl
  · exact lv_tableIn (x := nI 0) (off := 80) (tgt := 112) hx hb hd (by decide) (by decide) (by decide) (by decide) h
  · exact lv_tableIn (x := nI 1) (off := 103) (tgt := 135) hx hb hd (by decide) (by decide) (by decide) (by decide) h
  · exact lv_tableIn (x := nI 2) (off := 116) (tgt := 148) hx hb hd (by decide) (by decide) (by decide) (by decide) h
  · exact lv_tableIn (x := nI 3) (off := 149) (tgt := 181) hx hb hd (by decide) (by decide) (by decide) (by decide) h
  · exact lv_tableIn (x := nI 4) (off := 192) (tgt := 224) hx hb hd (by decide) (by decide) (by decide) (by decide) h
  · exact lv_tableIn (x := nI 5) (off := 215) (tgt := 247) hx hb hd (by decide) (by decide) (by decide) (by decide) h
  · exact lv_tableIn (x := nI 6) (off := 228) (tgt := 260) hx hb hd (by decide) (by decide) (by decide) (by decide) h
  · exact lv_tableIn (x := nI 7) (off := 251) (tgt := 283) hx hb hd (by decide) (by decide) (by decide) (by decide) h
  · exact lv_tableIn (x := nI 8) (off := 284) (tgt := 316) hx hb hd (by decide) (by decide) (by decide) (by decide) h
  · exact lv_tableIn (x := nI 9) (off := 307) (tgt := 339) hx hb hd (by decide) (by decide) (by decide) (by decide) h
  · exact lv_tableIn (x := nI 10) (off := 330) (tgt := 362) hx hb hd (by decide) (by decide) (by decide) (by decide) h
  · exact lv_tableIn (x := nI 11) (off := 383) (tgt := 415) hx hb hd (by decide) (by decide) (by decide) (by decide) h
  · exact lv_tableIn (x := nI 12) (off := 436) (tgt := 468) hx hb hd (by decide) (by decide) (by decide) (by decide) h
  · exact lv_tableIn (x := nI 13) (off := 469) (tgt := 501) hx hb hd (by decide) (by decide) (by decide) (by decide) h
  · exact lv_tableIn (x := nI 14) (off := 492) (tgt := 524) hx hb hd (by decide) (by decide) (by decide) (by decide) h
  · exact lv_tableIn (x := nI 15) (off := 525) (tgt := 557) hx hb hd (by decide) (by decide) (by decide) (by decide) h
theorem mx_s_law {b : Nat} {tb : Nat → Nat} (C : mx_C p s m #[Value.ref b] c code own Ts D tc tb (fun q => s.heap.size ≤ q) nL Ok) (hr : meth.sig.returnType = ret) (hlk : meth.locks = false) (hd : decode code pc = .ok (.ireturn, 1)) : mx_So (mx_W p l e room_1 s m #[Value.ref b] below meth c (lw_Z below #[Value.ref b] s) D tc tb (fun q => s.heap.size ≤ q) nL Ok) pc mx_law := by
  obtain ⟨hx, hb, hml, hown, hts, hK, hA, hZ, hOk⟩ := C
  intro lv st F ca sl h
  obtain ⟨rfl, g1, g2⟩ := h
  intro ad H locs ls h1 hP hD hS hl
  refine va_forget (fun q hq => hS.2.2 q hq) ?_
  refine W.widen (k := 600000) (n := 7302250) (Nat.le_of_ble_eq_true g1) (Nat.le_of_ble_eq_true g2) ?_
  exact lw_ret hx hb hr hlk hd
end MXL
theorem d_law_0 : decode code 0 = .ok (.new 7, 3) := by decide +kernel
theorem d_law_3 : decode code 3 = .ok (.dup, 1) := by decide +kernel
theorem d_law_4 : decode code 4 = .ok (.invokespecial 9, 3) := by decide +kernel
theorem d_law_7 : decode code 7 = .ok (.astore_n 1, 1) := by decide +kernel
theorem d_law_8 : decode code 8 = .ok (.new 10, 3) := by decide +kernel
theorem d_law_11 : decode code 11 = .ok (.dup, 1) := by decide +kernel
theorem d_law_12 : decode code 12 = .ok (.invokespecial 12, 3) := by decide +kernel
theorem d_law_15 : decode code 15 = .ok (.astore_n 2, 1) := by decide +kernel
theorem d_law_16 : decode code 16 = .ok (.iconst 0, 1) := by decide +kernel
theorem d_law_17 : decode code 17 = .ok (.istore_n 3, 1) := by decide +kernel
theorem d_law_18 : decode code 18 = .ok (.iload_n 3, 1) := by decide +kernel
theorem d_law_19 : decode code 19 = .ok (.aload_n 0, 1) := by decide +kernel
theorem d_law_20 : decode code 20 = .ok (.arraylength, 1) := by decide +kernel
theorem d_law_21 : decode code 21 = .ok (.iconst 5, 1) := by decide +kernel
theorem d_law_22 : decode code 22 = .ok (.isub, 1) := by decide +kernel
theorem d_law_23 : decode code 23 = .ok (.if_icmp .gt 551, 3) := by decide +kernel
theorem d_law_26 : decode code 26 = .ok (.aload_n 0, 1) := by decide +kernel
theorem d_law_27 : decode code 27 = .ok (.iload_n 3, 1) := by decide +kernel
theorem d_law_28 : decode code 28 = .ok (.iaload, 1) := by decide +kernel
theorem d_law_29 : decode code 29 = .ok (.bipush 15, 2) := by decide +kernel
theorem d_law_31 : decode code 31 = .ok (.iand, 1) := by decide +kernel
theorem d_law_32 : decode code 32 = .ok (.tableswitch 536 0 15 #[80, 103, 116, 149, 192, 215, 228, 251, 284, 307, 330, 383, 436, 469, 492, 525], 80) := by decide +kernel
theorem d_law_112 : decode code 112 = .ok (.aload_n 1, 1) := by decide +kernel
theorem d_law_113 : decode code 113 = .ok (.aload_n 0, 1) := by decide +kernel
theorem d_law_114 : decode code 114 = .ok (.iload_n 3, 1) := by decide +kernel
theorem d_law_115 : decode code 115 = .ok (.iconst 1, 1) := by decide +kernel
theorem d_law_116 : decode code 116 = .ok (.iadd, 1) := by decide +kernel
theorem d_law_117 : decode code 117 = .ok (.iaload, 1) := by decide +kernel
theorem d_law_118 : decode code 118 = .ok (.invokevirtual 13, 3) := by decide +kernel
theorem d_law_121 : decode code 121 = .ok (.pop, 1) := by decide +kernel
theorem d_law_122 : decode code 122 = .ok (.aload_n 2, 1) := by decide +kernel
theorem d_law_123 : decode code 123 = .ok (.aload_n 0, 1) := by decide +kernel
theorem d_law_124 : decode code 124 = .ok (.iload_n 3, 1) := by decide +kernel
theorem d_law_125 : decode code 125 = .ok (.iconst 1, 1) := by decide +kernel
theorem d_law_126 : decode code 126 = .ok (.iadd, 1) := by decide +kernel
theorem d_law_127 : decode code 127 = .ok (.iaload, 1) := by decide +kernel
theorem d_law_128 : decode code 128 = .ok (.invokevirtual 17, 3) := by decide +kernel
theorem d_law_131 : decode code 131 = .ok (.pop, 1) := by decide +kernel
theorem d_law_132 : decode code 132 = .ok (.goto 436, 3) := by decide +kernel
theorem d_law_135 : decode code 135 = .ok (.aload_n 1, 1) := by decide +kernel
theorem d_law_136 : decode code 136 = .ok (.invokevirtual 18, 3) := by decide +kernel
theorem d_law_139 : decode code 139 = .ok (.pop, 1) := by decide +kernel
theorem d_law_140 : decode code 140 = .ok (.aload_n 2, 1) := by decide +kernel
theorem d_law_141 : decode code 141 = .ok (.invokevirtual 22, 3) := by decide +kernel
theorem d_law_144 : decode code 144 = .ok (.pop, 1) := by decide +kernel
theorem d_law_145 : decode code 145 = .ok (.goto 423, 3) := by decide +kernel
theorem d_law_148 : decode code 148 = .ok (.aload_n 1, 1) := by decide +kernel
theorem d_law_149 : decode code 149 = .ok (.aload_n 0, 1) := by decide +kernel
theorem d_law_150 : decode code 150 = .ok (.iload_n 3, 1) := by decide +kernel
theorem d_law_151 : decode code 151 = .ok (.iconst 1, 1) := by decide +kernel
theorem d_law_152 : decode code 152 = .ok (.iadd, 1) := by decide +kernel
theorem d_law_153 : decode code 153 = .ok (.iaload, 1) := by decide +kernel
theorem d_law_154 : decode code 154 = .ok (.aload_n 0, 1) := by decide +kernel
theorem d_law_155 : decode code 155 = .ok (.iload_n 3, 1) := by decide +kernel
theorem d_law_156 : decode code 156 = .ok (.iconst 2, 1) := by decide +kernel
theorem d_law_157 : decode code 157 = .ok (.iadd, 1) := by decide +kernel
theorem d_law_158 : decode code 158 = .ok (.iaload, 1) := by decide +kernel
theorem d_law_159 : decode code 159 = .ok (.invokevirtual 23, 3) := by decide +kernel
theorem d_law_162 : decode code 162 = .ok (.pop, 1) := by decide +kernel
theorem d_law_163 : decode code 163 = .ok (.aload_n 2, 1) := by decide +kernel
theorem d_law_164 : decode code 164 = .ok (.aload_n 0, 1) := by decide +kernel
theorem d_law_165 : decode code 165 = .ok (.iload_n 3, 1) := by decide +kernel
theorem d_law_166 : decode code 166 = .ok (.iconst 1, 1) := by decide +kernel
theorem d_law_167 : decode code 167 = .ok (.iadd, 1) := by decide +kernel
theorem d_law_168 : decode code 168 = .ok (.iaload, 1) := by decide +kernel
theorem d_law_169 : decode code 169 = .ok (.aload_n 0, 1) := by decide +kernel
theorem d_law_170 : decode code 170 = .ok (.iload_n 3, 1) := by decide +kernel
theorem d_law_171 : decode code 171 = .ok (.iconst 2, 1) := by decide +kernel
theorem d_law_172 : decode code 172 = .ok (.iadd, 1) := by decide +kernel
theorem d_law_173 : decode code 173 = .ok (.iaload, 1) := by decide +kernel
theorem d_law_174 : decode code 174 = .ok (.invokevirtual 27, 3) := by decide +kernel
theorem d_law_177 : decode code 177 = .ok (.pop, 1) := by decide +kernel
theorem d_law_178 : decode code 178 = .ok (.goto 390, 3) := by decide +kernel
theorem d_law_181 : decode code 181 = .ok (.aload_n 1, 1) := by decide +kernel
theorem d_law_182 : decode code 182 = .ok (.aload_n 0, 1) := by decide +kernel
theorem d_law_183 : decode code 183 = .ok (.iload_n 3, 1) := by decide +kernel
theorem d_law_184 : decode code 184 = .ok (.iconst 1, 1) := by decide +kernel
theorem d_law_185 : decode code 185 = .ok (.iadd, 1) := by decide +kernel
theorem d_law_186 : decode code 186 = .ok (.iaload, 1) := by decide +kernel
theorem d_law_187 : decode code 187 = .ok (.aload_n 0, 1) := by decide +kernel
theorem d_law_188 : decode code 188 = .ok (.iload_n 3, 1) := by decide +kernel
theorem d_law_189 : decode code 189 = .ok (.iconst 2, 1) := by decide +kernel
theorem d_law_190 : decode code 190 = .ok (.iadd, 1) := by decide +kernel
theorem d_law_191 : decode code 191 = .ok (.iaload, 1) := by decide +kernel
theorem d_law_192 : decode code 192 = .ok (.aload_n 0, 1) := by decide +kernel
theorem d_law_193 : decode code 193 = .ok (.iload_n 3, 1) := by decide +kernel
theorem d_law_194 : decode code 194 = .ok (.iconst 3, 1) := by decide +kernel
theorem d_law_195 : decode code 195 = .ok (.iadd, 1) := by decide +kernel
theorem d_law_196 : decode code 196 = .ok (.iaload, 1) := by decide +kernel
theorem d_law_197 : decode code 197 = .ok (.invokevirtual 28, 3) := by decide +kernel
theorem d_law_200 : decode code 200 = .ok (.pop, 1) := by decide +kernel
theorem d_law_201 : decode code 201 = .ok (.aload_n 2, 1) := by decide +kernel
theorem d_law_202 : decode code 202 = .ok (.aload_n 0, 1) := by decide +kernel
theorem d_law_203 : decode code 203 = .ok (.iload_n 3, 1) := by decide +kernel
theorem d_law_204 : decode code 204 = .ok (.iconst 1, 1) := by decide +kernel
theorem d_law_205 : decode code 205 = .ok (.iadd, 1) := by decide +kernel
theorem d_law_206 : decode code 206 = .ok (.iaload, 1) := by decide +kernel
theorem d_law_207 : decode code 207 = .ok (.aload_n 0, 1) := by decide +kernel
theorem d_law_208 : decode code 208 = .ok (.iload_n 3, 1) := by decide +kernel
theorem d_law_209 : decode code 209 = .ok (.iconst 2, 1) := by decide +kernel
theorem d_law_210 : decode code 210 = .ok (.iadd, 1) := by decide +kernel
theorem d_law_211 : decode code 211 = .ok (.iaload, 1) := by decide +kernel
theorem d_law_212 : decode code 212 = .ok (.aload_n 0, 1) := by decide +kernel
theorem d_law_213 : decode code 213 = .ok (.iload_n 3, 1) := by decide +kernel
theorem d_law_214 : decode code 214 = .ok (.iconst 3, 1) := by decide +kernel
theorem d_law_215 : decode code 215 = .ok (.iadd, 1) := by decide +kernel
theorem d_law_216 : decode code 216 = .ok (.iaload, 1) := by decide +kernel
theorem d_law_217 : decode code 217 = .ok (.invokevirtual 32, 3) := by decide +kernel
theorem d_law_220 : decode code 220 = .ok (.pop, 1) := by decide +kernel
theorem d_law_221 : decode code 221 = .ok (.goto 347, 3) := by decide +kernel
theorem d_law_224 : decode code 224 = .ok (.aload_n 1, 1) := by decide +kernel
theorem d_law_225 : decode code 225 = .ok (.aload_n 0, 1) := by decide +kernel
theorem d_law_226 : decode code 226 = .ok (.iload_n 3, 1) := by decide +kernel
theorem d_law_227 : decode code 227 = .ok (.iconst 1, 1) := by decide +kernel
theorem d_law_228 : decode code 228 = .ok (.iadd, 1) := by decide +kernel
theorem d_law_229 : decode code 229 = .ok (.iaload, 1) := by decide +kernel
theorem d_law_230 : decode code 230 = .ok (.invokevirtual 33, 3) := by decide +kernel
theorem d_law_233 : decode code 233 = .ok (.aload_n 2, 1) := by decide +kernel
theorem d_law_234 : decode code 234 = .ok (.aload_n 0, 1) := by decide +kernel
theorem d_law_235 : decode code 235 = .ok (.iload_n 3, 1) := by decide +kernel
theorem d_law_236 : decode code 236 = .ok (.iconst 1, 1) := by decide +kernel
theorem d_law_237 : decode code 237 = .ok (.iadd, 1) := by decide +kernel
theorem d_law_238 : decode code 238 = .ok (.iaload, 1) := by decide +kernel
theorem d_law_239 : decode code 239 = .ok (.invokevirtual 37, 3) := by decide +kernel
theorem d_law_242 : decode code 242 = .ok (.if_icmp .eq 326, 3) := by decide +kernel
theorem d_law_247 : decode code 247 = .ok (.aload_n 1, 1) := by decide +kernel
theorem d_law_248 : decode code 248 = .ok (.invokevirtual 38, 3) := by decide +kernel
theorem d_law_251 : decode code 251 = .ok (.pop2, 1) := by decide +kernel
theorem d_law_252 : decode code 252 = .ok (.aload_n 2, 1) := by decide +kernel
theorem d_law_253 : decode code 253 = .ok (.invokevirtual 42, 3) := by decide +kernel
theorem d_law_256 : decode code 256 = .ok (.pop2, 1) := by decide +kernel
theorem d_law_257 : decode code 257 = .ok (.goto 311, 3) := by decide +kernel
theorem d_law_260 : decode code 260 = .ok (.aload_n 1, 1) := by decide +kernel
theorem d_law_261 : decode code 261 = .ok (.aload_n 0, 1) := by decide +kernel
theorem d_law_262 : decode code 262 = .ok (.iload_n 3, 1) := by decide +kernel
theorem d_law_263 : decode code 263 = .ok (.iconst 1, 1) := by decide +kernel
theorem d_law_264 : decode code 264 = .ok (.iadd, 1) := by decide +kernel
theorem d_law_265 : decode code 265 = .ok (.iaload, 1) := by decide +kernel
theorem d_law_266 : decode code 266 = .ok (.invokevirtual 43, 3) := by decide +kernel
theorem d_law_269 : decode code 269 = .ok (.pop, 1) := by decide +kernel
theorem d_law_270 : decode code 270 = .ok (.aload_n 2, 1) := by decide +kernel
theorem d_law_271 : decode code 271 = .ok (.aload_n 0, 1) := by decide +kernel
theorem d_law_272 : decode code 272 = .ok (.iload_n 3, 1) := by decide +kernel
theorem d_law_273 : decode code 273 = .ok (.iconst 1, 1) := by decide +kernel
theorem d_law_274 : decode code 274 = .ok (.iadd, 1) := by decide +kernel
theorem d_law_275 : decode code 275 = .ok (.iaload, 1) := by decide +kernel
theorem d_law_276 : decode code 276 = .ok (.invokevirtual 46, 3) := by decide +kernel
theorem d_law_279 : decode code 279 = .ok (.pop, 1) := by decide +kernel
theorem d_law_280 : decode code 280 = .ok (.goto 288, 3) := by decide +kernel
theorem d_law_283 : decode code 283 = .ok (.aload_n 1, 1) := by decide +kernel
theorem d_law_284 : decode code 284 = .ok (.aload_n 0, 1) := by decide +kernel
theorem d_law_285 : decode code 285 = .ok (.iload_n 3, 1) := by decide +kernel
theorem d_law_286 : decode code 286 = .ok (.iconst 1, 1) := by decide +kernel
theorem d_law_287 : decode code 287 = .ok (.iadd, 1) := by decide +kernel
theorem d_law_288 : decode code 288 = .ok (.iaload, 1) := by decide +kernel
theorem d_law_289 : decode code 289 = .ok (.aload_n 0, 1) := by decide +kernel
theorem d_law_290 : decode code 290 = .ok (.iload_n 3, 1) := by decide +kernel
theorem d_law_291 : decode code 291 = .ok (.iconst 2, 1) := by decide +kernel
theorem d_law_292 : decode code 292 = .ok (.iadd, 1) := by decide +kernel
theorem d_law_293 : decode code 293 = .ok (.iaload, 1) := by decide +kernel
theorem d_law_294 : decode code 294 = .ok (.invokevirtual 47, 3) := by decide +kernel
theorem d_law_297 : decode code 297 = .ok (.pop, 1) := by decide +kernel
theorem d_law_298 : decode code 298 = .ok (.aload_n 2, 1) := by decide +kernel
theorem d_law_299 : decode code 299 = .ok (.aload_n 0, 1) := by decide +kernel
theorem d_law_300 : decode code 300 = .ok (.iload_n 3, 1) := by decide +kernel
theorem d_law_301 : decode code 301 = .ok (.iconst 1, 1) := by decide +kernel
theorem d_law_302 : decode code 302 = .ok (.iadd, 1) := by decide +kernel
theorem d_law_303 : decode code 303 = .ok (.iaload, 1) := by decide +kernel
theorem d_law_304 : decode code 304 = .ok (.aload_n 0, 1) := by decide +kernel
theorem d_law_305 : decode code 305 = .ok (.iload_n 3, 1) := by decide +kernel
theorem d_law_306 : decode code 306 = .ok (.iconst 2, 1) := by decide +kernel
theorem d_law_307 : decode code 307 = .ok (.iadd, 1) := by decide +kernel
theorem d_law_308 : decode code 308 = .ok (.iaload, 1) := by decide +kernel
theorem d_law_309 : decode code 309 = .ok (.invokevirtual 50, 3) := by decide +kernel
theorem d_law_312 : decode code 312 = .ok (.pop, 1) := by decide +kernel
theorem d_law_313 : decode code 313 = .ok (.goto 255, 3) := by decide +kernel
theorem d_law_316 : decode code 316 = .ok (.aload_n 1, 1) := by decide +kernel
theorem d_law_317 : decode code 317 = .ok (.aload_n 0, 1) := by decide +kernel
theorem d_law_318 : decode code 318 = .ok (.iload_n 3, 1) := by decide +kernel
theorem d_law_319 : decode code 319 = .ok (.iconst 1, 1) := by decide +kernel
theorem d_law_320 : decode code 320 = .ok (.iadd, 1) := by decide +kernel
theorem d_law_321 : decode code 321 = .ok (.iaload, 1) := by decide +kernel
theorem d_law_322 : decode code 322 = .ok (.invokevirtual 51, 3) := by decide +kernel
theorem d_law_325 : decode code 325 = .ok (.pop, 1) := by decide +kernel
theorem d_law_326 : decode code 326 = .ok (.aload_n 2, 1) := by decide +kernel
theorem d_law_327 : decode code 327 = .ok (.aload_n 0, 1) := by decide +kernel
theorem d_law_328 : decode code 328 = .ok (.iload_n 3, 1) := by decide +kernel
theorem d_law_329 : decode code 329 = .ok (.iconst 1, 1) := by decide +kernel
theorem d_law_330 : decode code 330 = .ok (.iadd, 1) := by decide +kernel
theorem d_law_331 : decode code 331 = .ok (.iaload, 1) := by decide +kernel
theorem d_law_332 : decode code 332 = .ok (.invokevirtual 54, 3) := by decide +kernel
theorem d_law_335 : decode code 335 = .ok (.pop, 1) := by decide +kernel
theorem d_law_336 : decode code 336 = .ok (.goto 232, 3) := by decide +kernel
theorem d_law_339 : decode code 339 = .ok (.aload_n 1, 1) := by decide +kernel
theorem d_law_340 : decode code 340 = .ok (.aload_n 0, 1) := by decide +kernel
theorem d_law_341 : decode code 341 = .ok (.iload_n 3, 1) := by decide +kernel
theorem d_law_342 : decode code 342 = .ok (.iconst 1, 1) := by decide +kernel
theorem d_law_343 : decode code 343 = .ok (.iadd, 1) := by decide +kernel
theorem d_law_344 : decode code 344 = .ok (.iaload, 1) := by decide +kernel
theorem d_law_345 : decode code 345 = .ok (.invokevirtual 55, 3) := by decide +kernel
theorem d_law_348 : decode code 348 = .ok (.pop, 1) := by decide +kernel
theorem d_law_349 : decode code 349 = .ok (.aload_n 2, 1) := by decide +kernel
theorem d_law_350 : decode code 350 = .ok (.aload_n 0, 1) := by decide +kernel
theorem d_law_351 : decode code 351 = .ok (.iload_n 3, 1) := by decide +kernel
theorem d_law_352 : decode code 352 = .ok (.iconst 1, 1) := by decide +kernel
theorem d_law_353 : decode code 353 = .ok (.iadd, 1) := by decide +kernel
theorem d_law_354 : decode code 354 = .ok (.iaload, 1) := by decide +kernel
theorem d_law_355 : decode code 355 = .ok (.invokevirtual 58, 3) := by decide +kernel
theorem d_law_358 : decode code 358 = .ok (.pop, 1) := by decide +kernel
theorem d_law_359 : decode code 359 = .ok (.goto 209, 3) := by decide +kernel
theorem d_law_362 : decode code 362 = .ok (.aload_n 1, 1) := by decide +kernel
theorem d_law_363 : decode code 363 = .ok (.aload_n 0, 1) := by decide +kernel
theorem d_law_364 : decode code 364 = .ok (.iload_n 3, 1) := by decide +kernel
theorem d_law_365 : decode code 365 = .ok (.iconst 1, 1) := by decide +kernel
theorem d_law_366 : decode code 366 = .ok (.iadd, 1) := by decide +kernel
theorem d_law_367 : decode code 367 = .ok (.iaload, 1) := by decide +kernel
theorem d_law_368 : decode code 368 = .ok (.aload_n 0, 1) := by decide +kernel
theorem d_law_369 : decode code 369 = .ok (.iload_n 3, 1) := by decide +kernel
theorem d_law_370 : decode code 370 = .ok (.iconst 2, 1) := by decide +kernel
theorem d_law_371 : decode code 371 = .ok (.iadd, 1) := by decide +kernel
theorem d_law_372 : decode code 372 = .ok (.iaload, 1) := by decide +kernel
theorem d_law_373 : decode code 373 = .ok (.aload_n 0, 1) := by decide +kernel
theorem d_law_374 : decode code 374 = .ok (.iload_n 3, 1) := by decide +kernel
theorem d_law_375 : decode code 375 = .ok (.iconst 3, 1) := by decide +kernel
theorem d_law_376 : decode code 376 = .ok (.iadd, 1) := by decide +kernel
theorem d_law_377 : decode code 377 = .ok (.iaload, 1) := by decide +kernel
theorem d_law_378 : decode code 378 = .ok (.aload_n 0, 1) := by decide +kernel
theorem d_law_379 : decode code 379 = .ok (.iload_n 3, 1) := by decide +kernel
theorem d_law_380 : decode code 380 = .ok (.iconst 4, 1) := by decide +kernel
theorem d_law_381 : decode code 381 = .ok (.iadd, 1) := by decide +kernel
theorem d_law_382 : decode code 382 = .ok (.iaload, 1) := by decide +kernel
theorem d_law_383 : decode code 383 = .ok (.invokevirtual 59, 3) := by decide +kernel
theorem d_law_386 : decode code 386 = .ok (.pop, 1) := by decide +kernel
theorem d_law_387 : decode code 387 = .ok (.aload_n 2, 1) := by decide +kernel
theorem d_law_388 : decode code 388 = .ok (.aload_n 0, 1) := by decide +kernel
theorem d_law_389 : decode code 389 = .ok (.iload_n 3, 1) := by decide +kernel
theorem d_law_390 : decode code 390 = .ok (.iconst 1, 1) := by decide +kernel
theorem d_law_391 : decode code 391 = .ok (.iadd, 1) := by decide +kernel
theorem d_law_392 : decode code 392 = .ok (.iaload, 1) := by decide +kernel
theorem d_law_393 : decode code 393 = .ok (.aload_n 0, 1) := by decide +kernel
theorem d_law_394 : decode code 394 = .ok (.iload_n 3, 1) := by decide +kernel
theorem d_law_395 : decode code 395 = .ok (.iconst 2, 1) := by decide +kernel
theorem d_law_396 : decode code 396 = .ok (.iadd, 1) := by decide +kernel
theorem d_law_397 : decode code 397 = .ok (.iaload, 1) := by decide +kernel
theorem d_law_398 : decode code 398 = .ok (.aload_n 0, 1) := by decide +kernel
theorem d_law_399 : decode code 399 = .ok (.iload_n 3, 1) := by decide +kernel
theorem d_law_400 : decode code 400 = .ok (.iconst 3, 1) := by decide +kernel
theorem d_law_401 : decode code 401 = .ok (.iadd, 1) := by decide +kernel
theorem d_law_402 : decode code 402 = .ok (.iaload, 1) := by decide +kernel
theorem d_law_403 : decode code 403 = .ok (.aload_n 0, 1) := by decide +kernel
theorem d_law_404 : decode code 404 = .ok (.iload_n 3, 1) := by decide +kernel
theorem d_law_405 : decode code 405 = .ok (.iconst 4, 1) := by decide +kernel
theorem d_law_406 : decode code 406 = .ok (.iadd, 1) := by decide +kernel
theorem d_law_407 : decode code 407 = .ok (.iaload, 1) := by decide +kernel
theorem d_law_408 : decode code 408 = .ok (.invokevirtual 63, 3) := by decide +kernel
theorem d_law_411 : decode code 411 = .ok (.pop, 1) := by decide +kernel
theorem d_law_412 : decode code 412 = .ok (.goto 156, 3) := by decide +kernel
theorem d_law_415 : decode code 415 = .ok (.aload_n 1, 1) := by decide +kernel
theorem d_law_416 : decode code 416 = .ok (.aload_n 0, 1) := by decide +kernel
theorem d_law_417 : decode code 417 = .ok (.iload_n 3, 1) := by decide +kernel
theorem d_law_418 : decode code 418 = .ok (.iconst 1, 1) := by decide +kernel
theorem d_law_419 : decode code 419 = .ok (.iadd, 1) := by decide +kernel
theorem d_law_420 : decode code 420 = .ok (.iaload, 1) := by decide +kernel
theorem d_law_421 : decode code 421 = .ok (.i2l, 1) := by decide +kernel
theorem d_law_422 : decode code 422 = .ok (.bipush 32, 2) := by decide +kernel
theorem d_law_424 : decode code 424 = .ok (.lshl, 1) := by decide +kernel
theorem d_law_425 : decode code 425 = .ok (.aload_n 0, 1) := by decide +kernel
theorem d_law_426 : decode code 426 = .ok (.iload_n 3, 1) := by decide +kernel
theorem d_law_427 : decode code 427 = .ok (.iconst 2, 1) := by decide +kernel
theorem d_law_428 : decode code 428 = .ok (.iadd, 1) := by decide +kernel
theorem d_law_429 : decode code 429 = .ok (.iaload, 1) := by decide +kernel
theorem d_law_430 : decode code 430 = .ok (.i2l, 1) := by decide +kernel
theorem d_law_431 : decode code 431 = .ok (.ldc2_w 64, 3) := by decide +kernel
theorem d_law_434 : decode code 434 = .ok (.land, 1) := by decide +kernel
theorem d_law_435 : decode code 435 = .ok (.lor, 1) := by decide +kernel
theorem d_law_436 : decode code 436 = .ok (.invokevirtual 66, 3) := by decide +kernel
theorem d_law_439 : decode code 439 = .ok (.pop, 1) := by decide +kernel
theorem d_law_440 : decode code 440 = .ok (.aload_n 2, 1) := by decide +kernel
theorem d_law_441 : decode code 441 = .ok (.aload_n 0, 1) := by decide +kernel
theorem d_law_442 : decode code 442 = .ok (.iload_n 3, 1) := by decide +kernel
theorem d_law_443 : decode code 443 = .ok (.iconst 1, 1) := by decide +kernel
theorem d_law_444 : decode code 444 = .ok (.iadd, 1) := by decide +kernel
theorem d_law_445 : decode code 445 = .ok (.iaload, 1) := by decide +kernel
theorem d_law_446 : decode code 446 = .ok (.i2l, 1) := by decide +kernel
theorem d_law_447 : decode code 447 = .ok (.bipush 32, 2) := by decide +kernel
theorem d_law_449 : decode code 449 = .ok (.lshl, 1) := by decide +kernel
theorem d_law_450 : decode code 450 = .ok (.aload_n 0, 1) := by decide +kernel
theorem d_law_451 : decode code 451 = .ok (.iload_n 3, 1) := by decide +kernel
theorem d_law_452 : decode code 452 = .ok (.iconst 2, 1) := by decide +kernel
theorem d_law_453 : decode code 453 = .ok (.iadd, 1) := by decide +kernel
theorem d_law_454 : decode code 454 = .ok (.iaload, 1) := by decide +kernel
theorem d_law_455 : decode code 455 = .ok (.i2l, 1) := by decide +kernel
theorem d_law_456 : decode code 456 = .ok (.ldc2_w 64, 3) := by decide +kernel
theorem d_law_459 : decode code 459 = .ok (.land, 1) := by decide +kernel
theorem d_law_460 : decode code 460 = .ok (.lor, 1) := by decide +kernel
theorem d_law_461 : decode code 461 = .ok (.invokevirtual 70, 3) := by decide +kernel
theorem d_law_464 : decode code 464 = .ok (.pop, 1) := by decide +kernel
theorem d_law_465 : decode code 465 = .ok (.goto 103, 3) := by decide +kernel
theorem d_law_468 : decode code 468 = .ok (.aload_n 1, 1) := by decide +kernel
theorem d_law_469 : decode code 469 = .ok (.aload_n 0, 1) := by decide +kernel
theorem d_law_470 : decode code 470 = .ok (.iload_n 3, 1) := by decide +kernel
theorem d_law_471 : decode code 471 = .ok (.iconst 1, 1) := by decide +kernel
theorem d_law_472 : decode code 472 = .ok (.iadd, 1) := by decide +kernel
theorem d_law_473 : decode code 473 = .ok (.iaload, 1) := by decide +kernel
theorem d_law_474 : decode code 474 = .ok (.aload_n 0, 1) := by decide +kernel
theorem d_law_475 : decode code 475 = .ok (.iload_n 3, 1) := by decide +kernel
theorem d_law_476 : decode code 476 = .ok (.iconst 2, 1) := by decide +kernel
theorem d_law_477 : decode code 477 = .ok (.iadd, 1) := by decide +kernel
theorem d_law_478 : decode code 478 = .ok (.iaload, 1) := by decide +kernel
theorem d_law_479 : decode code 479 = .ok (.invokevirtual 71, 3) := by decide +kernel
theorem d_law_482 : decode code 482 = .ok (.pop, 1) := by decide +kernel
theorem d_law_483 : decode code 483 = .ok (.aload_n 2, 1) := by decide +kernel
theorem d_law_484 : decode code 484 = .ok (.aload_n 0, 1) := by decide +kernel
theorem d_law_485 : decode code 485 = .ok (.iload_n 3, 1) := by decide +kernel
theorem d_law_486 : decode code 486 = .ok (.iconst 1, 1) := by decide +kernel
theorem d_law_487 : decode code 487 = .ok (.iadd, 1) := by decide +kernel
theorem d_law_488 : decode code 488 = .ok (.iaload, 1) := by decide +kernel
theorem d_law_489 : decode code 489 = .ok (.aload_n 0, 1) := by decide +kernel
theorem d_law_490 : decode code 490 = .ok (.iload_n 3, 1) := by decide +kernel
theorem d_law_491 : decode code 491 = .ok (.iconst 2, 1) := by decide +kernel
theorem d_law_492 : decode code 492 = .ok (.iadd, 1) := by decide +kernel
theorem d_law_493 : decode code 493 = .ok (.iaload, 1) := by decide +kernel
theorem d_law_494 : decode code 494 = .ok (.invokevirtual 74, 3) := by decide +kernel
theorem d_law_497 : decode code 497 = .ok (.pop, 1) := by decide +kernel
theorem d_law_498 : decode code 498 = .ok (.goto 70, 3) := by decide +kernel
theorem d_law_501 : decode code 501 = .ok (.aload_n 1, 1) := by decide +kernel
theorem d_law_502 : decode code 502 = .ok (.aload_n 0, 1) := by decide +kernel
theorem d_law_503 : decode code 503 = .ok (.iload_n 3, 1) := by decide +kernel
theorem d_law_504 : decode code 504 = .ok (.iconst 1, 1) := by decide +kernel
theorem d_law_505 : decode code 505 = .ok (.iadd, 1) := by decide +kernel
theorem d_law_506 : decode code 506 = .ok (.iaload, 1) := by decide +kernel
theorem d_law_507 : decode code 507 = .ok (.invokevirtual 75, 3) := by decide +kernel
theorem d_law_510 : decode code 510 = .ok (.pop, 1) := by decide +kernel
theorem d_law_511 : decode code 511 = .ok (.aload_n 2, 1) := by decide +kernel
theorem d_law_512 : decode code 512 = .ok (.aload_n 0, 1) := by decide +kernel
theorem d_law_513 : decode code 513 = .ok (.iload_n 3, 1) := by decide +kernel
theorem d_law_514 : decode code 514 = .ok (.iconst 1, 1) := by decide +kernel
theorem d_law_515 : decode code 515 = .ok (.iadd, 1) := by decide +kernel
theorem d_law_516 : decode code 516 = .ok (.iaload, 1) := by decide +kernel
theorem d_law_517 : decode code 517 = .ok (.invokevirtual 78, 3) := by decide +kernel
theorem d_law_520 : decode code 520 = .ok (.pop, 1) := by decide +kernel
theorem d_law_521 : decode code 521 = .ok (.goto 47, 3) := by decide +kernel
theorem d_law_524 : decode code 524 = .ok (.aload_n 1, 1) := by decide +kernel
theorem d_law_525 : decode code 525 = .ok (.aload_n 0, 1) := by decide +kernel
theorem d_law_526 : decode code 526 = .ok (.iload_n 3, 1) := by decide +kernel
theorem d_law_527 : decode code 527 = .ok (.iconst 1, 1) := by decide +kernel
theorem d_law_528 : decode code 528 = .ok (.iadd, 1) := by decide +kernel
theorem d_law_529 : decode code 529 = .ok (.iaload, 1) := by decide +kernel
theorem d_law_530 : decode code 530 = .ok (.aload_n 0, 1) := by decide +kernel
theorem d_law_531 : decode code 531 = .ok (.iload_n 3, 1) := by decide +kernel
theorem d_law_532 : decode code 532 = .ok (.iconst 2, 1) := by decide +kernel
theorem d_law_533 : decode code 533 = .ok (.iadd, 1) := by decide +kernel
theorem d_law_534 : decode code 534 = .ok (.iaload, 1) := by decide +kernel
theorem d_law_535 : decode code 535 = .ok (.invokevirtual 79, 3) := by decide +kernel
theorem d_law_538 : decode code 538 = .ok (.pop, 1) := by decide +kernel
theorem d_law_539 : decode code 539 = .ok (.aload_n 2, 1) := by decide +kernel
theorem d_law_540 : decode code 540 = .ok (.aload_n 0, 1) := by decide +kernel
theorem d_law_541 : decode code 541 = .ok (.iload_n 3, 1) := by decide +kernel
theorem d_law_542 : decode code 542 = .ok (.iconst 1, 1) := by decide +kernel
theorem d_law_543 : decode code 543 = .ok (.iadd, 1) := by decide +kernel
theorem d_law_544 : decode code 544 = .ok (.iaload, 1) := by decide +kernel
theorem d_law_545 : decode code 545 = .ok (.aload_n 0, 1) := by decide +kernel
theorem d_law_546 : decode code 546 = .ok (.iload_n 3, 1) := by decide +kernel
theorem d_law_547 : decode code 547 = .ok (.iconst 2, 1) := by decide +kernel
theorem d_law_548 : decode code 548 = .ok (.iadd, 1) := by decide +kernel
theorem d_law_549 : decode code 549 = .ok (.iaload, 1) := by decide +kernel
theorem d_law_550 : decode code 550 = .ok (.invokevirtual 82, 3) := by decide +kernel
theorem d_law_553 : decode code 553 = .ok (.pop, 1) := by decide +kernel
theorem d_law_554 : decode code 554 = .ok (.goto 14, 3) := by decide +kernel
theorem d_law_557 : decode code 557 = .ok (.aload_n 1, 1) := by decide +kernel
theorem d_law_558 : decode code 558 = .ok (.invokevirtual 83, 3) := by decide +kernel
theorem d_law_561 : decode code 561 = .ok (.aload_n 2, 1) := by decide +kernel
theorem d_law_562 : decode code 562 = .ok (.invokevirtual 86, 3) := by decide +kernel
theorem d_law_565 : decode code 565 = .ok (.goto 3, 3) := by decide +kernel
theorem d_law_568 : decode code 568 = .ok (.iinc 3 5, 3) := by decide +kernel
theorem d_law_571 : decode code 571 = .ok (.goto (-553), 3) := by decide +kernel
theorem d_law_574 : decode code 574 = .ok (.iconst 1, 1) := by decide +kernel
theorem d_law_575 : decode code 575 = .ok (.ireturn, 1) := by decide +kernel
def t_law (L : Nat) (xs : Nat → Int32) : List (Nat × mx_O) := [
  (0, mx_new 6 0 6 [mx_null, mx_null, mx_null, mx_null, mx_null, mx_null] 600000 7302250 3),
  (3, mx_dup 4),
  (4, mx_ci0 sp_L_init 30 1800 600000 7302250 7),
  (7, mx_astore 1 8),
  (8, mx_new 7 40 18 [mx_i 0, mx_i 0, mx_null, mx_i 0, mx_null, mx_null, mx_i 0, mx_null, mx_l 0, mx_null, mx_null, mx_i 0, mx_null, mx_null, mx_null, mx_i 0, mx_null, mx_null] 600000 7302250 11),
  (11, mx_dup 12),
  (12, mx_ci0 sp_M_init 11 1513 600000 7302250 15),
  (15, mx_astore 2 16),
  (16, mx_push (.inl (nI 0)) 17),
  (17, mx_istore 3 18),
  (18, mx_iload 3 19),
  (19, mx_aloadT 0 20),
  (20, mx_slen L 21),
  (21, mx_push (.inl (nI 5)) 22),
  (22, mx_isub 23),
  (23, mx_ic_gt 574 26),
  (26, mx_aloadT 0 27),
  (27, mx_iload 3 28),
  (28, mx_sld L xs 29),
  (29, mx_push (.inl (nI 15)) 31),
  (31, mx_iand 32),
  (32, mx_tsw law_tg),
  (112, mx_aload 1 113),
  (113, mx_aloadT 0 114),
  (114, mx_iload 3 115),
  (115, mx_push (.inl (nI 1)) 116),
  (116, mx_iadd 117),
  (117, mx_sld L xs 118),
  (118, mx_cv1 6 sp_L_unit 600000 7302250 121),
  (121, mx_pop 122),
  (122, mx_aload 2 123),
  (123, mx_aloadT 0 124),
  (124, mx_iload 3 125),
  (125, mx_push (.inl (nI 1)) 126),
  (126, mx_iadd 127),
  (127, mx_sld L xs 128),
  (128, mx_cv1 7 sp_M_unit 600000 7302250 131),
  (131, mx_pop 132),
  (132, mx_goto 568),
  (135, mx_aload 1 136),
  (136, mx_cv0 6 sp_L_word 600000 7302250 139),
  (139, mx_pop 140),
  (140, mx_aload 2 141),
  (141, mx_cv0 7 sp_M_word 600000 7302250 144),
  (144, mx_pop 145),
  (145, mx_goto 568),
  (148, mx_aload 1 149),
  (149, mx_aloadT 0 150),
  (150, mx_iload 3 151),
  (151, mx_push (.inl (nI 1)) 152),
  (152, mx_iadd 153),
  (153, mx_sld L xs 154),
  (154, mx_aloadT 0 155),
  (155, mx_iload 3 156),
  (156, mx_push (.inl (nI 2)) 157),
  (157, mx_iadd 158),
  (158, mx_sld L xs 159),
  (159, mx_cv2 6 sp_L_letter 600000 7302250 162),
  (162, mx_pop 163),
  (163, mx_aload 2 164),
  (164, mx_aloadT 0 165),
  (165, mx_iload 3 166),
  (166, mx_push (.inl (nI 1)) 167),
  (167, mx_iadd 168),
  (168, mx_sld L xs 169),
  (169, mx_aloadT 0 170),
  (170, mx_iload 3 171),
  (171, mx_push (.inl (nI 2)) 172),
  (172, mx_iadd 173),
  (173, mx_sld L xs 174),
  (174, mx_cv2 7 sp_M_letter 600000 7302250 177),
  (177, mx_pop 178),
  (178, mx_goto 568),
  (181, mx_aload 1 182),
  (182, mx_aloadT 0 183),
  (183, mx_iload 3 184),
  (184, mx_push (.inl (nI 1)) 185),
  (185, mx_iadd 186),
  (186, mx_sld L xs 187),
  (187, mx_aloadT 0 188),
  (188, mx_iload 3 189),
  (189, mx_push (.inl (nI 2)) 190),
  (190, mx_iadd 191),
  (191, mx_sld L xs 192),
  (192, mx_aloadT 0 193),
  (193, mx_iload 3 194),
  (194, mx_push (.inl (nI 3)) 195),
  (195, mx_iadd 196),
  (196, mx_sld L xs 197),
  (197, mx_cv3 6 sp_L_ladder 600000 7302250 200),
  (200, mx_pop 201),
  (201, mx_aload 2 202),
  (202, mx_aloadT 0 203),
  (203, mx_iload 3 204),
  (204, mx_push (.inl (nI 1)) 205),
  (205, mx_iadd 206),
  (206, mx_sld L xs 207),
  (207, mx_aloadT 0 208),
  (208, mx_iload 3 209),
  (209, mx_push (.inl (nI 2)) 210),
  (210, mx_iadd 211),
  (211, mx_sld L xs 212),
  (212, mx_aloadT 0 213),
  (213, mx_iload 3 214),
  (214, mx_push (.inl (nI 3)) 215),
  (215, mx_iadd 216),
  (216, mx_sld L xs 217),
  (217, mx_cv3 7 sp_M_ladder 600000 7302250 220),
  (220, mx_pop 221),
  (221, mx_goto 568),
  (224, mx_aload 1 225),
  (225, mx_aloadT 0 226),
  (226, mx_iload 3 227),
  (227, mx_push (.inl (nI 1)) 228),
  (228, mx_iadd 229),
  (229, mx_sld L xs 230),
  (230, mx_cv1 6 sp_L_step 600000 7302250 233),
  (233, mx_aload 2 234),
  (234, mx_aloadT 0 235),
  (235, mx_iload 3 236),
  (236, mx_push (.inl (nI 1)) 237),
  (237, mx_iadd 238),
  (238, mx_sld L xs 239),
  (239, mx_cv1 7 sp_M_step 600000 7302250 242),
  (242, mx_ic_eq 568 245),
  (247, mx_aload 1 248),
  (248, mx_cv0 6 sp_L_ways 600000 7302250 251),
  (251, mx_pop2 252),
  (252, mx_aload 2 253),
  (253, mx_cv0 7 sp_M_ways 600000 7302250 256),
  (256, mx_pop2 257),
  (257, mx_goto 568),
  (260, mx_aload 1 261),
  (261, mx_aloadT 0 262),
  (262, mx_iload 3 263),
  (263, mx_push (.inl (nI 1)) 264),
  (264, mx_iadd 265),
  (265, mx_sld L xs 266),
  (266, mx_cv1 6 sp_L_gather 600000 7302250 269),
  (269, mx_pop 270),
  (270, mx_aload 2 271),
  (271, mx_aloadT 0 272),
  (272, mx_iload 3 273),
  (273, mx_push (.inl (nI 1)) 274),
  (274, mx_iadd 275),
  (275, mx_sld L xs 276),
  (276, mx_cv1 7 sp_M_gather 600000 7302250 279),
  (279, mx_pop 280),
  (280, mx_goto 568),
  (283, mx_aload 1 284),
  (284, mx_aloadT 0 285),
  (285, mx_iload 3 286),
  (286, mx_push (.inl (nI 1)) 287),
  (287, mx_iadd 288),
  (288, mx_sld L xs 289),
  (289, mx_aloadT 0 290),
  (290, mx_iload 3 291),
  (291, mx_push (.inl (nI 2)) 292),
  (292, mx_iadd 293),
  (293, mx_sld L xs 294),
  (294, mx_cv2 6 sp_L_gathered 600000 7302250 297),
  (297, mx_pop 298),
  (298, mx_aload 2 299),
  (299, mx_aloadT 0 300),
  (300, mx_iload 3 301),
  (301, mx_push (.inl (nI 1)) 302),
  (302, mx_iadd 303),
  (303, mx_sld L xs 304),
  (304, mx_aloadT 0 305),
  (305, mx_iload 3 306),
  (306, mx_push (.inl (nI 2)) 307),
  (307, mx_iadd 308),
  (308, mx_sld L xs 309),
  (309, mx_cv2 7 sp_M_gathered 600000 7302250 312),
  (312, mx_pop 313),
  (313, mx_goto 568),
  (316, mx_aload 1 317),
  (317, mx_aloadT 0 318),
  (318, mx_iload 3 319),
  (319, mx_push (.inl (nI 1)) 320),
  (320, mx_iadd 321),
  (321, mx_sld L xs 322),
  (322, mx_cv1 6 sp_L_square 600000 7302250 325),
  (325, mx_pop 326),
  (326, mx_aload 2 327),
  (327, mx_aloadT 0 328),
  (328, mx_iload 3 329),
  (329, mx_push (.inl (nI 1)) 330),
  (330, mx_iadd 331),
  (331, mx_sld L xs 332),
  (332, mx_cv1 7 sp_M_square 600000 7302250 335),
  (335, mx_pop 336),
  (336, mx_goto 568),
  (339, mx_aload 1 340),
  (340, mx_aloadT 0 341),
  (341, mx_iload 3 342),
  (342, mx_push (.inl (nI 1)) 343),
  (343, mx_iadd 344),
  (344, mx_sld L xs 345),
  (345, mx_cv1 6 sp_L_line 600000 7302250 348),
  (348, mx_pop 349),
  (349, mx_aload 2 350),
  (350, mx_aloadT 0 351),
  (351, mx_iload 3 352),
  (352, mx_push (.inl (nI 1)) 353),
  (353, mx_iadd 354),
  (354, mx_sld L xs 355),
  (355, mx_cv1 7 sp_M_line 600000 7302250 358),
  (358, mx_pop 359),
  (359, mx_goto 568),
  (362, mx_aload 1 363),
  (363, mx_aloadT 0 364),
  (364, mx_iload 3 365),
  (365, mx_push (.inl (nI 1)) 366),
  (366, mx_iadd 367),
  (367, mx_sld L xs 368),
  (368, mx_aloadT 0 369),
  (369, mx_iload 3 370),
  (370, mx_push (.inl (nI 2)) 371),
  (371, mx_iadd 372),
  (372, mx_sld L xs 373),
  (373, mx_aloadT 0 374),
  (374, mx_iload 3 375),
  (375, mx_push (.inl (nI 3)) 376),
  (376, mx_iadd 377),
  (377, mx_sld L xs 378),
  (378, mx_aloadT 0 379),
  (379, mx_iload 3 380),
  (380, mx_push (.inl (nI 4)) 381),
  (381, mx_iadd 382),
  (382, mx_sld L xs 383),
  (383, mx_cv4 6 sp_L_hide 600000 7302250 386),
  (386, mx_pop 387),
  (387, mx_aload 2 388),
  (388, mx_aloadT 0 389),
  (389, mx_iload 3 390),
  (390, mx_push (.inl (nI 1)) 391),
  (391, mx_iadd 392),
  (392, mx_sld L xs 393),
  (393, mx_aloadT 0 394),
  (394, mx_iload 3 395),
  (395, mx_push (.inl (nI 2)) 396),
  (396, mx_iadd 397),
  (397, mx_sld L xs 398),
  (398, mx_aloadT 0 399),
  (399, mx_iload 3 400),
  (400, mx_push (.inl (nI 3)) 401),
  (401, mx_iadd 402),
  (402, mx_sld L xs 403),
  (403, mx_aloadT 0 404),
  (404, mx_iload 3 405),
  (405, mx_push (.inl (nI 4)) 406),
  (406, mx_iadd 407),
  (407, mx_sld L xs 408),
  (408, mx_cv4 7 sp_M_hide 600000 7302250 411),
  (411, mx_pop 412),
  (412, mx_goto 568),
  (415, mx_aload 1 416),
  (416, mx_aloadT 0 417),
  (417, mx_iload 3 418),
  (418, mx_push (.inl (nI 1)) 419),
  (419, mx_iadd 420),
  (420, mx_sld L xs 421),
  (421, mx_i2l 422),
  (422, mx_push (.inl (nI 32)) 424),
  (424, mx_lshl 425),
  (425, mx_aloadT 0 426),
  (426, mx_iload 3 427),
  (427, mx_push (.inl (nI 2)) 428),
  (428, mx_iadd 429),
  (429, mx_sld L xs 430),
  (430, mx_i2l 431),
  (431, mx_push (.inr (.inl 4294967295)) 434),
  (434, mx_land 435),
  (435, mx_lor 436),
  (436, mx_cv1 6 sp_L_fill 600000 7302250 439),
  (439, mx_pop 440),
  (440, mx_aload 2 441),
  (441, mx_aloadT 0 442),
  (442, mx_iload 3 443),
  (443, mx_push (.inl (nI 1)) 444),
  (444, mx_iadd 445),
  (445, mx_sld L xs 446),
  (446, mx_i2l 447),
  (447, mx_push (.inl (nI 32)) 449),
  (449, mx_lshl 450),
  (450, mx_aloadT 0 451),
  (451, mx_iload 3 452),
  (452, mx_push (.inl (nI 2)) 453),
  (453, mx_iadd 454),
  (454, mx_sld L xs 455),
  (455, mx_i2l 456),
  (456, mx_push (.inr (.inl 4294967295)) 459),
  (459, mx_land 460),
  (460, mx_lor 461),
  (461, mx_cv1 7 sp_M_fill 600000 7302250 464),
  (464, mx_pop 465),
  (465, mx_goto 568),
  (468, mx_aload 1 469),
  (469, mx_aloadT 0 470),
  (470, mx_iload 3 471),
  (471, mx_push (.inl (nI 1)) 472),
  (472, mx_iadd 473),
  (473, mx_sld L xs 474),
  (474, mx_aloadT 0 475),
  (475, mx_iload 3 476),
  (476, mx_push (.inl (nI 2)) 477),
  (477, mx_iadd 478),
  (478, mx_sld L xs 479),
  (479, mx_cv2 6 sp_L_cell 600000 7302250 482),
  (482, mx_pop 483),
  (483, mx_aload 2 484),
  (484, mx_aloadT 0 485),
  (485, mx_iload 3 486),
  (486, mx_push (.inl (nI 1)) 487),
  (487, mx_iadd 488),
  (488, mx_sld L xs 489),
  (489, mx_aloadT 0 490),
  (490, mx_iload 3 491),
  (491, mx_push (.inl (nI 2)) 492),
  (492, mx_iadd 493),
  (493, mx_sld L xs 494),
  (494, mx_cv2 7 sp_M_cell 600000 7302250 497),
  (497, mx_pop 498),
  (498, mx_goto 568),
  (501, mx_aload 1 502),
  (502, mx_aloadT 0 503),
  (503, mx_iload 3 504),
  (504, mx_push (.inl (nI 1)) 505),
  (505, mx_iadd 506),
  (506, mx_sld L xs 507),
  (507, mx_cv1 6 sp_L_found 600000 7302250 510),
  (510, mx_pop 511),
  (511, mx_aload 2 512),
  (512, mx_aloadT 0 513),
  (513, mx_iload 3 514),
  (514, mx_push (.inl (nI 1)) 515),
  (515, mx_iadd 516),
  (516, mx_sld L xs 517),
  (517, mx_cv1 7 sp_M_found 600000 7302250 520),
  (520, mx_pop 521),
  (521, mx_goto 568),
  (524, mx_aload 1 525),
  (525, mx_aloadT 0 526),
  (526, mx_iload 3 527),
  (527, mx_push (.inl (nI 1)) 528),
  (528, mx_iadd 529),
  (529, mx_sld L xs 530),
  (530, mx_aloadT 0 531),
  (531, mx_iload 3 532),
  (532, mx_push (.inl (nI 2)) 533),
  (533, mx_iadd 534),
  (534, mx_sld L xs 535),
  (535, mx_cv2 6 sp_L_where 600000 7302250 538),
  (538, mx_pop 539),
  (539, mx_aload 2 540),
  (540, mx_aloadT 0 541),
  (541, mx_iload 3 542),
  (542, mx_push (.inl (nI 1)) 543),
  (543, mx_iadd 544),
  (544, mx_sld L xs 545),
  (545, mx_aloadT 0 546),
  (546, mx_iload 3 547),
  (547, mx_push (.inl (nI 2)) 548),
  (548, mx_iadd 549),
  (549, mx_sld L xs 550),
  (550, mx_cv2 7 sp_M_where 600000 7302250 553),
  (553, mx_pop 554),
  (554, mx_goto 568),
  (557, mx_aload 1 558),
  (558, mx_cv0 6 sp_L_wipe 600000 7302250 561),
  (561, mx_aload 2 562),
  (562, mx_cv0 7 sp_M_wipe 600000 7302250 565),
  (565, mx_goto 568),
  (568, mx_iinc 3 (nI 5) 571),
  (571, mx_goto 18),
  (574, mx_push (.inl (nI 1)) 575),
  (575, mx_law)]
