/-! THE CLAIM OUT OF ONE WALK OF THE LAW'S BODY. Your part is whole_start (and what it stands on); all else here is the same for every law, but numbers. -/
def R_law : String := "CellBookLaw"
def lw_P (b : Addr) (xs : List Int32) (args : Array Value) (s : State) : Prop := args = #[.ref b] ∧ s.IntsAt b xs ∧ xs.length ≤ 2048 ∧ (Jvm.Cond.and given_1 narrow_1).before args s = true
def lw_Q (_ : Array Value) (s : State) (o : Outcome) (t : State) : Prop := o = .returned (some (.int 1)) ∧ Framed s o t [] 600000 7302250
def lw_Z (below : List Frame) (a : Array Value) (s : State) : State → Prop := fun t => ∃ o, t.status = .running ∧ Ended t below o ∧ lw_Q a s o t
/-- the law's own end, with 1 on the stack, nothing written that was there before, its room as the claim has it -/
theorem lw_ret {p : Program} {l : Launch} {e : Env} {s : State} {m : MethodId} {below : List Frame} {meth : Method} {c : Code} {b : Nat} (hx : p.tables.exec = Jvm.exec) (hb : c.code = code) (hr : meth.sig.returnType = ret) (hlocks : meth.locks = false) {pc : Nat} {H : Heap} {ls : Array Slot} (hdg : decode code pc = .ok (.ireturn, 1)) : W p l e room_1 s m #[Value.ref b] below meth c H [] 600000 7302250 (lw_Z below #[Value.ref b] s) (F0 m pc ls [.int 1]) := by
  intro T hT X
  obtain ⟨fs, hret, hrun, hended, hW, hframe⟩ := X.leave (v := some (.int 1)) (hlocks := hlocks) (fun h => by rw [hr] at h; cases h)
  have hmeth' : T.vm.method? m = some meth := X.method'
  refine ⟨T.setFrames fs, ?_, .returned (some (.int 1)), hrun, hended, rfl, ⟨_, rfl⟩, hW, hframe⟩
  jvm_step X.here [X.here.top, hx, hb, hdg, hmeth', hr, ret, narrow_b1]
  (try refine ⟨rfl, ?_⟩); (try refine ⟨rfl, ?_⟩)
  first | (intro acts; rw [hret _ acts rfl rfl rfl]) | rw [hret _ _ rfl rfl rfl]
  exact Steps.refl _
/-- what holds at the law's entry: the machine, the code, the tables' words (any of lw_tbl by 'hts w (by decide +kernel)'), the script of L ints xs at the cell b, what the Statement gives of the start (any of its parts by flat_of_before) -/
def lw_At (p : Program) (s : State) (m : MethodId) (meth : Method) (c : Code) (b L : Nat) (xs : Nat → Int32) : Prop :=
  p.tables.exec = Jvm.exec ∧ c.code = code ∧ meth.sig.returnType = ret ∧ c.maxLocals = 4 ∧ s.vm.findClass R_law = some m.cls ∧ (∀ w ∈ lw_tbl, w.before #[Value.ref b] s = true) ∧ va_X b L xs s s.heap ∧ b < s.heap.size ∧ meth.locks = false ∧ (Jvm.Cond.and given_1 narrow_1).before #[Value.ref b] s = true
theorem d_La_0 : decode code 0 = .ok (.new 7, 3) := by decide +kernel
theorem d_La_3 : decode code 3 = .ok (.dup, 1) := by decide +kernel
theorem d_La_4 : decode code 4 = .ok (.invokespecial 9, 3) := by decide +kernel
theorem d_La_7 : decode code 7 = .ok (.astore_n 1, 1) := by decide +kernel
theorem d_La_8 : decode code 8 = .ok (.new 10, 3) := by decide +kernel
theorem d_La_11 : decode code 11 = .ok (.dup, 1) := by decide +kernel
theorem d_La_12 : decode code 12 = .ok (.invokespecial 12, 3) := by decide +kernel
theorem d_La_15 : decode code 15 = .ok (.astore_n 2, 1) := by decide +kernel
theorem d_La_16 : decode code 16 = .ok (.iconst 0, 1) := by decide +kernel
theorem d_La_17 : decode code 17 = .ok (.istore_n 3, 1) := by decide +kernel
theorem d_La_18 : decode code 18 = .ok (.iload_n 3, 1) := by decide +kernel
theorem d_La_19 : decode code 19 = .ok (.aload_n 0, 1) := by decide +kernel
theorem d_La_20 : decode code 20 = .ok (.arraylength, 1) := by decide +kernel
theorem d_La_21 : decode code 21 = .ok (.iconst 4, 1) := by decide +kernel
theorem d_La_22 : decode code 22 = .ok (.isub, 1) := by decide +kernel
theorem d_La_23 : decode code 23 = .ok (.if_icmp .gt 368, 3) := by decide +kernel
theorem d_La_26 : decode code 26 = .ok (.aload_n 0, 1) := by decide +kernel
theorem d_La_27 : decode code 27 = .ok (.iload_n 3, 1) := by decide +kernel
theorem d_La_28 : decode code 28 = .ok (.iaload, 1) := by decide +kernel
theorem d_La_29 : decode code 29 = .ok (.bipush 15, 2) := by decide +kernel
theorem d_La_31 : decode code 31 = .ok (.iand, 1) := by decide +kernel
theorem d_La_32 : decode code 32 = .ok (.tableswitch 353 0 10 #[60, 123, 156, 179, 202, 225, 248, 271, 294, 317, 340], 60) := by decide +kernel
theorem d_La_92 : decode code 92 = .ok (.aload_n 1, 1) := by decide +kernel
theorem d_La_93 : decode code 93 = .ok (.aload_n 0, 1) := by decide +kernel
theorem d_La_94 : decode code 94 = .ok (.iload_n 3, 1) := by decide +kernel
theorem d_La_95 : decode code 95 = .ok (.iconst 1, 1) := by decide +kernel
theorem d_La_96 : decode code 96 = .ok (.iadd, 1) := by decide +kernel
theorem d_La_97 : decode code 97 = .ok (.iaload, 1) := by decide +kernel
theorem d_La_98 : decode code 98 = .ok (.i2l, 1) := by decide +kernel
theorem d_La_99 : decode code 99 = .ok (.bipush 32, 2) := by decide +kernel
theorem d_La_101 : decode code 101 = .ok (.lshl, 1) := by decide +kernel
theorem d_La_102 : decode code 102 = .ok (.aload_n 0, 1) := by decide +kernel
theorem d_La_103 : decode code 103 = .ok (.iload_n 3, 1) := by decide +kernel
theorem d_La_104 : decode code 104 = .ok (.iconst 2, 1) := by decide +kernel
theorem d_La_105 : decode code 105 = .ok (.iadd, 1) := by decide +kernel
theorem d_La_106 : decode code 106 = .ok (.iaload, 1) := by decide +kernel
theorem d_La_107 : decode code 107 = .ok (.i2l, 1) := by decide +kernel
theorem d_La_108 : decode code 108 = .ok (.ldc2_w 13, 3) := by decide +kernel
theorem d_La_111 : decode code 111 = .ok (.land, 1) := by decide +kernel
theorem d_La_112 : decode code 112 = .ok (.lor, 1) := by decide +kernel
theorem d_La_113 : decode code 113 = .ok (.aload_n 0, 1) := by decide +kernel
theorem d_La_114 : decode code 114 = .ok (.iload_n 3, 1) := by decide +kernel
theorem d_La_115 : decode code 115 = .ok (.iconst 3, 1) := by decide +kernel
theorem d_La_116 : decode code 116 = .ok (.iadd, 1) := by decide +kernel
theorem d_La_117 : decode code 117 = .ok (.iaload, 1) := by decide +kernel
theorem d_La_118 : decode code 118 = .ok (.invokevirtual 15, 3) := by decide +kernel
theorem d_La_121 : decode code 121 = .ok (.aload_n 2, 1) := by decide +kernel
theorem d_La_122 : decode code 122 = .ok (.aload_n 0, 1) := by decide +kernel
theorem d_La_123 : decode code 123 = .ok (.iload_n 3, 1) := by decide +kernel
theorem d_La_124 : decode code 124 = .ok (.iconst 1, 1) := by decide +kernel
theorem d_La_125 : decode code 125 = .ok (.iadd, 1) := by decide +kernel
theorem d_La_126 : decode code 126 = .ok (.iaload, 1) := by decide +kernel
theorem d_La_127 : decode code 127 = .ok (.i2l, 1) := by decide +kernel
theorem d_La_128 : decode code 128 = .ok (.bipush 32, 2) := by decide +kernel
theorem d_La_130 : decode code 130 = .ok (.lshl, 1) := by decide +kernel
theorem d_La_131 : decode code 131 = .ok (.aload_n 0, 1) := by decide +kernel
theorem d_La_132 : decode code 132 = .ok (.iload_n 3, 1) := by decide +kernel
theorem d_La_133 : decode code 133 = .ok (.iconst 2, 1) := by decide +kernel
theorem d_La_134 : decode code 134 = .ok (.iadd, 1) := by decide +kernel
theorem d_La_135 : decode code 135 = .ok (.iaload, 1) := by decide +kernel
theorem d_La_136 : decode code 136 = .ok (.i2l, 1) := by decide +kernel
theorem d_La_137 : decode code 137 = .ok (.ldc2_w 13, 3) := by decide +kernel
theorem d_La_140 : decode code 140 = .ok (.land, 1) := by decide +kernel
theorem d_La_141 : decode code 141 = .ok (.lor, 1) := by decide +kernel
theorem d_La_142 : decode code 142 = .ok (.aload_n 0, 1) := by decide +kernel
theorem d_La_143 : decode code 143 = .ok (.iload_n 3, 1) := by decide +kernel
theorem d_La_144 : decode code 144 = .ok (.iconst 3, 1) := by decide +kernel
theorem d_La_145 : decode code 145 = .ok (.iadd, 1) := by decide +kernel
theorem d_La_146 : decode code 146 = .ok (.iaload, 1) := by decide +kernel
theorem d_La_147 : decode code 147 = .ok (.invokevirtual 19, 3) := by decide +kernel
theorem d_La_150 : decode code 150 = .ok (.if_icmp .eq 235, 3) := by decide +kernel
theorem d_La_153 : decode code 153 = .ok (.iconst 0, 1) := by decide +kernel
theorem d_La_154 : decode code 154 = .ok (.ireturn, 1) := by decide +kernel
theorem d_La_155 : decode code 155 = .ok (.aload_n 1, 1) := by decide +kernel
theorem d_La_156 : decode code 156 = .ok (.aload_n 0, 1) := by decide +kernel
theorem d_La_157 : decode code 157 = .ok (.iload_n 3, 1) := by decide +kernel
theorem d_La_158 : decode code 158 = .ok (.iconst 1, 1) := by decide +kernel
theorem d_La_159 : decode code 159 = .ok (.iadd, 1) := by decide +kernel
theorem d_La_160 : decode code 160 = .ok (.iaload, 1) := by decide +kernel
theorem d_La_161 : decode code 161 = .ok (.aload_n 0, 1) := by decide +kernel
theorem d_La_162 : decode code 162 = .ok (.iload_n 3, 1) := by decide +kernel
theorem d_La_163 : decode code 163 = .ok (.iconst 2, 1) := by decide +kernel
theorem d_La_164 : decode code 164 = .ok (.iadd, 1) := by decide +kernel
theorem d_La_165 : decode code 165 = .ok (.iaload, 1) := by decide +kernel
theorem d_La_166 : decode code 166 = .ok (.invokevirtual 20, 3) := by decide +kernel
theorem d_La_169 : decode code 169 = .ok (.aload_n 2, 1) := by decide +kernel
theorem d_La_170 : decode code 170 = .ok (.aload_n 0, 1) := by decide +kernel
theorem d_La_171 : decode code 171 = .ok (.iload_n 3, 1) := by decide +kernel
theorem d_La_172 : decode code 172 = .ok (.iconst 1, 1) := by decide +kernel
theorem d_La_173 : decode code 173 = .ok (.iadd, 1) := by decide +kernel
theorem d_La_174 : decode code 174 = .ok (.iaload, 1) := by decide +kernel
theorem d_La_175 : decode code 175 = .ok (.aload_n 0, 1) := by decide +kernel
theorem d_La_176 : decode code 176 = .ok (.iload_n 3, 1) := by decide +kernel
theorem d_La_177 : decode code 177 = .ok (.iconst 2, 1) := by decide +kernel
theorem d_La_178 : decode code 178 = .ok (.iadd, 1) := by decide +kernel
theorem d_La_179 : decode code 179 = .ok (.iaload, 1) := by decide +kernel
theorem d_La_180 : decode code 180 = .ok (.invokevirtual 24, 3) := by decide +kernel
theorem d_La_183 : decode code 183 = .ok (.if_icmp .eq 202, 3) := by decide +kernel
theorem d_La_186 : decode code 186 = .ok (.iconst 0, 1) := by decide +kernel
theorem d_La_187 : decode code 187 = .ok (.ireturn, 1) := by decide +kernel
theorem d_La_188 : decode code 188 = .ok (.aload_n 1, 1) := by decide +kernel
theorem d_La_189 : decode code 189 = .ok (.aload_n 0, 1) := by decide +kernel
theorem d_La_190 : decode code 190 = .ok (.iload_n 3, 1) := by decide +kernel
theorem d_La_191 : decode code 191 = .ok (.iconst 1, 1) := by decide +kernel
theorem d_La_192 : decode code 192 = .ok (.iadd, 1) := by decide +kernel
theorem d_La_193 : decode code 193 = .ok (.iaload, 1) := by decide +kernel
theorem d_La_194 : decode code 194 = .ok (.invokevirtual 25, 3) := by decide +kernel
theorem d_La_197 : decode code 197 = .ok (.aload_n 2, 1) := by decide +kernel
theorem d_La_198 : decode code 198 = .ok (.aload_n 0, 1) := by decide +kernel
theorem d_La_199 : decode code 199 = .ok (.iload_n 3, 1) := by decide +kernel
theorem d_La_200 : decode code 200 = .ok (.iconst 1, 1) := by decide +kernel
theorem d_La_201 : decode code 201 = .ok (.iadd, 1) := by decide +kernel
theorem d_La_202 : decode code 202 = .ok (.iaload, 1) := by decide +kernel
theorem d_La_203 : decode code 203 = .ok (.invokevirtual 29, 3) := by decide +kernel
theorem d_La_206 : decode code 206 = .ok (.if_icmp .eq 179, 3) := by decide +kernel
theorem d_La_209 : decode code 209 = .ok (.iconst 0, 1) := by decide +kernel
theorem d_La_210 : decode code 210 = .ok (.ireturn, 1) := by decide +kernel
theorem d_La_211 : decode code 211 = .ok (.aload_n 1, 1) := by decide +kernel
theorem d_La_212 : decode code 212 = .ok (.aload_n 0, 1) := by decide +kernel
theorem d_La_213 : decode code 213 = .ok (.iload_n 3, 1) := by decide +kernel
theorem d_La_214 : decode code 214 = .ok (.iconst 1, 1) := by decide +kernel
theorem d_La_215 : decode code 215 = .ok (.iadd, 1) := by decide +kernel
theorem d_La_216 : decode code 216 = .ok (.iaload, 1) := by decide +kernel
theorem d_La_217 : decode code 217 = .ok (.invokevirtual 30, 3) := by decide +kernel
theorem d_La_220 : decode code 220 = .ok (.aload_n 2, 1) := by decide +kernel
theorem d_La_221 : decode code 221 = .ok (.aload_n 0, 1) := by decide +kernel
theorem d_La_222 : decode code 222 = .ok (.iload_n 3, 1) := by decide +kernel
theorem d_La_223 : decode code 223 = .ok (.iconst 1, 1) := by decide +kernel
theorem d_La_224 : decode code 224 = .ok (.iadd, 1) := by decide +kernel
theorem d_La_225 : decode code 225 = .ok (.iaload, 1) := by decide +kernel
theorem d_La_226 : decode code 226 = .ok (.invokevirtual 34, 3) := by decide +kernel
theorem d_La_229 : decode code 229 = .ok (.if_icmp .eq 156, 3) := by decide +kernel
theorem d_La_232 : decode code 232 = .ok (.iconst 0, 1) := by decide +kernel
theorem d_La_233 : decode code 233 = .ok (.ireturn, 1) := by decide +kernel
theorem d_La_234 : decode code 234 = .ok (.aload_n 1, 1) := by decide +kernel
theorem d_La_235 : decode code 235 = .ok (.aload_n 0, 1) := by decide +kernel
theorem d_La_236 : decode code 236 = .ok (.iload_n 3, 1) := by decide +kernel
theorem d_La_237 : decode code 237 = .ok (.iconst 1, 1) := by decide +kernel
theorem d_La_238 : decode code 238 = .ok (.iadd, 1) := by decide +kernel
theorem d_La_239 : decode code 239 = .ok (.iaload, 1) := by decide +kernel
theorem d_La_240 : decode code 240 = .ok (.invokevirtual 35, 3) := by decide +kernel
theorem d_La_243 : decode code 243 = .ok (.aload_n 2, 1) := by decide +kernel
theorem d_La_244 : decode code 244 = .ok (.aload_n 0, 1) := by decide +kernel
theorem d_La_245 : decode code 245 = .ok (.iload_n 3, 1) := by decide +kernel
theorem d_La_246 : decode code 246 = .ok (.iconst 1, 1) := by decide +kernel
theorem d_La_247 : decode code 247 = .ok (.iadd, 1) := by decide +kernel
theorem d_La_248 : decode code 248 = .ok (.iaload, 1) := by decide +kernel
theorem d_La_249 : decode code 249 = .ok (.invokevirtual 38, 3) := by decide +kernel
theorem d_La_252 : decode code 252 = .ok (.if_icmp .eq 133, 3) := by decide +kernel
theorem d_La_255 : decode code 255 = .ok (.iconst 0, 1) := by decide +kernel
theorem d_La_256 : decode code 256 = .ok (.ireturn, 1) := by decide +kernel
theorem d_La_257 : decode code 257 = .ok (.aload_n 1, 1) := by decide +kernel
theorem d_La_258 : decode code 258 = .ok (.aload_n 0, 1) := by decide +kernel
theorem d_La_259 : decode code 259 = .ok (.iload_n 3, 1) := by decide +kernel
theorem d_La_260 : decode code 260 = .ok (.iconst 1, 1) := by decide +kernel
theorem d_La_261 : decode code 261 = .ok (.iadd, 1) := by decide +kernel
theorem d_La_262 : decode code 262 = .ok (.iaload, 1) := by decide +kernel
theorem d_La_263 : decode code 263 = .ok (.invokevirtual 39, 3) := by decide +kernel
theorem d_La_266 : decode code 266 = .ok (.aload_n 2, 1) := by decide +kernel
theorem d_La_267 : decode code 267 = .ok (.aload_n 0, 1) := by decide +kernel
theorem d_La_268 : decode code 268 = .ok (.iload_n 3, 1) := by decide +kernel
theorem d_La_269 : decode code 269 = .ok (.iconst 1, 1) := by decide +kernel
theorem d_La_270 : decode code 270 = .ok (.iadd, 1) := by decide +kernel
theorem d_La_271 : decode code 271 = .ok (.iaload, 1) := by decide +kernel
theorem d_La_272 : decode code 272 = .ok (.invokevirtual 42, 3) := by decide +kernel
theorem d_La_275 : decode code 275 = .ok (.if_icmp .eq 110, 3) := by decide +kernel
theorem d_La_278 : decode code 278 = .ok (.iconst 0, 1) := by decide +kernel
theorem d_La_279 : decode code 279 = .ok (.ireturn, 1) := by decide +kernel
theorem d_La_280 : decode code 280 = .ok (.aload_n 1, 1) := by decide +kernel
theorem d_La_281 : decode code 281 = .ok (.aload_n 0, 1) := by decide +kernel
theorem d_La_282 : decode code 282 = .ok (.iload_n 3, 1) := by decide +kernel
theorem d_La_283 : decode code 283 = .ok (.iconst 1, 1) := by decide +kernel
theorem d_La_284 : decode code 284 = .ok (.iadd, 1) := by decide +kernel
theorem d_La_285 : decode code 285 = .ok (.iaload, 1) := by decide +kernel
theorem d_La_286 : decode code 286 = .ok (.invokevirtual 43, 3) := by decide +kernel
theorem d_La_289 : decode code 289 = .ok (.aload_n 2, 1) := by decide +kernel
theorem d_La_290 : decode code 290 = .ok (.aload_n 0, 1) := by decide +kernel
theorem d_La_291 : decode code 291 = .ok (.iload_n 3, 1) := by decide +kernel
theorem d_La_292 : decode code 292 = .ok (.iconst 1, 1) := by decide +kernel
theorem d_La_293 : decode code 293 = .ok (.iadd, 1) := by decide +kernel
theorem d_La_294 : decode code 294 = .ok (.iaload, 1) := by decide +kernel
theorem d_La_295 : decode code 295 = .ok (.invokevirtual 46, 3) := by decide +kernel
theorem d_La_298 : decode code 298 = .ok (.if_icmp .eq 87, 3) := by decide +kernel
theorem d_La_301 : decode code 301 = .ok (.iconst 0, 1) := by decide +kernel
theorem d_La_302 : decode code 302 = .ok (.ireturn, 1) := by decide +kernel
theorem d_La_303 : decode code 303 = .ok (.aload_n 1, 1) := by decide +kernel
theorem d_La_304 : decode code 304 = .ok (.aload_n 0, 1) := by decide +kernel
theorem d_La_305 : decode code 305 = .ok (.iload_n 3, 1) := by decide +kernel
theorem d_La_306 : decode code 306 = .ok (.iconst 1, 1) := by decide +kernel
theorem d_La_307 : decode code 307 = .ok (.iadd, 1) := by decide +kernel
theorem d_La_308 : decode code 308 = .ok (.iaload, 1) := by decide +kernel
theorem d_La_309 : decode code 309 = .ok (.invokevirtual 47, 3) := by decide +kernel
theorem d_La_312 : decode code 312 = .ok (.aload_n 2, 1) := by decide +kernel
theorem d_La_313 : decode code 313 = .ok (.aload_n 0, 1) := by decide +kernel
theorem d_La_314 : decode code 314 = .ok (.iload_n 3, 1) := by decide +kernel
theorem d_La_315 : decode code 315 = .ok (.iconst 1, 1) := by decide +kernel
theorem d_La_316 : decode code 316 = .ok (.iadd, 1) := by decide +kernel
theorem d_La_317 : decode code 317 = .ok (.iaload, 1) := by decide +kernel
theorem d_La_318 : decode code 318 = .ok (.invokevirtual 50, 3) := by decide +kernel
theorem d_La_321 : decode code 321 = .ok (.if_icmp .eq 64, 3) := by decide +kernel
theorem d_La_324 : decode code 324 = .ok (.iconst 0, 1) := by decide +kernel
theorem d_La_325 : decode code 325 = .ok (.ireturn, 1) := by decide +kernel
theorem d_La_326 : decode code 326 = .ok (.aload_n 1, 1) := by decide +kernel
theorem d_La_327 : decode code 327 = .ok (.aload_n 0, 1) := by decide +kernel
theorem d_La_328 : decode code 328 = .ok (.iload_n 3, 1) := by decide +kernel
theorem d_La_329 : decode code 329 = .ok (.iconst 1, 1) := by decide +kernel
theorem d_La_330 : decode code 330 = .ok (.iadd, 1) := by decide +kernel
theorem d_La_331 : decode code 331 = .ok (.iaload, 1) := by decide +kernel
theorem d_La_332 : decode code 332 = .ok (.invokevirtual 51, 3) := by decide +kernel
theorem d_La_335 : decode code 335 = .ok (.aload_n 2, 1) := by decide +kernel
theorem d_La_336 : decode code 336 = .ok (.aload_n 0, 1) := by decide +kernel
theorem d_La_337 : decode code 337 = .ok (.iload_n 3, 1) := by decide +kernel
theorem d_La_338 : decode code 338 = .ok (.iconst 1, 1) := by decide +kernel
theorem d_La_339 : decode code 339 = .ok (.iadd, 1) := by decide +kernel
theorem d_La_340 : decode code 340 = .ok (.iaload, 1) := by decide +kernel
theorem d_La_341 : decode code 341 = .ok (.invokevirtual 54, 3) := by decide +kernel
theorem d_La_344 : decode code 344 = .ok (.if_icmp .eq 41, 3) := by decide +kernel
theorem d_La_347 : decode code 347 = .ok (.iconst 0, 1) := by decide +kernel
theorem d_La_348 : decode code 348 = .ok (.ireturn, 1) := by decide +kernel
theorem d_La_349 : decode code 349 = .ok (.aload_n 1, 1) := by decide +kernel
theorem d_La_350 : decode code 350 = .ok (.aload_n 0, 1) := by decide +kernel
theorem d_La_351 : decode code 351 = .ok (.iload_n 3, 1) := by decide +kernel
theorem d_La_352 : decode code 352 = .ok (.iconst 1, 1) := by decide +kernel
theorem d_La_353 : decode code 353 = .ok (.iadd, 1) := by decide +kernel
theorem d_La_354 : decode code 354 = .ok (.iaload, 1) := by decide +kernel
theorem d_La_355 : decode code 355 = .ok (.invokevirtual 55, 3) := by decide +kernel
theorem d_La_358 : decode code 358 = .ok (.aload_n 2, 1) := by decide +kernel
theorem d_La_359 : decode code 359 = .ok (.aload_n 0, 1) := by decide +kernel
theorem d_La_360 : decode code 360 = .ok (.iload_n 3, 1) := by decide +kernel
theorem d_La_361 : decode code 361 = .ok (.iconst 1, 1) := by decide +kernel
theorem d_La_362 : decode code 362 = .ok (.iadd, 1) := by decide +kernel
theorem d_La_363 : decode code 363 = .ok (.iaload, 1) := by decide +kernel
theorem d_La_364 : decode code 364 = .ok (.invokevirtual 58, 3) := by decide +kernel
theorem d_La_367 : decode code 367 = .ok (.if_icmp .eq 18, 3) := by decide +kernel
theorem d_La_370 : decode code 370 = .ok (.iconst 0, 1) := by decide +kernel
theorem d_La_371 : decode code 371 = .ok (.ireturn, 1) := by decide +kernel
theorem d_La_372 : decode code 372 = .ok (.aload_n 1, 1) := by decide +kernel
theorem d_La_373 : decode code 373 = .ok (.invokevirtual 59, 3) := by decide +kernel
theorem d_La_376 : decode code 376 = .ok (.aload_n 2, 1) := by decide +kernel
theorem d_La_377 : decode code 377 = .ok (.invokevirtual 63, 3) := by decide +kernel
theorem d_La_380 : decode code 380 = .ok (.if_icmp .eq 5, 3) := by decide +kernel
theorem d_La_383 : decode code 383 = .ok (.iconst 0, 1) := by decide +kernel
theorem d_La_384 : decode code 384 = .ok (.ireturn, 1) := by decide +kernel
theorem d_La_385 : decode code 385 = .ok (.iinc 3 4, 3) := by decide +kernel
theorem d_La_388 : decode code 388 = .ok (.goto (-370), 3) := by decide +kernel
theorem d_La_391 : decode code 391 = .ok (.iconst 1, 1) := by decide +kernel
theorem d_La_392 : decode code 392 = .ok (.ireturn, 1) := by decide +kernel
set_option maxRecDepth 100000 in
theorem wm_10 : Cond.classLink R_law 7 gC_B ∈ wG := wG_tb 10 rfl rfl
set_option maxRecDepth 100000 in
theorem wm_12 : Cond.methodLink R_law 9 y_B_init ∈ wG := wG_tb 12 rfl rfl
set_option maxRecDepth 100000 in
theorem wm_158 : Cond.methodLink R_law 15 y_B_type ∈ wG := wG_tb 158 rfl rfl
set_option maxRecDepth 100000 in
theorem wm_169 : Cond.methodLink R_law 20 y_B_set ∈ wG := wG_tb 169 rfl rfl
set_option maxRecDepth 100000 in
theorem wm_284 : Cond.methodLink R_law 25 y_B_remove ∈ wG := wG_tb 284 rfl rfl
set_option maxRecDepth 100000 in
theorem wm_296 : Cond.methodLink R_law 30 y_B_work ∈ wG := wG_tb 296 rfl rfl
set_option maxRecDepth 100000 in
theorem wm_413 : Cond.methodLink R_law 35 y_B_cancel ∈ wG := wG_tb 413 rfl rfl
set_option maxRecDepth 100000 in
theorem wm_418 : Cond.methodLink R_law 39 y_B_status ∈ wG := wG_tb 418 rfl rfl
set_option maxRecDepth 100000 in
theorem wm_422 : Cond.methodLink R_law 43 y_B_value ∈ wG := wG_tb 422 rfl rfl
set_option maxRecDepth 100000 in
theorem wm_426 : Cond.methodLink R_law 47 y_B_kind ∈ wG := wG_tb 426 rfl rfl
set_option maxRecDepth 100000 in
theorem wm_430 : Cond.methodLink R_law 51 y_B_uses ∈ wG := wG_tb 430 rfl rfl
set_option maxRecDepth 100000 in
theorem wm_434 : Cond.methodLink R_law 55 y_B_runs ∈ wG := wG_tb 434 rfl rfl
set_option maxRecDepth 100000 in
theorem wm_438 : Cond.methodLink R_law 59 y_B_steps ∈ wG := wG_tb 438 rfl rfl
set_option maxRecDepth 100000 in
theorem wm_442 : Cond.classLink R_law 10 gC_Mo ∈ wG := wG_tb 442 rfl rfl
set_option maxRecDepth 100000 in
theorem wm_444 : Cond.methodLink R_law 12 y_Mo_init ∈ wG := wG_tb 444 rfl rfl
set_option maxRecDepth 100000 in
theorem wm_543 : Cond.methodLink R_law 19 y_Mo_type ∈ wG := wG_tb 543 rfl rfl
set_option maxRecDepth 100000 in
theorem wm_550 : Cond.methodLink R_law 24 y_Mo_set ∈ wG := wG_tb 550 rfl rfl
set_option maxRecDepth 100000 in
theorem wm_608 : Cond.methodLink R_law 29 y_Mo_remove ∈ wG := wG_tb 608 rfl rfl
set_option maxRecDepth 100000 in
theorem wm_612 : Cond.methodLink R_law 34 y_Mo_work ∈ wG := wG_tb 612 rfl rfl
set_option maxRecDepth 100000 in
theorem wm_708 : Cond.methodLink R_law 38 y_Mo_cancel ∈ wG := wG_tb 708 rfl rfl
set_option maxRecDepth 100000 in
theorem wm_712 : Cond.methodLink R_law 42 y_Mo_status ∈ wG := wG_tb 712 rfl rfl
set_option maxRecDepth 100000 in
theorem wm_716 : Cond.methodLink R_law 46 y_Mo_value ∈ wG := wG_tb 716 rfl rfl
set_option maxRecDepth 100000 in
theorem wm_721 : Cond.methodLink R_law 50 y_Mo_kind ∈ wG := wG_tb 721 rfl rfl
set_option maxRecDepth 100000 in
theorem wm_725 : Cond.methodLink R_law 54 y_Mo_uses ∈ wG := wG_tb 725 rfl rfl
set_option maxRecDepth 100000 in
theorem wm_729 : Cond.methodLink R_law 58 y_Mo_runs ∈ wG := wG_tb 729 rfl rfl
set_option maxRecDepth 100000 in
theorem wm_733 : Cond.methodLink R_law 63 y_Mo_steps ∈ wG := wG_tb 733 rfl rfl
set_option maxRecDepth 100000 in
theorem wm_737 : Cond.constantLong R_law 13 4294967295 ∈ wG := wG_tb 737 rfl rfl
theorem w_ldc2 {K : Cf} {g g' : Gd} {b L : Nat} {xs : Nat → Int32} {own : String} {x : Me × Me} {cc : ByteArray} {pc ix : Nat} {lv : List (Nat × Value)} {rest : List Value} {v : Int64} (h0 : C0 K cc) (hC : CLw K g g' b L xs own) (hw9 : Cond.constantLong own ix v ∈ wG) (hdg : decode cc pc = .ok (.ldc2_w ix, 3)) (k : V K (wL g g') x (pc + 3) lv (.long v :: rest)) : V K (wL g g') x pc lv rest := fun H locs ls hw hS hl => lv_ldc2 h0.1 h0.2 hC.1.1 (hC.1.2.1 _ hw9) hdg (k H locs ls hw hS hl)
theorem gt_4 {L i : Nat} (hL : L ≤ 2048) (hi : i ≤ 2048) (h : ¬ nI L - nI 4 < nI i) : i + 4 ≤ L := by
  rw [Int32.lt_iff_toInt_lt, pk_sub_toInt (by omega) (by omega), nI_toInt (by omega)] at h
  omega
set_option maxHeartbeats 4000000 in
set_option maxRecDepth 20000 in
theorem law_loop {K : Cf} {g g' : Gd} {b L : Nat} {xs : Nat → Int32} (h0 : C0 K code) (hC : CLw K g g' b L xs R_law) (hn : kn K = 4) (hL : L ≤ 2048) (hEnd : ∀ (x : Me × Me) (lv : List (Nat × Value)), V K (wL g g') x 391 lv []) : ∀ (t i : Nat) (MB MR β : Me), L ≤ i + t → i ≤ L → RB MB β → AbsR MR β → V K (wL g g') (MB, MR) 18 [(3, .int (nI i)), (0, .ref b), (1, .ref (ga g 0)), (2, .ref (ga g' 0))] [] := by
  have hIB : sI (sB g) := hC.2.2.2.2.2.2.1
  have hIR : sI (sR g') := hC.2.2.2.2.2.2.2.1
  intro t
  induction t with
  | zero =>
    intro i MB MR β hi hi2 hB hA
    refine v_iload_n h0 d_La_18 0 rfl ?_
    refine v_aload_n h0 d_La_19 1 rfl ?_
    refine w_slen h0 hC d_La_20 ?_
    refine v_iconst h0 d_La_21 (v := nI 4) (by decide) ?_
    refine v_isub h0 d_La_22 ?_
    exact v_icmp_gt h0 d_La_23 rfl (fun _ => hEnd _ _) (fun h9 => absurd (gt_4 hL (by omega) h9) (by omega))
  | succ t ih =>
    intro i MB MR β hi hi2 hB hA
    refine v_iload_n h0 d_La_18 0 rfl ?_
    refine v_aload_n h0 d_La_19 1 rfl ?_
    refine w_slen h0 hC d_La_20 ?_
    refine v_iconst h0 d_La_21 (v := nI 4) (by decide) ?_
    refine v_isub h0 d_La_22 ?_
    refine v_icmp_gt h0 d_La_23 rfl (fun _ => hEnd _ _) (fun h9 => ?_)
    have hi4 := gt_4 hL (by omega) h9
    have hNext : ∀ (M1 N1 β1 : Me), RB M1 β1 → AbsR N1 β1 → V K (wL g g') (M1, N1) 385 [(3, .int (nI i)), (0, .ref b), (1, .ref (ga g 0)), (2, .ref (ga g' 0))] [] := by
      intro M1 N1 β1 h1 h2
      refine v_iinc h0 d_La_385 (lv' := [(3, .int (nI (i + 4))), (0, .ref b), (1, .ref (ga g 0)), (2, .ref (ga g' 0))]) 0 rfl (nI_add i 4) (lt_kn hn (by decide)) rfl ?_
      refine v_goto h0 d_La_388 rfl ?_
      exact ih (i + 4) M1 N1 β1 (by omega) (by omega) h1 h2
    refine v_aload_n h0 d_La_26 1 rfl ?_
    refine v_iload_n h0 d_La_27 0 rfl ?_
    refine w_sld h0 hC hL i rfl (by omega) d_La_28 ?_
    refine v_bipush h0 d_La_29 (v := 15) (by decide) ?_
    refine v_iand h0 d_La_31 ?_
    obtain ⟨n, hn16, he⟩ := pk_andE (xs i) (m := 15) 4 (by decide)
    refine v_int (nI n) he ?_
    have hcs : n = 0 ∨ n = 1 ∨ n = 2 ∨ n = 3 ∨ n = 4 ∨ n = 5 ∨ n = 6 ∨ n = 7 ∨ n = 8 ∨ n = 9 ∨ n = 10 ∨ 10 < n := by omega
    rcases hcs with rfl | rfl | rfl | rfl | rfl | rfl | rfl | rfl | rfl | rfl | rfl | hbig
    · skip
      refine v_tableIn h0 d_La_32 (off := 60) (by decide) (by decide) (by decide) rfl ?_
      refine v_aload_n h0 d_La_92 2 rfl ?_
      refine v_aload_n h0 d_La_93 1 rfl ?_
      refine v_iload_n h0 d_La_94 0 rfl ?_
      refine v_iconst h0 d_La_95 (v := nI 1) (by decide) ?_
      refine v_iadd h0 d_La_96 ?_
      refine v_int (nI (i + 1)) (nI_add i 1) ?_
      refine w_sld h0 hC hL (i + 1) rfl (by omega) d_La_97 ?_
      refine v_i2l h0 d_La_98 ?_
      refine v_bipush h0 d_La_99 (v := nI 32) (by decide) ?_
      refine v_lshl h0 d_La_101 ?_
      refine v_aload_n h0 d_La_102 1 rfl ?_
      refine v_iload_n h0 d_La_103 0 rfl ?_
      refine v_iconst h0 d_La_104 (v := nI 2) (by decide) ?_
      refine v_iadd h0 d_La_105 ?_
      refine v_int (nI (i + 2)) (nI_add i 2) ?_
      refine w_sld h0 hC hL (i + 2) rfl (by omega) d_La_106 ?_
      refine v_i2l h0 d_La_107 ?_
      refine w_ldc2 h0 hC wm_737 d_La_108 ?_
      refine v_land h0 d_La_111 ?_
      refine v_lor h0 d_La_112 ?_
      refine v_aload_n h0 d_La_113 1 rfl ?_
      refine v_iload_n h0 d_La_114 0 rfl ?_
      refine v_iconst h0 d_La_115 (v := nI 3) (by decide) ?_
      refine v_iadd h0 d_La_116 ?_
      refine v_int (nI (i + 3)) (nI_add i 3) ?_
      refine w_sld h0 hC hL (i + 3) rfl (by omega) d_La_117 ?_
      refine w_callB h0 hC (av := [.long ((((xs (i + 1)).toInt64) <<< ((nI 32).toInt64 &&& 63)) ||| (((xs (i + 2)).toInt64) &&& 4294967295)), .int (xs (i + 3))]) (rest := []) (k_type (kl K) g hIB hB ((((xs (i + 1)).toInt64) <<< ((nI 32).toInt64 &&& 63)) ||| (((xs (i + 2)).toInt64) &&& 4294967295)) (xs (i + 3))) wd_161 wm_158 wd_159 wd_160 wd_1 hd_B_type (by decide) (by decide) rfl rfl (Nat.le_of_ble_eq_true rfl) d_La_118 (fun r9 M9 hp0 => ?_)
      obtain ⟨rfl, hp0⟩ := hp0
      refine v_r1 ?_
      refine v_aload_n h0 d_La_121 3 rfl ?_
      refine v_aload_n h0 d_La_122 1 rfl ?_
      refine v_iload_n h0 d_La_123 0 rfl ?_
      refine v_iconst h0 d_La_124 (v := nI 1) (by decide) ?_
      refine v_iadd h0 d_La_125 ?_
      refine v_int (nI (i + 1)) (nI_add i 1) ?_
      refine w_sld h0 hC hL (i + 1) rfl (by omega) d_La_126 ?_
      refine v_i2l h0 d_La_127 ?_
      refine v_bipush h0 d_La_128 (v := nI 32) (by decide) ?_
      refine v_lshl h0 d_La_130 ?_
      refine v_aload_n h0 d_La_131 1 rfl ?_
      refine v_iload_n h0 d_La_132 0 rfl ?_
      refine v_iconst h0 d_La_133 (v := nI 2) (by decide) ?_
      refine v_iadd h0 d_La_134 ?_
      refine v_int (nI (i + 2)) (nI_add i 2) ?_
      refine w_sld h0 hC hL (i + 2) rfl (by omega) d_La_135 ?_
      refine v_i2l h0 d_La_136 ?_
      refine w_ldc2 h0 hC wm_737 d_La_137 ?_
      refine v_land h0 d_La_140 ?_
      refine v_lor h0 d_La_141 ?_
      refine v_aload_n h0 d_La_142 1 rfl ?_
      refine v_iload_n h0 d_La_143 0 rfl ?_
      refine v_iconst h0 d_La_144 (v := nI 3) (by decide) ?_
      refine v_iadd h0 d_La_145 ?_
      refine v_int (nI (i + 3)) (nI_add i 3) ?_
      refine w_sld h0 hC hL (i + 3) rfl (by omega) d_La_146 ?_
      refine w_callR h0 hC (av := [.long ((((xs (i + 1)).toInt64) <<< ((nI 32).toInt64 &&& 63)) ||| (((xs (i + 2)).toInt64) &&& 4294967295)), .int (xs (i + 3))]) (rest := [.int ((opTy β ((((xs (i + 1)).toInt64) <<< ((nI 32).toInt64 &&& 63)) ||| (((xs (i + 2)).toInt64) &&& 4294967295)) (xs (i + 3))).1)]) (q_type (kl K) g' hIR hA hB.2.1 ((((xs (i + 1)).toInt64) <<< ((nI 32).toInt64 &&& 63)) ||| (((xs (i + 2)).toInt64) &&& 4294967295)) (xs (i + 3))) wd_546 wm_543 wd_544 wd_545 wd_6 hd_Mo_type (by decide) (by decide) rfl rfl (Nat.le_of_ble_eq_true rfl) d_La_147 (fun r9 N9 hp1 => ?_)
      obtain ⟨rfl, hp1⟩ := hp1
      refine v_r1 ?_
      exact v_icmp_eq h0 d_La_150 rfl (fun _ => hNext M9 N9 _ hp0 hp1) (fun z => absurd rfl z)
    · skip
      refine v_tableIn h0 d_La_32 (off := 123) (by decide) (by decide) (by decide) rfl ?_
      refine v_aload_n h0 d_La_155 2 rfl ?_
      refine v_aload_n h0 d_La_156 1 rfl ?_
      refine v_iload_n h0 d_La_157 0 rfl ?_
      refine v_iconst h0 d_La_158 (v := nI 1) (by decide) ?_
      refine v_iadd h0 d_La_159 ?_
      refine v_int (nI (i + 1)) (nI_add i 1) ?_
      refine w_sld h0 hC hL (i + 1) rfl (by omega) d_La_160 ?_
      refine v_aload_n h0 d_La_161 1 rfl ?_
      refine v_iload_n h0 d_La_162 0 rfl ?_
      refine v_iconst h0 d_La_163 (v := nI 2) (by decide) ?_
      refine v_iadd h0 d_La_164 ?_
      refine v_int (nI (i + 2)) (nI_add i 2) ?_
      refine w_sld h0 hC hL (i + 2) rfl (by omega) d_La_165 ?_
      refine w_callB h0 hC (av := [.int (xs (i + 1)), .int (xs (i + 2))]) (rest := []) (k_set (kl K) g hIB hB (xs (i + 1)) (xs (i + 2))) wd_172 wm_169 wd_170 wd_171 wd_1 hd_B_set (by decide) (by decide) rfl rfl (Nat.le_of_ble_eq_true rfl) d_La_166 (fun r9 M9 hp0 => ?_)
      obtain ⟨rfl, hp0⟩ := hp0
      refine v_r1 ?_
      refine v_aload_n h0 d_La_169 3 rfl ?_
      refine v_aload_n h0 d_La_170 1 rfl ?_
      refine v_iload_n h0 d_La_171 0 rfl ?_
      refine v_iconst h0 d_La_172 (v := nI 1) (by decide) ?_
      refine v_iadd h0 d_La_173 ?_
      refine v_int (nI (i + 1)) (nI_add i 1) ?_
      refine w_sld h0 hC hL (i + 1) rfl (by omega) d_La_174 ?_
      refine v_aload_n h0 d_La_175 1 rfl ?_
      refine v_iload_n h0 d_La_176 0 rfl ?_
      refine v_iconst h0 d_La_177 (v := nI 2) (by decide) ?_
      refine v_iadd h0 d_La_178 ?_
      refine v_int (nI (i + 2)) (nI_add i 2) ?_
      refine w_sld h0 hC hL (i + 2) rfl (by omega) d_La_179 ?_
      refine w_callR h0 hC (av := [.int (xs (i + 1)), .int (xs (i + 2))]) (rest := [.int ((opSe β (xs (i + 1)) (xs (i + 2))).1)]) (q_set (kl K) g' hIR hA hB.2.1 (xs (i + 1)) (xs (i + 2))) wd_553 wm_550 wd_551 wd_552 wd_6 hd_Mo_set (by decide) (by decide) rfl rfl (Nat.le_of_ble_eq_true rfl) d_La_180 (fun r9 N9 hp1 => ?_)
      obtain ⟨rfl, hp1⟩ := hp1
      refine v_r1 ?_
      exact v_icmp_eq h0 d_La_183 rfl (fun _ => hNext M9 N9 _ hp0 hp1) (fun z => absurd rfl z)
    · skip
      refine v_tableIn h0 d_La_32 (off := 156) (by decide) (by decide) (by decide) rfl ?_
      refine v_aload_n h0 d_La_188 2 rfl ?_
      refine v_aload_n h0 d_La_189 1 rfl ?_
      refine v_iload_n h0 d_La_190 0 rfl ?_
      refine v_iconst h0 d_La_191 (v := nI 1) (by decide) ?_
      refine v_iadd h0 d_La_192 ?_
      refine v_int (nI (i + 1)) (nI_add i 1) ?_
      refine w_sld h0 hC hL (i + 1) rfl (by omega) d_La_193 ?_
      refine w_callB h0 hC (av := [.int (xs (i + 1))]) (rest := []) (k_remove (kl K) g hIB hB (xs (i + 1))) wd_287 wm_284 wd_285 wd_286 wd_1 hd_B_remove (by decide) (by decide) rfl rfl (Nat.le_of_ble_eq_true rfl) d_La_194 (fun r9 M9 hp0 => ?_)
      obtain ⟨rfl, hp0⟩ := hp0
      refine v_r1 ?_
      refine v_aload_n h0 d_La_197 3 rfl ?_
      refine v_aload_n h0 d_La_198 1 rfl ?_
      refine v_iload_n h0 d_La_199 0 rfl ?_
      refine v_iconst h0 d_La_200 (v := nI 1) (by decide) ?_
      refine v_iadd h0 d_La_201 ?_
      refine v_int (nI (i + 1)) (nI_add i 1) ?_
      refine w_sld h0 hC hL (i + 1) rfl (by omega) d_La_202 ?_
      refine w_callR h0 hC (av := [.int (xs (i + 1))]) (rest := [.int ((opRm β (xs (i + 1))).1)]) (q_remove (kl K) g' hIR MR hA hB.2.1 (xs (i + 1))) wd_611 wm_608 wd_609 wd_610 wd_6 hd_Mo_remove (by decide) (by decide) rfl rfl (Nat.le_of_ble_eq_true rfl) d_La_203 (fun r9 N9 hp1 => ?_)
      obtain ⟨rfl, hp1⟩ := hp1
      refine v_r1 ?_
      exact v_icmp_eq h0 d_La_206 rfl (fun _ => hNext M9 N9 _ hp0 hp1) (fun z => absurd rfl z)
    · skip
      refine v_tableIn h0 d_La_32 (off := 179) (by decide) (by decide) (by decide) rfl ?_
      refine v_aload_n h0 d_La_211 2 rfl ?_
      refine v_aload_n h0 d_La_212 1 rfl ?_
      refine v_iload_n h0 d_La_213 0 rfl ?_
      refine v_iconst h0 d_La_214 (v := nI 1) (by decide) ?_
      refine v_iadd h0 d_La_215 ?_
      refine v_int (nI (i + 1)) (nI_add i 1) ?_
      refine w_sld h0 hC hL (i + 1) rfl (by omega) d_La_216 ?_
      refine w_callB h0 hC (av := [.int (xs (i + 1))]) (rest := []) (k_work (kl K) g hIB MB hB (xs (i + 1))) wd_299 wm_296 wd_297 wd_298 wd_1 hd_B_work (by decide) (by decide) rfl rfl (Nat.le_of_ble_eq_true rfl) d_La_217 (fun r9 M9 hp0 => ?_)
      obtain ⟨rfl, hp0⟩ := hp0
      refine v_r1 ?_
      refine v_aload_n h0 d_La_220 3 rfl ?_
      refine v_aload_n h0 d_La_221 1 rfl ?_
      refine v_iload_n h0 d_La_222 0 rfl ?_
      refine v_iconst h0 d_La_223 (v := nI 1) (by decide) ?_
      refine v_iadd h0 d_La_224 ?_
      refine v_int (nI (i + 1)) (nI_add i 1) ?_
      refine w_sld h0 hC hL (i + 1) rfl (by omega) d_La_225 ?_
      refine w_callR h0 hC (av := [.int (xs (i + 1))]) (rest := [.int ((opWk β (xs (i + 1))).1)]) (q_work (kl K) g' hIR MR hA hB.2.1 (xs (i + 1))) wd_615 wm_612 wd_613 wd_614 wd_6 hd_Mo_work (by decide) (by decide) rfl rfl (Nat.le_of_ble_eq_true rfl) d_La_226 (fun r9 N9 hp1 => ?_)
      obtain ⟨rfl, hp1⟩ := hp1
      refine v_r1 ?_
      exact v_icmp_eq h0 d_La_229 rfl (fun _ => hNext M9 N9 _ hp0 hp1) (fun z => absurd rfl z)
    · skip
      refine v_tableIn h0 d_La_32 (off := 202) (by decide) (by decide) (by decide) rfl ?_
      refine v_aload_n h0 d_La_234 2 rfl ?_
      refine v_aload_n h0 d_La_235 1 rfl ?_
      refine v_iload_n h0 d_La_236 0 rfl ?_
      refine v_iconst h0 d_La_237 (v := nI 1) (by decide) ?_
      refine v_iadd h0 d_La_238 ?_
      refine v_int (nI (i + 1)) (nI_add i 1) ?_
      refine w_sld h0 hC hL (i + 1) rfl (by omega) d_La_239 ?_
      refine w_callB h0 hC (av := [.int (xs (i + 1))]) (rest := []) (k_cancel (kl K) g hIB hB (xs (i + 1))) wd_416 wm_413 wd_414 wd_415 wd_1 hd_B_cancel (by decide) (by decide) rfl rfl (Nat.le_of_ble_eq_true rfl) d_La_240 (fun r9 M9 hp0 => ?_)
      obtain ⟨rfl, hp0⟩ := hp0
      refine v_r1 ?_
      refine v_aload_n h0 d_La_243 3 rfl ?_
      refine v_aload_n h0 d_La_244 1 rfl ?_
      refine v_iload_n h0 d_La_245 0 rfl ?_
      refine v_iconst h0 d_La_246 (v := nI 1) (by decide) ?_
      refine v_iadd h0 d_La_247 ?_
      refine v_int (nI (i + 1)) (nI_add i 1) ?_
      refine w_sld h0 hC hL (i + 1) rfl (by omega) d_La_248 ?_
      refine w_callR h0 hC (av := [.int (xs (i + 1))]) (rest := [.int ((opCa β (xs (i + 1))).1)]) (q_cancel (kl K) g' hIR MR hA hB.2.1 hB.2.2 (xs (i + 1))) wd_711 wm_708 wd_709 wd_710 wd_6 hd_Mo_cancel (by decide) (by decide) rfl rfl (Nat.le_of_ble_eq_true rfl) d_La_249 (fun r9 N9 hp1 => ?_)
      obtain ⟨rfl, hp1⟩ := hp1
      refine v_r1 ?_
      exact v_icmp_eq h0 d_La_252 rfl (fun _ => hNext M9 N9 _ hp0 hp1) (fun z => absurd rfl z)
    · skip
      refine v_tableIn h0 d_La_32 (off := 225) (by decide) (by decide) (by decide) rfl ?_
      refine v_aload_n h0 d_La_257 2 rfl ?_
      refine v_aload_n h0 d_La_258 1 rfl ?_
      refine v_iload_n h0 d_La_259 0 rfl ?_
      refine v_iconst h0 d_La_260 (v := nI 1) (by decide) ?_
      refine v_iadd h0 d_La_261 ?_
      refine v_int (nI (i + 1)) (nI_add i 1) ?_
      refine w_sld h0 hC hL (i + 1) rfl (by omega) d_La_262 ?_
      refine w_callB h0 hC (av := [.int (xs (i + 1))]) (rest := []) (k_status (kl K) g hIB hB (xs (i + 1))) wd_421 wm_418 wd_419 wd_420 wd_1 hd_B_status (by decide) (by decide) rfl rfl (Nat.le_of_ble_eq_true rfl) d_La_263 (fun r9 M9 hp0 => ?_)
      obtain ⟨rfl, hp0⟩ := hp0
      refine v_r1 ?_
      refine v_aload_n h0 d_La_266 3 rfl ?_
      refine v_aload_n h0 d_La_267 1 rfl ?_
      refine v_iload_n h0 d_La_268 0 rfl ?_
      refine v_iconst h0 d_La_269 (v := nI 1) (by decide) ?_
      refine v_iadd h0 d_La_270 ?_
      refine v_int (nI (i + 1)) (nI_add i 1) ?_
      refine w_sld h0 hC hL (i + 1) rfl (by omega) d_La_271 ?_
      refine w_callR h0 hC (av := [.int (xs (i + 1))]) (rest := [.int (opSt β (xs (i + 1)))]) (q_status (kl K) g' hIR MR hA hB.2.1 (xs (i + 1))) wd_715 wm_712 wd_713 wd_714 wd_6 hd_Mo_status (by decide) (by decide) rfl rfl (Nat.le_of_ble_eq_true rfl) d_La_272 (fun r9 N9 hp1 => ?_)
      obtain ⟨rfl, hp1⟩ := hp1
      refine v_r1 ?_
      subst hp1
      exact v_icmp_eq h0 d_La_275 rfl (fun _ => hNext M9 MR β hp0 hA) (fun z => absurd rfl z)
    · skip
      refine v_tableIn h0 d_La_32 (off := 248) (by decide) (by decide) (by decide) rfl ?_
      refine v_aload_n h0 d_La_280 2 rfl ?_
      refine v_aload_n h0 d_La_281 1 rfl ?_
      refine v_iload_n h0 d_La_282 0 rfl ?_
      refine v_iconst h0 d_La_283 (v := nI 1) (by decide) ?_
      refine v_iadd h0 d_La_284 ?_
      refine v_int (nI (i + 1)) (nI_add i 1) ?_
      refine w_sld h0 hC hL (i + 1) rfl (by omega) d_La_285 ?_
      refine w_callB h0 hC (av := [.int (xs (i + 1))]) (rest := []) (k_value (kl K) g hIB hB (xs (i + 1))) wd_425 wm_422 wd_423 wd_424 wd_1 hd_B_value (by decide) (by decide) rfl rfl (Nat.le_of_ble_eq_true rfl) d_La_286 (fun r9 M9 hp0 => ?_)
      obtain ⟨rfl, hp0⟩ := hp0
      refine v_r1 ?_
      refine v_aload_n h0 d_La_289 3 rfl ?_
      refine v_aload_n h0 d_La_290 1 rfl ?_
      refine v_iload_n h0 d_La_291 0 rfl ?_
      refine v_iconst h0 d_La_292 (v := nI 1) (by decide) ?_
      refine v_iadd h0 d_La_293 ?_
      refine v_int (nI (i + 1)) (nI_add i 1) ?_
      refine w_sld h0 hC hL (i + 1) rfl (by omega) d_La_294 ?_
      refine w_callR h0 hC (av := [.int (xs (i + 1))]) (rest := [.int (opVa β (xs (i + 1)))]) (q_value (kl K) g' hIR MR hA hB.2.1 (xs (i + 1))) wd_719 wm_716 wd_717 wd_718 wd_6 hd_Mo_value (by decide) (by decide) rfl rfl (Nat.le_of_ble_eq_true rfl) d_La_295 (fun r9 N9 hp1 => ?_)
      obtain ⟨rfl, hp1⟩ := hp1
      refine v_r1 ?_
      subst hp1
      exact v_icmp_eq h0 d_La_298 rfl (fun _ => hNext M9 MR β hp0 hA) (fun z => absurd rfl z)
    · skip
      refine v_tableIn h0 d_La_32 (off := 271) (by decide) (by decide) (by decide) rfl ?_
      refine v_aload_n h0 d_La_303 2 rfl ?_
      refine v_aload_n h0 d_La_304 1 rfl ?_
      refine v_iload_n h0 d_La_305 0 rfl ?_
      refine v_iconst h0 d_La_306 (v := nI 1) (by decide) ?_
      refine v_iadd h0 d_La_307 ?_
      refine v_int (nI (i + 1)) (nI_add i 1) ?_
      refine w_sld h0 hC hL (i + 1) rfl (by omega) d_La_308 ?_
      refine w_callB h0 hC (av := [.int (xs (i + 1))]) (rest := []) (k_kind (kl K) g hIB hB (xs (i + 1))) wd_429 wm_426 wd_427 wd_428 wd_1 hd_B_kind (by decide) (by decide) rfl rfl (Nat.le_of_ble_eq_true rfl) d_La_309 (fun r9 M9 hp0 => ?_)
      obtain ⟨rfl, hp0⟩ := hp0
      refine v_r1 ?_
      refine v_aload_n h0 d_La_312 3 rfl ?_
      refine v_aload_n h0 d_La_313 1 rfl ?_
      refine v_iload_n h0 d_La_314 0 rfl ?_
      refine v_iconst h0 d_La_315 (v := nI 1) (by decide) ?_
      refine v_iadd h0 d_La_316 ?_
      refine v_int (nI (i + 1)) (nI_add i 1) ?_
      refine w_sld h0 hC hL (i + 1) rfl (by omega) d_La_317 ?_
      refine w_callR h0 hC (av := [.int (xs (i + 1))]) (rest := [.int (opKi β (xs (i + 1)))]) (q_kind (kl K) g' hIR MR hA hB.2.1 (xs (i + 1))) wd_724 wm_721 wd_722 wd_723 wd_6 hd_Mo_kind (by decide) (by decide) rfl rfl (Nat.le_of_ble_eq_true rfl) d_La_318 (fun r9 N9 hp1 => ?_)
      obtain ⟨rfl, hp1⟩ := hp1
      refine v_r1 ?_
      subst hp1
      exact v_icmp_eq h0 d_La_321 rfl (fun _ => hNext M9 MR β hp0 hA) (fun z => absurd rfl z)
    · skip
      refine v_tableIn h0 d_La_32 (off := 294) (by decide) (by decide) (by decide) rfl ?_
      refine v_aload_n h0 d_La_326 2 rfl ?_
      refine v_aload_n h0 d_La_327 1 rfl ?_
      refine v_iload_n h0 d_La_328 0 rfl ?_
      refine v_iconst h0 d_La_329 (v := nI 1) (by decide) ?_
      refine v_iadd h0 d_La_330 ?_
      refine v_int (nI (i + 1)) (nI_add i 1) ?_
      refine w_sld h0 hC hL (i + 1) rfl (by omega) d_La_331 ?_
      refine w_callB h0 hC (av := [.int (xs (i + 1))]) (rest := []) (k_uses (kl K) g hIB hB (xs (i + 1))) wd_433 wm_430 wd_431 wd_432 wd_1 hd_B_uses (by decide) (by decide) rfl rfl (Nat.le_of_ble_eq_true rfl) d_La_332 (fun r9 M9 hp0 => ?_)
      obtain ⟨rfl, hp0⟩ := hp0
      refine v_r1 ?_
      refine v_aload_n h0 d_La_335 3 rfl ?_
      refine v_aload_n h0 d_La_336 1 rfl ?_
      refine v_iload_n h0 d_La_337 0 rfl ?_
      refine v_iconst h0 d_La_338 (v := nI 1) (by decide) ?_
      refine v_iadd h0 d_La_339 ?_
      refine v_int (nI (i + 1)) (nI_add i 1) ?_
      refine w_sld h0 hC hL (i + 1) rfl (by omega) d_La_340 ?_
      refine w_callR h0 hC (av := [.int (xs (i + 1))]) (rest := [.int (opUs β (xs (i + 1)))]) (q_uses (kl K) g' hIR MR hA (xs (i + 1))) wd_728 wm_725 wd_726 wd_727 wd_6 hd_Mo_uses (by decide) (by decide) rfl rfl (Nat.le_of_ble_eq_true rfl) d_La_341 (fun r9 N9 hp1 => ?_)
      obtain ⟨rfl, hp1⟩ := hp1
      refine v_r1 ?_
      subst hp1
      exact v_icmp_eq h0 d_La_344 rfl (fun _ => hNext M9 MR β hp0 hA) (fun z => absurd rfl z)
    · skip
      refine v_tableIn h0 d_La_32 (off := 317) (by decide) (by decide) (by decide) rfl ?_
      refine v_aload_n h0 d_La_349 2 rfl ?_
      refine v_aload_n h0 d_La_350 1 rfl ?_
      refine v_iload_n h0 d_La_351 0 rfl ?_
      refine v_iconst h0 d_La_352 (v := nI 1) (by decide) ?_
      refine v_iadd h0 d_La_353 ?_
      refine v_int (nI (i + 1)) (nI_add i 1) ?_
      refine w_sld h0 hC hL (i + 1) rfl (by omega) d_La_354 ?_
      refine w_callB h0 hC (av := [.int (xs (i + 1))]) (rest := []) (k_runs (kl K) g hIB hB (xs (i + 1))) wd_437 wm_434 wd_435 wd_436 wd_1 hd_B_runs (by decide) (by decide) rfl rfl (Nat.le_of_ble_eq_true rfl) d_La_355 (fun r9 M9 hp0 => ?_)
      obtain ⟨rfl, hp0⟩ := hp0
      refine v_r1 ?_
      refine v_aload_n h0 d_La_358 3 rfl ?_
      refine v_aload_n h0 d_La_359 1 rfl ?_
      refine v_iload_n h0 d_La_360 0 rfl ?_
      refine v_iconst h0 d_La_361 (v := nI 1) (by decide) ?_
      refine v_iadd h0 d_La_362 ?_
      refine v_int (nI (i + 1)) (nI_add i 1) ?_
      refine w_sld h0 hC hL (i + 1) rfl (by omega) d_La_363 ?_
      refine w_callR h0 hC (av := [.int (xs (i + 1))]) (rest := [.int (opRu β (xs (i + 1)))]) (q_runs (kl K) g' hIR MR hA (xs (i + 1))) wd_732 wm_729 wd_730 wd_731 wd_6 hd_Mo_runs (by decide) (by decide) rfl rfl (Nat.le_of_ble_eq_true rfl) d_La_364 (fun r9 N9 hp1 => ?_)
      obtain ⟨rfl, hp1⟩ := hp1
      refine v_r1 ?_
      subst hp1
      exact v_icmp_eq h0 d_La_367 rfl (fun _ => hNext M9 MR β hp0 hA) (fun z => absurd rfl z)
    · skip
      refine v_tableIn h0 d_La_32 (off := 340) (by decide) (by decide) (by decide) rfl ?_
      refine v_aload_n h0 d_La_372 2 rfl ?_
      refine w_callB h0 hC (av := []) (rest := []) (k_steps (kl K) g hIB hB) wd_441 wm_438 wd_439 wd_440 wd_1 hd_B_steps (by decide) (by decide) rfl rfl (Nat.le_of_ble_eq_true rfl) d_La_373 (fun r9 M9 hp0 => ?_)
      obtain ⟨rfl, hp0⟩ := hp0
      refine v_r1 ?_
      refine v_aload_n h0 d_La_376 3 rfl ?_
      refine w_callR h0 hC (av := []) (rest := [.int (β 0 1)]) (q_steps (kl K) g' hIR MR hA) wd_736 wm_733 wd_734 wd_735 wd_6 hd_Mo_steps (by decide) (by decide) rfl rfl (Nat.le_of_ble_eq_true rfl) d_La_377 (fun r9 N9 hp1 => ?_)
      obtain ⟨rfl, hp1⟩ := hp1
      refine v_r1 ?_
      subst hp1
      exact v_icmp_eq h0 d_La_380 rfl (fun _ => hNext M9 MR β hp0 hA) (fun z => absurd rfl z)
    · skip
      refine v_tableOut h0 d_La_32 (Or.inr ?_) rfl ?_
      · rw [nI_toInt (by omega)]; omega
      · exact hNext MB MR β hB hA
