/-! THE CLAIM OUT OF ONE WALK OF THE LAW'S BODY. Your part is whole_start (and what it stands on); all else here is the same for every law, but numbers. -/
def R_law : String := "TypeCourtLaw"
def lw_P (b : Addr) (xs : List Int32) (args : Array Value) (s : State) : Prop := args = #[.ref b] ∧ s.IntsAt b xs ∧ xs.length ≤ 3072 ∧ (Jvm.Cond.and given_1 narrow_1).before args s = true
def lw_Q (_ : Array Value) (s : State) (o : Outcome) (t : State) : Prop := o = .returned (some (.int 1)) ∧ Framed s o t [] 600000 7302250
def lw_Z (below : List Frame) (a : Array Value) (s : State) : State → Prop := fun t => ∃ o, t.status = .running ∧ Ended t below o ∧ lw_Q a s o t
/-- the law's own end, with 1 on the stack, nothing written that was there before, its room as the claim has it -/
theorem lw_ret {p : Program} {l : Launch} {e : Env} {s : State} {m : MethodId} {below : List Frame} {meth : Method} {c : Code} {b : Nat} (hx : p.tables.exec = Jvm.exec) (hb : c.code = code) (hr : meth.sig.returnType = ret) (hlocks : meth.locks = false) {pc : Nat} {H : Heap} {ls : Array Slot} (hdg : decode code pc = .ok (.ireturn, 1)) : W p l e room_1 s m #[Value.ref b] below meth c H [] 600000 7302250 (lw_Z below #[Value.ref b] s) (F0 m pc ls [.int 1]) := by
  intro T hT X
  obtain ⟨fs, hret, hrun, hended, hW, hframe⟩ := X.leave (v := some (.int 1)) (hlocks := hlocks) (fun h => by rw [hr] at h; cases h)
  have hmeth' : T.vm.method? m = some meth := X.method'
  refine ⟨T.setFrames fs, ?_, .returned (some (.int 1)), hrun, hended, rfl, ⟨_, rfl⟩, hW, hframe⟩
  jvm_step X.here [X.here.top, hx, hb, hdg, hmeth', hr, ret, narrow_b1]
  (try refine ⟨rfl, ?_⟩); (try refine ⟨rfl, ?_⟩)
  first | (intro acts; rw [hret _ acts rfl rfl rfl]) | rw [hret _ _ rfl rfl rfl]
  exact Steps.refl _
/-- what holds at the law's entry: the machine, the code, the tables' words (any of lw_tbl by 'hts w (by decide +kernel)'), the script of L ints xs at the cell b, what the Statement gives of the start (any of its parts by flat_of_before) -/
def lw_At (p : Program) (s : State) (m : MethodId) (meth : Method) (c : Code) (b L : Nat) (xs : Nat → Int32) : Prop :=
  p.tables.exec = Jvm.exec ∧ c.code = code ∧ meth.sig.returnType = ret ∧ c.maxLocals = 4 ∧ s.vm.findClass R_law = some m.cls ∧ (∀ w ∈ lw_tbl, w.before #[Value.ref b] s = true) ∧ va_X b L xs s s.heap ∧ b < s.heap.size ∧ meth.locks = false ∧ (Jvm.Cond.and given_1 narrow_1).before #[Value.ref b] s = true
theorem dL_law_0 : decode cL_law 0 = .ok (.new 7, 3) := by decide +kernel
theorem dL_law_3 : decode cL_law 3 = .ok (.dup, 1) := by decide +kernel
theorem dL_law_4 : decode cL_law 4 = .ok (.invokespecial 9, 3) := by decide +kernel
theorem dL_law_7 : decode cL_law 7 = .ok (.astore_n 1, 1) := by decide +kernel
theorem dL_law_8 : decode cL_law 8 = .ok (.new 10, 3) := by decide +kernel
theorem dL_law_11 : decode cL_law 11 = .ok (.dup, 1) := by decide +kernel
theorem dL_law_12 : decode cL_law 12 = .ok (.invokespecial 12, 3) := by decide +kernel
theorem dL_law_15 : decode cL_law 15 = .ok (.astore_n 2, 1) := by decide +kernel
theorem dL_law_16 : decode cL_law 16 = .ok (.iconst 0, 1) := by decide +kernel
theorem dL_law_17 : decode cL_law 17 = .ok (.istore_n 3, 1) := by decide +kernel
theorem dL_law_18 : decode cL_law 18 = .ok (.iload_n 3, 1) := by decide +kernel
theorem dL_law_19 : decode cL_law 19 = .ok (.aload_n 0, 1) := by decide +kernel
theorem dL_law_20 : decode cL_law 20 = .ok (.arraylength, 1) := by decide +kernel
theorem dL_law_21 : decode cL_law 21 = .ok (.bipush 6, 2) := by decide +kernel
theorem dL_law_23 : decode cL_law 23 = .ok (.isub, 1) := by decide +kernel
theorem dL_law_24 : decode cL_law 24 = .ok (.if_icmp .gt 650, 3) := by decide +kernel
theorem dL_law_27 : decode cL_law 27 = .ok (.aload_n 0, 1) := by decide +kernel
theorem dL_law_28 : decode cL_law 28 = .ok (.iload_n 3, 1) := by decide +kernel
theorem dL_law_29 : decode cL_law 29 = .ok (.iaload, 1) := by decide +kernel
theorem dL_law_30 : decode cL_law 30 = .ok (.bipush 31, 2) := by decide +kernel
theorem dL_law_32 : decode cL_law 32 = .ok (.iand, 1) := by decide +kernel
theorem dL_law_33 : decode cL_law 33 = .ok (.tableswitch 635 0 19 #[95, 158, 181, 194, 207, 230, 263, 286, 329, 362, 385, 418, 451, 474, 497, 530, 553, 586, 599, 622], 95) := by decide +kernel
theorem dL_law_128 : decode cL_law 128 = .ok (.aload_n 1, 1) := by decide +kernel
theorem dL_law_129 : decode cL_law 129 = .ok (.aload_n 0, 1) := by decide +kernel
theorem dL_law_130 : decode cL_law 130 = .ok (.iload_n 3, 1) := by decide +kernel
theorem dL_law_131 : decode cL_law 131 = .ok (.iconst 1, 1) := by decide +kernel
theorem dL_law_132 : decode cL_law 132 = .ok (.iadd, 1) := by decide +kernel
theorem dL_law_133 : decode cL_law 133 = .ok (.iaload, 1) := by decide +kernel
theorem dL_law_134 : decode cL_law 134 = .ok (.aload_n 0, 1) := by decide +kernel
theorem dL_law_135 : decode cL_law 135 = .ok (.iload_n 3, 1) := by decide +kernel
theorem dL_law_136 : decode cL_law 136 = .ok (.iconst 2, 1) := by decide +kernel
theorem dL_law_137 : decode cL_law 137 = .ok (.iadd, 1) := by decide +kernel
theorem dL_law_138 : decode cL_law 138 = .ok (.iaload, 1) := by decide +kernel
theorem dL_law_139 : decode cL_law 139 = .ok (.aload_n 0, 1) := by decide +kernel
theorem dL_law_140 : decode cL_law 140 = .ok (.iload_n 3, 1) := by decide +kernel
theorem dL_law_141 : decode cL_law 141 = .ok (.iconst 3, 1) := by decide +kernel
theorem dL_law_142 : decode cL_law 142 = .ok (.iadd, 1) := by decide +kernel
theorem dL_law_143 : decode cL_law 143 = .ok (.iaload, 1) := by decide +kernel
theorem dL_law_144 : decode cL_law 144 = .ok (.aload_n 0, 1) := by decide +kernel
theorem dL_law_145 : decode cL_law 145 = .ok (.iload_n 3, 1) := by decide +kernel
theorem dL_law_146 : decode cL_law 146 = .ok (.iconst 4, 1) := by decide +kernel
theorem dL_law_147 : decode cL_law 147 = .ok (.iadd, 1) := by decide +kernel
theorem dL_law_148 : decode cL_law 148 = .ok (.iaload, 1) := by decide +kernel
theorem dL_law_149 : decode cL_law 149 = .ok (.aload_n 0, 1) := by decide +kernel
theorem dL_law_150 : decode cL_law 150 = .ok (.iload_n 3, 1) := by decide +kernel
theorem dL_law_151 : decode cL_law 151 = .ok (.iconst 5, 1) := by decide +kernel
theorem dL_law_152 : decode cL_law 152 = .ok (.iadd, 1) := by decide +kernel
theorem dL_law_153 : decode cL_law 153 = .ok (.iaload, 1) := by decide +kernel
theorem dL_law_154 : decode cL_law 154 = .ok (.invokevirtual 13, 3) := by decide +kernel
theorem dL_law_157 : decode cL_law 157 = .ok (.aload_n 2, 1) := by decide +kernel
theorem dL_law_158 : decode cL_law 158 = .ok (.aload_n 0, 1) := by decide +kernel
theorem dL_law_159 : decode cL_law 159 = .ok (.iload_n 3, 1) := by decide +kernel
theorem dL_law_160 : decode cL_law 160 = .ok (.iconst 1, 1) := by decide +kernel
theorem dL_law_161 : decode cL_law 161 = .ok (.iadd, 1) := by decide +kernel
theorem dL_law_162 : decode cL_law 162 = .ok (.iaload, 1) := by decide +kernel
theorem dL_law_163 : decode cL_law 163 = .ok (.aload_n 0, 1) := by decide +kernel
theorem dL_law_164 : decode cL_law 164 = .ok (.iload_n 3, 1) := by decide +kernel
theorem dL_law_165 : decode cL_law 165 = .ok (.iconst 2, 1) := by decide +kernel
theorem dL_law_166 : decode cL_law 166 = .ok (.iadd, 1) := by decide +kernel
theorem dL_law_167 : decode cL_law 167 = .ok (.iaload, 1) := by decide +kernel
theorem dL_law_168 : decode cL_law 168 = .ok (.aload_n 0, 1) := by decide +kernel
theorem dL_law_169 : decode cL_law 169 = .ok (.iload_n 3, 1) := by decide +kernel
theorem dL_law_170 : decode cL_law 170 = .ok (.iconst 3, 1) := by decide +kernel
theorem dL_law_171 : decode cL_law 171 = .ok (.iadd, 1) := by decide +kernel
theorem dL_law_172 : decode cL_law 172 = .ok (.iaload, 1) := by decide +kernel
theorem dL_law_173 : decode cL_law 173 = .ok (.aload_n 0, 1) := by decide +kernel
theorem dL_law_174 : decode cL_law 174 = .ok (.iload_n 3, 1) := by decide +kernel
theorem dL_law_175 : decode cL_law 175 = .ok (.iconst 4, 1) := by decide +kernel
theorem dL_law_176 : decode cL_law 176 = .ok (.iadd, 1) := by decide +kernel
theorem dL_law_177 : decode cL_law 177 = .ok (.iaload, 1) := by decide +kernel
theorem dL_law_178 : decode cL_law 178 = .ok (.aload_n 0, 1) := by decide +kernel
theorem dL_law_179 : decode cL_law 179 = .ok (.iload_n 3, 1) := by decide +kernel
theorem dL_law_180 : decode cL_law 180 = .ok (.iconst 5, 1) := by decide +kernel
theorem dL_law_181 : decode cL_law 181 = .ok (.iadd, 1) := by decide +kernel
theorem dL_law_182 : decode cL_law 182 = .ok (.iaload, 1) := by decide +kernel
theorem dL_law_183 : decode cL_law 183 = .ok (.invokevirtual 17, 3) := by decide +kernel
theorem dL_law_186 : decode cL_law 186 = .ok (.if_icmp .eq 482, 3) := by decide +kernel
theorem dL_law_189 : decode cL_law 189 = .ok (.iconst 0, 1) := by decide +kernel
theorem dL_law_190 : decode cL_law 190 = .ok (.ireturn, 1) := by decide +kernel
theorem dL_law_191 : decode cL_law 191 = .ok (.aload_n 1, 1) := by decide +kernel
theorem dL_law_192 : decode cL_law 192 = .ok (.aload_n 0, 1) := by decide +kernel
theorem dL_law_193 : decode cL_law 193 = .ok (.iload_n 3, 1) := by decide +kernel
theorem dL_law_194 : decode cL_law 194 = .ok (.iconst 1, 1) := by decide +kernel
theorem dL_law_195 : decode cL_law 195 = .ok (.iadd, 1) := by decide +kernel
theorem dL_law_196 : decode cL_law 196 = .ok (.iaload, 1) := by decide +kernel
theorem dL_law_197 : decode cL_law 197 = .ok (.invokevirtual 18, 3) := by decide +kernel
theorem dL_law_200 : decode cL_law 200 = .ok (.aload_n 2, 1) := by decide +kernel
theorem dL_law_201 : decode cL_law 201 = .ok (.aload_n 0, 1) := by decide +kernel
theorem dL_law_202 : decode cL_law 202 = .ok (.iload_n 3, 1) := by decide +kernel
theorem dL_law_203 : decode cL_law 203 = .ok (.iconst 1, 1) := by decide +kernel
theorem dL_law_204 : decode cL_law 204 = .ok (.iadd, 1) := by decide +kernel
theorem dL_law_205 : decode cL_law 205 = .ok (.iaload, 1) := by decide +kernel
theorem dL_law_206 : decode cL_law 206 = .ok (.invokevirtual 22, 3) := by decide +kernel
theorem dL_law_209 : decode cL_law 209 = .ok (.if_icmp .eq 459, 3) := by decide +kernel
theorem dL_law_212 : decode cL_law 212 = .ok (.iconst 0, 1) := by decide +kernel
theorem dL_law_213 : decode cL_law 213 = .ok (.ireturn, 1) := by decide +kernel
theorem dL_law_214 : decode cL_law 214 = .ok (.aload_n 1, 1) := by decide +kernel
theorem dL_law_215 : decode cL_law 215 = .ok (.invokevirtual 23, 3) := by decide +kernel
theorem dL_law_218 : decode cL_law 218 = .ok (.aload_n 2, 1) := by decide +kernel
theorem dL_law_219 : decode cL_law 219 = .ok (.invokevirtual 27, 3) := by decide +kernel
theorem dL_law_222 : decode cL_law 222 = .ok (.if_icmp .eq 446, 3) := by decide +kernel
theorem dL_law_225 : decode cL_law 225 = .ok (.iconst 0, 1) := by decide +kernel
theorem dL_law_226 : decode cL_law 226 = .ok (.ireturn, 1) := by decide +kernel
theorem dL_law_227 : decode cL_law 227 = .ok (.aload_n 1, 1) := by decide +kernel
theorem dL_law_228 : decode cL_law 228 = .ok (.invokevirtual 28, 3) := by decide +kernel
theorem dL_law_231 : decode cL_law 231 = .ok (.aload_n 2, 1) := by decide +kernel
theorem dL_law_232 : decode cL_law 232 = .ok (.invokevirtual 31, 3) := by decide +kernel
theorem dL_law_235 : decode cL_law 235 = .ok (.if_icmp .eq 433, 3) := by decide +kernel
theorem dL_law_238 : decode cL_law 238 = .ok (.iconst 0, 1) := by decide +kernel
theorem dL_law_239 : decode cL_law 239 = .ok (.ireturn, 1) := by decide +kernel
theorem dL_law_240 : decode cL_law 240 = .ok (.aload_n 1, 1) := by decide +kernel
theorem dL_law_241 : decode cL_law 241 = .ok (.aload_n 0, 1) := by decide +kernel
theorem dL_law_242 : decode cL_law 242 = .ok (.iload_n 3, 1) := by decide +kernel
theorem dL_law_243 : decode cL_law 243 = .ok (.iconst 1, 1) := by decide +kernel
theorem dL_law_244 : decode cL_law 244 = .ok (.iadd, 1) := by decide +kernel
theorem dL_law_245 : decode cL_law 245 = .ok (.iaload, 1) := by decide +kernel
theorem dL_law_246 : decode cL_law 246 = .ok (.invokevirtual 32, 3) := by decide +kernel
theorem dL_law_249 : decode cL_law 249 = .ok (.aload_n 2, 1) := by decide +kernel
theorem dL_law_250 : decode cL_law 250 = .ok (.aload_n 0, 1) := by decide +kernel
theorem dL_law_251 : decode cL_law 251 = .ok (.iload_n 3, 1) := by decide +kernel
theorem dL_law_252 : decode cL_law 252 = .ok (.iconst 1, 1) := by decide +kernel
theorem dL_law_253 : decode cL_law 253 = .ok (.iadd, 1) := by decide +kernel
theorem dL_law_254 : decode cL_law 254 = .ok (.iaload, 1) := by decide +kernel
theorem dL_law_255 : decode cL_law 255 = .ok (.invokevirtual 35, 3) := by decide +kernel
theorem dL_law_258 : decode cL_law 258 = .ok (.if_icmp .eq 410, 3) := by decide +kernel
theorem dL_law_261 : decode cL_law 261 = .ok (.iconst 0, 1) := by decide +kernel
theorem dL_law_262 : decode cL_law 262 = .ok (.ireturn, 1) := by decide +kernel
theorem dL_law_263 : decode cL_law 263 = .ok (.aload_n 1, 1) := by decide +kernel
theorem dL_law_264 : decode cL_law 264 = .ok (.aload_n 0, 1) := by decide +kernel
theorem dL_law_265 : decode cL_law 265 = .ok (.iload_n 3, 1) := by decide +kernel
theorem dL_law_266 : decode cL_law 266 = .ok (.iconst 1, 1) := by decide +kernel
theorem dL_law_267 : decode cL_law 267 = .ok (.iadd, 1) := by decide +kernel
theorem dL_law_268 : decode cL_law 268 = .ok (.iaload, 1) := by decide +kernel
theorem dL_law_269 : decode cL_law 269 = .ok (.aload_n 0, 1) := by decide +kernel
theorem dL_law_270 : decode cL_law 270 = .ok (.iload_n 3, 1) := by decide +kernel
theorem dL_law_271 : decode cL_law 271 = .ok (.iconst 2, 1) := by decide +kernel
theorem dL_law_272 : decode cL_law 272 = .ok (.iadd, 1) := by decide +kernel
theorem dL_law_273 : decode cL_law 273 = .ok (.iaload, 1) := by decide +kernel
theorem dL_law_274 : decode cL_law 274 = .ok (.invokevirtual 36, 3) := by decide +kernel
theorem dL_law_277 : decode cL_law 277 = .ok (.aload_n 2, 1) := by decide +kernel
theorem dL_law_278 : decode cL_law 278 = .ok (.aload_n 0, 1) := by decide +kernel
theorem dL_law_279 : decode cL_law 279 = .ok (.iload_n 3, 1) := by decide +kernel
theorem dL_law_280 : decode cL_law 280 = .ok (.iconst 1, 1) := by decide +kernel
theorem dL_law_281 : decode cL_law 281 = .ok (.iadd, 1) := by decide +kernel
theorem dL_law_282 : decode cL_law 282 = .ok (.iaload, 1) := by decide +kernel
theorem dL_law_283 : decode cL_law 283 = .ok (.aload_n 0, 1) := by decide +kernel
theorem dL_law_284 : decode cL_law 284 = .ok (.iload_n 3, 1) := by decide +kernel
theorem dL_law_285 : decode cL_law 285 = .ok (.iconst 2, 1) := by decide +kernel
theorem dL_law_286 : decode cL_law 286 = .ok (.iadd, 1) := by decide +kernel
theorem dL_law_287 : decode cL_law 287 = .ok (.iaload, 1) := by decide +kernel
theorem dL_law_288 : decode cL_law 288 = .ok (.invokevirtual 40, 3) := by decide +kernel
theorem dL_law_291 : decode cL_law 291 = .ok (.if_icmp .eq 377, 3) := by decide +kernel
theorem dL_law_294 : decode cL_law 294 = .ok (.iconst 0, 1) := by decide +kernel
theorem dL_law_295 : decode cL_law 295 = .ok (.ireturn, 1) := by decide +kernel
theorem dL_law_296 : decode cL_law 296 = .ok (.aload_n 1, 1) := by decide +kernel
theorem dL_law_297 : decode cL_law 297 = .ok (.aload_n 0, 1) := by decide +kernel
theorem dL_law_298 : decode cL_law 298 = .ok (.iload_n 3, 1) := by decide +kernel
theorem dL_law_299 : decode cL_law 299 = .ok (.iconst 1, 1) := by decide +kernel
theorem dL_law_300 : decode cL_law 300 = .ok (.iadd, 1) := by decide +kernel
theorem dL_law_301 : decode cL_law 301 = .ok (.iaload, 1) := by decide +kernel
theorem dL_law_302 : decode cL_law 302 = .ok (.invokevirtual 41, 3) := by decide +kernel
theorem dL_law_305 : decode cL_law 305 = .ok (.aload_n 2, 1) := by decide +kernel
theorem dL_law_306 : decode cL_law 306 = .ok (.aload_n 0, 1) := by decide +kernel
theorem dL_law_307 : decode cL_law 307 = .ok (.iload_n 3, 1) := by decide +kernel
theorem dL_law_308 : decode cL_law 308 = .ok (.iconst 1, 1) := by decide +kernel
theorem dL_law_309 : decode cL_law 309 = .ok (.iadd, 1) := by decide +kernel
theorem dL_law_310 : decode cL_law 310 = .ok (.iaload, 1) := by decide +kernel
theorem dL_law_311 : decode cL_law 311 = .ok (.invokevirtual 44, 3) := by decide +kernel
theorem dL_law_314 : decode cL_law 314 = .ok (.if_icmp .eq 354, 3) := by decide +kernel
theorem dL_law_317 : decode cL_law 317 = .ok (.iconst 0, 1) := by decide +kernel
theorem dL_law_318 : decode cL_law 318 = .ok (.ireturn, 1) := by decide +kernel
theorem dL_law_319 : decode cL_law 319 = .ok (.aload_n 1, 1) := by decide +kernel
theorem dL_law_320 : decode cL_law 320 = .ok (.aload_n 0, 1) := by decide +kernel
theorem dL_law_321 : decode cL_law 321 = .ok (.iload_n 3, 1) := by decide +kernel
theorem dL_law_322 : decode cL_law 322 = .ok (.iconst 1, 1) := by decide +kernel
theorem dL_law_323 : decode cL_law 323 = .ok (.iadd, 1) := by decide +kernel
theorem dL_law_324 : decode cL_law 324 = .ok (.iaload, 1) := by decide +kernel
theorem dL_law_325 : decode cL_law 325 = .ok (.aload_n 0, 1) := by decide +kernel
theorem dL_law_326 : decode cL_law 326 = .ok (.iload_n 3, 1) := by decide +kernel
theorem dL_law_327 : decode cL_law 327 = .ok (.iconst 2, 1) := by decide +kernel
theorem dL_law_328 : decode cL_law 328 = .ok (.iadd, 1) := by decide +kernel
theorem dL_law_329 : decode cL_law 329 = .ok (.iaload, 1) := by decide +kernel
theorem dL_law_330 : decode cL_law 330 = .ok (.aload_n 0, 1) := by decide +kernel
theorem dL_law_331 : decode cL_law 331 = .ok (.iload_n 3, 1) := by decide +kernel
theorem dL_law_332 : decode cL_law 332 = .ok (.iconst 3, 1) := by decide +kernel
theorem dL_law_333 : decode cL_law 333 = .ok (.iadd, 1) := by decide +kernel
theorem dL_law_334 : decode cL_law 334 = .ok (.iaload, 1) := by decide +kernel
theorem dL_law_335 : decode cL_law 335 = .ok (.invokevirtual 45, 3) := by decide +kernel
theorem dL_law_338 : decode cL_law 338 = .ok (.aload_n 2, 1) := by decide +kernel
theorem dL_law_339 : decode cL_law 339 = .ok (.aload_n 0, 1) := by decide +kernel
theorem dL_law_340 : decode cL_law 340 = .ok (.iload_n 3, 1) := by decide +kernel
theorem dL_law_341 : decode cL_law 341 = .ok (.iconst 1, 1) := by decide +kernel
theorem dL_law_342 : decode cL_law 342 = .ok (.iadd, 1) := by decide +kernel
theorem dL_law_343 : decode cL_law 343 = .ok (.iaload, 1) := by decide +kernel
theorem dL_law_344 : decode cL_law 344 = .ok (.aload_n 0, 1) := by decide +kernel
theorem dL_law_345 : decode cL_law 345 = .ok (.iload_n 3, 1) := by decide +kernel
theorem dL_law_346 : decode cL_law 346 = .ok (.iconst 2, 1) := by decide +kernel
theorem dL_law_347 : decode cL_law 347 = .ok (.iadd, 1) := by decide +kernel
theorem dL_law_348 : decode cL_law 348 = .ok (.iaload, 1) := by decide +kernel
theorem dL_law_349 : decode cL_law 349 = .ok (.aload_n 0, 1) := by decide +kernel
theorem dL_law_350 : decode cL_law 350 = .ok (.iload_n 3, 1) := by decide +kernel
theorem dL_law_351 : decode cL_law 351 = .ok (.iconst 3, 1) := by decide +kernel
theorem dL_law_352 : decode cL_law 352 = .ok (.iadd, 1) := by decide +kernel
theorem dL_law_353 : decode cL_law 353 = .ok (.iaload, 1) := by decide +kernel
theorem dL_law_354 : decode cL_law 354 = .ok (.invokevirtual 49, 3) := by decide +kernel
theorem dL_law_357 : decode cL_law 357 = .ok (.if_icmp .eq 311, 3) := by decide +kernel
theorem dL_law_360 : decode cL_law 360 = .ok (.iconst 0, 1) := by decide +kernel
theorem dL_law_361 : decode cL_law 361 = .ok (.ireturn, 1) := by decide +kernel
theorem dL_law_362 : decode cL_law 362 = .ok (.aload_n 1, 1) := by decide +kernel
theorem dL_law_363 : decode cL_law 363 = .ok (.aload_n 0, 1) := by decide +kernel
theorem dL_law_364 : decode cL_law 364 = .ok (.iload_n 3, 1) := by decide +kernel
theorem dL_law_365 : decode cL_law 365 = .ok (.iconst 1, 1) := by decide +kernel
theorem dL_law_366 : decode cL_law 366 = .ok (.iadd, 1) := by decide +kernel
theorem dL_law_367 : decode cL_law 367 = .ok (.iaload, 1) := by decide +kernel
theorem dL_law_368 : decode cL_law 368 = .ok (.aload_n 0, 1) := by decide +kernel
theorem dL_law_369 : decode cL_law 369 = .ok (.iload_n 3, 1) := by decide +kernel
theorem dL_law_370 : decode cL_law 370 = .ok (.iconst 2, 1) := by decide +kernel
theorem dL_law_371 : decode cL_law 371 = .ok (.iadd, 1) := by decide +kernel
theorem dL_law_372 : decode cL_law 372 = .ok (.iaload, 1) := by decide +kernel
theorem dL_law_373 : decode cL_law 373 = .ok (.invokevirtual 50, 3) := by decide +kernel
theorem dL_law_376 : decode cL_law 376 = .ok (.aload_n 2, 1) := by decide +kernel
theorem dL_law_377 : decode cL_law 377 = .ok (.aload_n 0, 1) := by decide +kernel
theorem dL_law_378 : decode cL_law 378 = .ok (.iload_n 3, 1) := by decide +kernel
theorem dL_law_379 : decode cL_law 379 = .ok (.iconst 1, 1) := by decide +kernel
theorem dL_law_380 : decode cL_law 380 = .ok (.iadd, 1) := by decide +kernel
theorem dL_law_381 : decode cL_law 381 = .ok (.iaload, 1) := by decide +kernel
theorem dL_law_382 : decode cL_law 382 = .ok (.aload_n 0, 1) := by decide +kernel
theorem dL_law_383 : decode cL_law 383 = .ok (.iload_n 3, 1) := by decide +kernel
theorem dL_law_384 : decode cL_law 384 = .ok (.iconst 2, 1) := by decide +kernel
theorem dL_law_385 : decode cL_law 385 = .ok (.iadd, 1) := by decide +kernel
theorem dL_law_386 : decode cL_law 386 = .ok (.iaload, 1) := by decide +kernel
theorem dL_law_387 : decode cL_law 387 = .ok (.invokevirtual 53, 3) := by decide +kernel
theorem dL_law_390 : decode cL_law 390 = .ok (.if_icmp .eq 278, 3) := by decide +kernel
theorem dL_law_393 : decode cL_law 393 = .ok (.iconst 0, 1) := by decide +kernel
theorem dL_law_394 : decode cL_law 394 = .ok (.ireturn, 1) := by decide +kernel
theorem dL_law_395 : decode cL_law 395 = .ok (.aload_n 1, 1) := by decide +kernel
theorem dL_law_396 : decode cL_law 396 = .ok (.aload_n 0, 1) := by decide +kernel
theorem dL_law_397 : decode cL_law 397 = .ok (.iload_n 3, 1) := by decide +kernel
theorem dL_law_398 : decode cL_law 398 = .ok (.iconst 1, 1) := by decide +kernel
theorem dL_law_399 : decode cL_law 399 = .ok (.iadd, 1) := by decide +kernel
theorem dL_law_400 : decode cL_law 400 = .ok (.iaload, 1) := by decide +kernel
theorem dL_law_401 : decode cL_law 401 = .ok (.invokevirtual 54, 3) := by decide +kernel
theorem dL_law_404 : decode cL_law 404 = .ok (.aload_n 2, 1) := by decide +kernel
theorem dL_law_405 : decode cL_law 405 = .ok (.aload_n 0, 1) := by decide +kernel
theorem dL_law_406 : decode cL_law 406 = .ok (.iload_n 3, 1) := by decide +kernel
theorem dL_law_407 : decode cL_law 407 = .ok (.iconst 1, 1) := by decide +kernel
theorem dL_law_408 : decode cL_law 408 = .ok (.iadd, 1) := by decide +kernel
theorem dL_law_409 : decode cL_law 409 = .ok (.iaload, 1) := by decide +kernel
theorem dL_law_410 : decode cL_law 410 = .ok (.invokevirtual 57, 3) := by decide +kernel
theorem dL_law_413 : decode cL_law 413 = .ok (.if_icmp .eq 255, 3) := by decide +kernel
theorem dL_law_416 : decode cL_law 416 = .ok (.iconst 0, 1) := by decide +kernel
theorem dL_law_417 : decode cL_law 417 = .ok (.ireturn, 1) := by decide +kernel
theorem dL_law_418 : decode cL_law 418 = .ok (.aload_n 1, 1) := by decide +kernel
theorem dL_law_419 : decode cL_law 419 = .ok (.aload_n 0, 1) := by decide +kernel
theorem dL_law_420 : decode cL_law 420 = .ok (.iload_n 3, 1) := by decide +kernel
theorem dL_law_421 : decode cL_law 421 = .ok (.iconst 1, 1) := by decide +kernel
theorem dL_law_422 : decode cL_law 422 = .ok (.iadd, 1) := by decide +kernel
theorem dL_law_423 : decode cL_law 423 = .ok (.iaload, 1) := by decide +kernel
theorem dL_law_424 : decode cL_law 424 = .ok (.aload_n 0, 1) := by decide +kernel
theorem dL_law_425 : decode cL_law 425 = .ok (.iload_n 3, 1) := by decide +kernel
theorem dL_law_426 : decode cL_law 426 = .ok (.iconst 2, 1) := by decide +kernel
theorem dL_law_427 : decode cL_law 427 = .ok (.iadd, 1) := by decide +kernel
theorem dL_law_428 : decode cL_law 428 = .ok (.iaload, 1) := by decide +kernel
theorem dL_law_429 : decode cL_law 429 = .ok (.invokevirtual 58, 3) := by decide +kernel
theorem dL_law_432 : decode cL_law 432 = .ok (.aload_n 2, 1) := by decide +kernel
theorem dL_law_433 : decode cL_law 433 = .ok (.aload_n 0, 1) := by decide +kernel
theorem dL_law_434 : decode cL_law 434 = .ok (.iload_n 3, 1) := by decide +kernel
theorem dL_law_435 : decode cL_law 435 = .ok (.iconst 1, 1) := by decide +kernel
theorem dL_law_436 : decode cL_law 436 = .ok (.iadd, 1) := by decide +kernel
theorem dL_law_437 : decode cL_law 437 = .ok (.iaload, 1) := by decide +kernel
theorem dL_law_438 : decode cL_law 438 = .ok (.aload_n 0, 1) := by decide +kernel
theorem dL_law_439 : decode cL_law 439 = .ok (.iload_n 3, 1) := by decide +kernel
theorem dL_law_440 : decode cL_law 440 = .ok (.iconst 2, 1) := by decide +kernel
theorem dL_law_441 : decode cL_law 441 = .ok (.iadd, 1) := by decide +kernel
theorem dL_law_442 : decode cL_law 442 = .ok (.iaload, 1) := by decide +kernel
theorem dL_law_443 : decode cL_law 443 = .ok (.invokevirtual 61, 3) := by decide +kernel
theorem dL_law_446 : decode cL_law 446 = .ok (.if_icmp .eq 222, 3) := by decide +kernel
theorem dL_law_449 : decode cL_law 449 = .ok (.iconst 0, 1) := by decide +kernel
theorem dL_law_450 : decode cL_law 450 = .ok (.ireturn, 1) := by decide +kernel
theorem dL_law_451 : decode cL_law 451 = .ok (.aload_n 1, 1) := by decide +kernel
theorem dL_law_452 : decode cL_law 452 = .ok (.aload_n 0, 1) := by decide +kernel
theorem dL_law_453 : decode cL_law 453 = .ok (.iload_n 3, 1) := by decide +kernel
theorem dL_law_454 : decode cL_law 454 = .ok (.iconst 1, 1) := by decide +kernel
theorem dL_law_455 : decode cL_law 455 = .ok (.iadd, 1) := by decide +kernel
theorem dL_law_456 : decode cL_law 456 = .ok (.iaload, 1) := by decide +kernel
theorem dL_law_457 : decode cL_law 457 = .ok (.aload_n 0, 1) := by decide +kernel
theorem dL_law_458 : decode cL_law 458 = .ok (.iload_n 3, 1) := by decide +kernel
theorem dL_law_459 : decode cL_law 459 = .ok (.iconst 2, 1) := by decide +kernel
theorem dL_law_460 : decode cL_law 460 = .ok (.iadd, 1) := by decide +kernel
theorem dL_law_461 : decode cL_law 461 = .ok (.iaload, 1) := by decide +kernel
theorem dL_law_462 : decode cL_law 462 = .ok (.invokevirtual 62, 3) := by decide +kernel
theorem dL_law_465 : decode cL_law 465 = .ok (.aload_n 2, 1) := by decide +kernel
theorem dL_law_466 : decode cL_law 466 = .ok (.aload_n 0, 1) := by decide +kernel
theorem dL_law_467 : decode cL_law 467 = .ok (.iload_n 3, 1) := by decide +kernel
theorem dL_law_468 : decode cL_law 468 = .ok (.iconst 1, 1) := by decide +kernel
theorem dL_law_469 : decode cL_law 469 = .ok (.iadd, 1) := by decide +kernel
theorem dL_law_470 : decode cL_law 470 = .ok (.iaload, 1) := by decide +kernel
theorem dL_law_471 : decode cL_law 471 = .ok (.aload_n 0, 1) := by decide +kernel
theorem dL_law_472 : decode cL_law 472 = .ok (.iload_n 3, 1) := by decide +kernel
theorem dL_law_473 : decode cL_law 473 = .ok (.iconst 2, 1) := by decide +kernel
theorem dL_law_474 : decode cL_law 474 = .ok (.iadd, 1) := by decide +kernel
theorem dL_law_475 : decode cL_law 475 = .ok (.iaload, 1) := by decide +kernel
theorem dL_law_476 : decode cL_law 476 = .ok (.invokevirtual 65, 3) := by decide +kernel
theorem dL_law_479 : decode cL_law 479 = .ok (.if_icmp .eq 189, 3) := by decide +kernel
theorem dL_law_482 : decode cL_law 482 = .ok (.iconst 0, 1) := by decide +kernel
theorem dL_law_483 : decode cL_law 483 = .ok (.ireturn, 1) := by decide +kernel
theorem dL_law_484 : decode cL_law 484 = .ok (.aload_n 1, 1) := by decide +kernel
theorem dL_law_485 : decode cL_law 485 = .ok (.aload_n 0, 1) := by decide +kernel
theorem dL_law_486 : decode cL_law 486 = .ok (.iload_n 3, 1) := by decide +kernel
theorem dL_law_487 : decode cL_law 487 = .ok (.iconst 1, 1) := by decide +kernel
theorem dL_law_488 : decode cL_law 488 = .ok (.iadd, 1) := by decide +kernel
theorem dL_law_489 : decode cL_law 489 = .ok (.iaload, 1) := by decide +kernel
theorem dL_law_490 : decode cL_law 490 = .ok (.invokevirtual 66, 3) := by decide +kernel
theorem dL_law_493 : decode cL_law 493 = .ok (.aload_n 2, 1) := by decide +kernel
theorem dL_law_494 : decode cL_law 494 = .ok (.aload_n 0, 1) := by decide +kernel
theorem dL_law_495 : decode cL_law 495 = .ok (.iload_n 3, 1) := by decide +kernel
theorem dL_law_496 : decode cL_law 496 = .ok (.iconst 1, 1) := by decide +kernel
theorem dL_law_497 : decode cL_law 497 = .ok (.iadd, 1) := by decide +kernel
theorem dL_law_498 : decode cL_law 498 = .ok (.iaload, 1) := by decide +kernel
theorem dL_law_499 : decode cL_law 499 = .ok (.invokevirtual 69, 3) := by decide +kernel
theorem dL_law_502 : decode cL_law 502 = .ok (.if_icmp .eq 166, 3) := by decide +kernel
theorem dL_law_505 : decode cL_law 505 = .ok (.iconst 0, 1) := by decide +kernel
theorem dL_law_506 : decode cL_law 506 = .ok (.ireturn, 1) := by decide +kernel
theorem dL_law_507 : decode cL_law 507 = .ok (.aload_n 1, 1) := by decide +kernel
theorem dL_law_508 : decode cL_law 508 = .ok (.aload_n 0, 1) := by decide +kernel
theorem dL_law_509 : decode cL_law 509 = .ok (.iload_n 3, 1) := by decide +kernel
theorem dL_law_510 : decode cL_law 510 = .ok (.iconst 1, 1) := by decide +kernel
theorem dL_law_511 : decode cL_law 511 = .ok (.iadd, 1) := by decide +kernel
theorem dL_law_512 : decode cL_law 512 = .ok (.iaload, 1) := by decide +kernel
theorem dL_law_513 : decode cL_law 513 = .ok (.invokevirtual 70, 3) := by decide +kernel
theorem dL_law_516 : decode cL_law 516 = .ok (.aload_n 2, 1) := by decide +kernel
theorem dL_law_517 : decode cL_law 517 = .ok (.aload_n 0, 1) := by decide +kernel
theorem dL_law_518 : decode cL_law 518 = .ok (.iload_n 3, 1) := by decide +kernel
theorem dL_law_519 : decode cL_law 519 = .ok (.iconst 1, 1) := by decide +kernel
theorem dL_law_520 : decode cL_law 520 = .ok (.iadd, 1) := by decide +kernel
theorem dL_law_521 : decode cL_law 521 = .ok (.iaload, 1) := by decide +kernel
theorem dL_law_522 : decode cL_law 522 = .ok (.invokevirtual 73, 3) := by decide +kernel
theorem dL_law_525 : decode cL_law 525 = .ok (.if_icmp .eq 143, 3) := by decide +kernel
theorem dL_law_528 : decode cL_law 528 = .ok (.iconst 0, 1) := by decide +kernel
theorem dL_law_529 : decode cL_law 529 = .ok (.ireturn, 1) := by decide +kernel
theorem dL_law_530 : decode cL_law 530 = .ok (.aload_n 1, 1) := by decide +kernel
theorem dL_law_531 : decode cL_law 531 = .ok (.aload_n 0, 1) := by decide +kernel
theorem dL_law_532 : decode cL_law 532 = .ok (.iload_n 3, 1) := by decide +kernel
theorem dL_law_533 : decode cL_law 533 = .ok (.iconst 1, 1) := by decide +kernel
theorem dL_law_534 : decode cL_law 534 = .ok (.iadd, 1) := by decide +kernel
theorem dL_law_535 : decode cL_law 535 = .ok (.iaload, 1) := by decide +kernel
theorem dL_law_536 : decode cL_law 536 = .ok (.aload_n 0, 1) := by decide +kernel
theorem dL_law_537 : decode cL_law 537 = .ok (.iload_n 3, 1) := by decide +kernel
theorem dL_law_538 : decode cL_law 538 = .ok (.iconst 2, 1) := by decide +kernel
theorem dL_law_539 : decode cL_law 539 = .ok (.iadd, 1) := by decide +kernel
theorem dL_law_540 : decode cL_law 540 = .ok (.iaload, 1) := by decide +kernel
theorem dL_law_541 : decode cL_law 541 = .ok (.invokevirtual 74, 3) := by decide +kernel
theorem dL_law_544 : decode cL_law 544 = .ok (.aload_n 2, 1) := by decide +kernel
theorem dL_law_545 : decode cL_law 545 = .ok (.aload_n 0, 1) := by decide +kernel
theorem dL_law_546 : decode cL_law 546 = .ok (.iload_n 3, 1) := by decide +kernel
theorem dL_law_547 : decode cL_law 547 = .ok (.iconst 1, 1) := by decide +kernel
theorem dL_law_548 : decode cL_law 548 = .ok (.iadd, 1) := by decide +kernel
theorem dL_law_549 : decode cL_law 549 = .ok (.iaload, 1) := by decide +kernel
theorem dL_law_550 : decode cL_law 550 = .ok (.aload_n 0, 1) := by decide +kernel
theorem dL_law_551 : decode cL_law 551 = .ok (.iload_n 3, 1) := by decide +kernel
theorem dL_law_552 : decode cL_law 552 = .ok (.iconst 2, 1) := by decide +kernel
theorem dL_law_553 : decode cL_law 553 = .ok (.iadd, 1) := by decide +kernel
theorem dL_law_554 : decode cL_law 554 = .ok (.iaload, 1) := by decide +kernel
theorem dL_law_555 : decode cL_law 555 = .ok (.invokevirtual 77, 3) := by decide +kernel
theorem dL_law_558 : decode cL_law 558 = .ok (.if_icmp .eq 110, 3) := by decide +kernel
theorem dL_law_561 : decode cL_law 561 = .ok (.iconst 0, 1) := by decide +kernel
theorem dL_law_562 : decode cL_law 562 = .ok (.ireturn, 1) := by decide +kernel
theorem dL_law_563 : decode cL_law 563 = .ok (.aload_n 1, 1) := by decide +kernel
theorem dL_law_564 : decode cL_law 564 = .ok (.aload_n 0, 1) := by decide +kernel
theorem dL_law_565 : decode cL_law 565 = .ok (.iload_n 3, 1) := by decide +kernel
theorem dL_law_566 : decode cL_law 566 = .ok (.iconst 1, 1) := by decide +kernel
theorem dL_law_567 : decode cL_law 567 = .ok (.iadd, 1) := by decide +kernel
theorem dL_law_568 : decode cL_law 568 = .ok (.iaload, 1) := by decide +kernel
theorem dL_law_569 : decode cL_law 569 = .ok (.invokevirtual 78, 3) := by decide +kernel
theorem dL_law_572 : decode cL_law 572 = .ok (.aload_n 2, 1) := by decide +kernel
theorem dL_law_573 : decode cL_law 573 = .ok (.aload_n 0, 1) := by decide +kernel
theorem dL_law_574 : decode cL_law 574 = .ok (.iload_n 3, 1) := by decide +kernel
theorem dL_law_575 : decode cL_law 575 = .ok (.iconst 1, 1) := by decide +kernel
theorem dL_law_576 : decode cL_law 576 = .ok (.iadd, 1) := by decide +kernel
theorem dL_law_577 : decode cL_law 577 = .ok (.iaload, 1) := by decide +kernel
theorem dL_law_578 : decode cL_law 578 = .ok (.invokevirtual 81, 3) := by decide +kernel
theorem dL_law_581 : decode cL_law 581 = .ok (.if_icmp .eq 87, 3) := by decide +kernel
theorem dL_law_584 : decode cL_law 584 = .ok (.iconst 0, 1) := by decide +kernel
theorem dL_law_585 : decode cL_law 585 = .ok (.ireturn, 1) := by decide +kernel
theorem dL_law_586 : decode cL_law 586 = .ok (.aload_n 1, 1) := by decide +kernel
theorem dL_law_587 : decode cL_law 587 = .ok (.aload_n 0, 1) := by decide +kernel
theorem dL_law_588 : decode cL_law 588 = .ok (.iload_n 3, 1) := by decide +kernel
theorem dL_law_589 : decode cL_law 589 = .ok (.iconst 1, 1) := by decide +kernel
theorem dL_law_590 : decode cL_law 590 = .ok (.iadd, 1) := by decide +kernel
theorem dL_law_591 : decode cL_law 591 = .ok (.iaload, 1) := by decide +kernel
theorem dL_law_592 : decode cL_law 592 = .ok (.aload_n 0, 1) := by decide +kernel
theorem dL_law_593 : decode cL_law 593 = .ok (.iload_n 3, 1) := by decide +kernel
theorem dL_law_594 : decode cL_law 594 = .ok (.iconst 2, 1) := by decide +kernel
theorem dL_law_595 : decode cL_law 595 = .ok (.iadd, 1) := by decide +kernel
theorem dL_law_596 : decode cL_law 596 = .ok (.iaload, 1) := by decide +kernel
theorem dL_law_597 : decode cL_law 597 = .ok (.invokevirtual 82, 3) := by decide +kernel
theorem dL_law_600 : decode cL_law 600 = .ok (.aload_n 2, 1) := by decide +kernel
theorem dL_law_601 : decode cL_law 601 = .ok (.aload_n 0, 1) := by decide +kernel
theorem dL_law_602 : decode cL_law 602 = .ok (.iload_n 3, 1) := by decide +kernel
theorem dL_law_603 : decode cL_law 603 = .ok (.iconst 1, 1) := by decide +kernel
theorem dL_law_604 : decode cL_law 604 = .ok (.iadd, 1) := by decide +kernel
theorem dL_law_605 : decode cL_law 605 = .ok (.iaload, 1) := by decide +kernel
theorem dL_law_606 : decode cL_law 606 = .ok (.aload_n 0, 1) := by decide +kernel
theorem dL_law_607 : decode cL_law 607 = .ok (.iload_n 3, 1) := by decide +kernel
theorem dL_law_608 : decode cL_law 608 = .ok (.iconst 2, 1) := by decide +kernel
theorem dL_law_609 : decode cL_law 609 = .ok (.iadd, 1) := by decide +kernel
theorem dL_law_610 : decode cL_law 610 = .ok (.iaload, 1) := by decide +kernel
theorem dL_law_611 : decode cL_law 611 = .ok (.invokevirtual 85, 3) := by decide +kernel
theorem dL_law_614 : decode cL_law 614 = .ok (.if_icmp .eq 54, 3) := by decide +kernel
theorem dL_law_617 : decode cL_law 617 = .ok (.iconst 0, 1) := by decide +kernel
theorem dL_law_618 : decode cL_law 618 = .ok (.ireturn, 1) := by decide +kernel
theorem dL_law_619 : decode cL_law 619 = .ok (.aload_n 1, 1) := by decide +kernel
theorem dL_law_620 : decode cL_law 620 = .ok (.invokevirtual 86, 3) := by decide +kernel
theorem dL_law_623 : decode cL_law 623 = .ok (.aload_n 2, 1) := by decide +kernel
theorem dL_law_624 : decode cL_law 624 = .ok (.invokevirtual 89, 3) := by decide +kernel
theorem dL_law_627 : decode cL_law 627 = .ok (.if_icmp .eq 41, 3) := by decide +kernel
theorem dL_law_630 : decode cL_law 630 = .ok (.iconst 0, 1) := by decide +kernel
theorem dL_law_631 : decode cL_law 631 = .ok (.ireturn, 1) := by decide +kernel
theorem dL_law_632 : decode cL_law 632 = .ok (.aload_n 1, 1) := by decide +kernel
theorem dL_law_633 : decode cL_law 633 = .ok (.aload_n 0, 1) := by decide +kernel
theorem dL_law_634 : decode cL_law 634 = .ok (.iload_n 3, 1) := by decide +kernel
theorem dL_law_635 : decode cL_law 635 = .ok (.iconst 1, 1) := by decide +kernel
theorem dL_law_636 : decode cL_law 636 = .ok (.iadd, 1) := by decide +kernel
theorem dL_law_637 : decode cL_law 637 = .ok (.iaload, 1) := by decide +kernel
theorem dL_law_638 : decode cL_law 638 = .ok (.invokevirtual 90, 3) := by decide +kernel
theorem dL_law_641 : decode cL_law 641 = .ok (.aload_n 2, 1) := by decide +kernel
theorem dL_law_642 : decode cL_law 642 = .ok (.aload_n 0, 1) := by decide +kernel
theorem dL_law_643 : decode cL_law 643 = .ok (.iload_n 3, 1) := by decide +kernel
theorem dL_law_644 : decode cL_law 644 = .ok (.iconst 1, 1) := by decide +kernel
theorem dL_law_645 : decode cL_law 645 = .ok (.iadd, 1) := by decide +kernel
theorem dL_law_646 : decode cL_law 646 = .ok (.iaload, 1) := by decide +kernel
theorem dL_law_647 : decode cL_law 647 = .ok (.invokevirtual 93, 3) := by decide +kernel
theorem dL_law_650 : decode cL_law 650 = .ok (.if_icmp .eq 18, 3) := by decide +kernel
theorem dL_law_653 : decode cL_law 653 = .ok (.iconst 0, 1) := by decide +kernel
theorem dL_law_654 : decode cL_law 654 = .ok (.ireturn, 1) := by decide +kernel
theorem dL_law_655 : decode cL_law 655 = .ok (.aload_n 1, 1) := by decide +kernel
theorem dL_law_656 : decode cL_law 656 = .ok (.invokevirtual 94, 3) := by decide +kernel
theorem dL_law_659 : decode cL_law 659 = .ok (.aload_n 2, 1) := by decide +kernel
theorem dL_law_660 : decode cL_law 660 = .ok (.invokevirtual 97, 3) := by decide +kernel
theorem dL_law_663 : decode cL_law 663 = .ok (.if_icmp .eq 5, 3) := by decide +kernel
theorem dL_law_666 : decode cL_law 666 = .ok (.iconst 0, 1) := by decide +kernel
theorem dL_law_667 : decode cL_law 667 = .ok (.ireturn, 1) := by decide +kernel
theorem dL_law_668 : decode cL_law 668 = .ok (.iinc 3 6, 3) := by decide +kernel
theorem dL_law_671 : decode cL_law 671 = .ok (.goto (-653), 3) := by decide +kernel
theorem dL_law_674 : decode cL_law 674 = .ok (.iconst 1, 1) := by decide +kernel
theorem dL_law_675 : decode cL_law 675 = .ok (.ireturn, 1) := by decide +kernel
theorem goodVL {own : String} {idx : Nat} {C : String} {z : MethodName} {b : ByteArray} {n : Nat} {r : Option FieldType} (h1 : Cond.methodLink own idx z ∈ BG) (h2 : Cond.instanceMethod z ∈ BG) (h3 : Cond.selects C z z ∈ BG) (h4 : Cond.initialized C ∈ BG) (h5 : Cond.code z b n r ∈ BG) : GoodIn lw_tbl (wsV own idx C z (Cond.code z b n r :: BG)) := by
  intro w hw
  have h0 := goodV (c0 := Cond.tt) h1 h2 h3 h4 h5 w hw
  have hm : w ∈ BG := by
    unfold wsV at hw
    rcases List.mem_append.mp hw with h | h
    · simp only [List.mem_cons, List.not_mem_nil, or_false] at h
      rcases h with h | h | h | h <;> (rw [h]; assumption)
    · rcases List.mem_cons.mp h with h | h
      · rw [h]; exact h5
      · exact h
  exact ⟨bg_tbl hm, h0.2⟩
theorem goodIL {z : MethodName} {b : ByteArray} {n : Nat} {r : Option FieldType} (h5 : Cond.code z b n r ∈ BG) : GoodIn lw_tbl (Cond.code z b n r :: BG) := by
  intro w hw
  have h0 := goodI (c0 := Cond.tt) h5 w hw
  have hm : w ∈ BG := by
    rcases List.mem_cons.mp hw with h | h
    · rw [h]; exact h5
    · exact h
  exact ⟨bg_tbl hm, h0.2⟩
theorem law_i {i L : Nat} (hL : L ≤ 3072) (hi : i ≤ L + 6) (h : ¬ (nI L - 6 < nI i)) : i + 6 ≤ L := by
  have e1 : (nI L - nI 6).toInt = (L : Int) - 6 := pk_sub_toInt (by omega) (by omega)
  have e2 : (nI i).toInt = (i : Int) := nI_toInt (by omega)
  have e3 : ¬ ((nI L - 6).toInt < (nI i).toInt) := fun z => h (Int32.lt_iff_toInt_lt.mpr z)
  have e4 : (nI L - 6).toInt = (L : Int) - 6 := e1
  omega
theorem law_o {i k L : Nat} (hL : L ≤ 3072) (hk : k ≤ 5) (h : i + 6 ≤ L) : vp_in (nI i + nI k) L := by
  rw [nI_add]; exact vp_in_nI (by omega) (by omega)
set_option maxHeartbeats 40000000 in
set_option maxRecDepth 100000 in
theorem law_loop_open {p : Program} {l : Launch} {e : Env} {s : State} {m : MethodId} {below : List Frame} {meth : Method} {c : Code} {dC : Nat → ClassId} {dI : Nat → Nat → Nat} {cy : Nat → ClassId} {b L : Nat} {xs : Nat → Int32} (N : Nat) (Rel : RelT) (S_feed : Sp_feed N Rel) (S_cut : Sp_cut N Rel) (S_read : Sp_read N Rel) (S_place : Sp_place N Rel) (S_count : Sp_count N Rel) (S_atom : Sp_atom N Rel) (S_rank : Sp_rank N Rel) (S_goes : Sp_goes N Rel) (S_at : Sp_at N Rel) (S_ask : Sp_ask N Rel) (S_isUnder : Sp_isUnder N Rel) (S_next : Sp_next N Rel) (S_world : Sp_world N Rel) (S_thing : Sp_thing N Rel) (S_edge : Sp_edge N Rel) (S_bones : Sp_bones N Rel) (S_same : Sp_same N Rel) (S_print : Sp_print N Rel) (S_out : Sp_out N Rel) (S_back : Sp_back N Rel) (hL : L ≤ 3072) (C0 : lw_At p s m meth c b L xs) (hN : NW s) (hK : va_K (dC, dI) vwCl (tyW cy) s) : ∀ (n i : Nat) (x3 : Int32), i ≤ L → L + 1 ≤ i + n → x3 = nI i → ∀ (adx adm : Nat → Nat) (rb rc pb : Nat) (iX : Nat → Int32) (iR : Nat → Int32) (iT : Nat → Int32) (wT : Int64) (tx : Nat → Int32) (iB : Nat → Int32) (lB : Nat → Nat → Int64) (aB : Nat → Nat → Int32) (iC : Nat → Int32) (aC : Nat → Nat → Int32) (iD : Nat → Int32) (lD : Nat → Nat → Int64) (aD : Nat → Nat → Int32) (iE : Nat → Int32) (aE : Nat → Nat → Int32) (iK : Nat → Int32) (lK : Nat → Nat → Int64) (aK : Nat → Nat → Int32) (iW : Nat → Int32) (aW : Nat → Nat → Int32) (iP : Nat → Int32) (aP : Nat → Nat → Int32) (iM : Nat → Int32) (aM : Nat → Nat → Int32), Rel iX iR iT wT tx iB lB aB iC aC iD lD aD iE aE iK lK aK iW aW iP aP iM aM → ∀ (H : Heap) (locs : List Loc), va_P (dC, dI) vwCl ((zzX adx cy rb rc (adx 4) (adx 11) pb (adx 4) (adx 20) iX iR iT wT tx iB lB aB iC aC iD lD aD iE aE iK lK aK iW aW iP aP) ++ (zzM adm cy iM aM)) H → va_D (fun q : Nat => s.heap.size ≤ q) ((zzX adx cy rb rc (adx 4) (adx 11) pb (adx 4) (adx 20) iX iR iT wT tx iB lB aB iC aC iD lD aD iE aE iK lK aK iW aW iP aP) ++ (zzM adm cy iM aM)) → va_S (fun q : Nat => s.heap.size ≤ q) s.heap H locs → ∀ (ls : Array Slot), lv_has ls 4 [(0, .ref b), (1, .ref (adx 0)), (2, .ref (adm 0)), (3, .int x3)] → W p l e room_1 s m #[Value.ref b] below meth c H locs 600000 7302250 (lw_Z below #[Value.ref b] s) (F0 m 18 ls []) := by
  obtain ⟨hx, hb, hr, hml, hown, hts, hX, hbl, hlocks, hgv⟩ := C0
  have hA : ∀ q : Nat, s.heap.size ≤ q → (fun q : Nat => s.heap.size ≤ q) q := fun _ h => h
  have hbA : ¬ (fun q : Nat => s.heap.size ≤ q) b := Nat.not_le.mpr hbl
  intro n
  induction n with
  | zero => intro i x3 h1 h2; exact absurd h2 (by omega)
  | succ n ih =>
    intro i x3 hi hin ex3 adx adm rb rc pb iX iR iT wT tx iB lB aB iC aC iD lD aD iE aE iK lK aK iW aW iP aP iM aM hRel H locs hP hD hS ls hl
    refine lv_iload_n hx hb dL_law_18 rfl (lv_at hl 3 rfl) ?_
    refine lv_aload_n hx hb dL_law_19 rfl (lv_at hl 0 rfl) ?_
    refine va_slen hx hb hX hbl hbA hS dL_law_20 ?_
    refine lv_bipush (v := 6) hx hb dL_law_21 (by decide) ?_
    refine lv_isub hx hb dL_law_23 ?_
    refine lv_icmp_gt (tgt := 674) hx hb dL_law_24 (by decide) (fun cz => ?_) (fun cz => ?_)
    · refine lv_iconst (v := 1) hx hb dL_law_674 (by decide) ?_
      refine va_forget (fun q hq => hS.2.2 q hq) ?_
      exact lw_ret hx hb hr hlocks dL_law_675
    · have hlt : i + 6 ≤ L := law_i hL (by omega) (by rw [← ex3]; exact cz)
      have o0 : vp_in x3 L := by rw [ex3]; exact vp_in_nI (by omega) (by omega)
      have o1 : vp_in (x3 + (1 : Int32)) L := by rw [ex3]; exact law_o (k := 1) hL (by omega) hlt
      have o2 : vp_in (x3 + (2 : Int32)) L := by rw [ex3]; exact law_o (k := 2) hL (by omega) hlt
      have o3 : vp_in (x3 + (3 : Int32)) L := by rw [ex3]; exact law_o (k := 3) hL (by omega) hlt
      have o4 : vp_in (x3 + (4 : Int32)) L := by rw [ex3]; exact law_o (k := 4) hL (by omega) hlt
      have o5 : vp_in (x3 + (5 : Int32)) L := by rw [ex3]; exact law_o (k := 5) hL (by omega) hlt
      refine lv_aload_n hx hb dL_law_27 rfl (lv_at hl 0 rfl) ?_
      refine lv_iload_n hx hb dL_law_28 rfl (lv_at hl 3 rfl) ?_
      refine va_sld hx hb hX hbl hbA hS o0 dL_law_29 ?_
      refine lv_bipush (v := 31) hx hb dL_law_30 (by decide) ?_
      refine lv_iand hx hb dL_law_32 ?_
      refine lv_topi (fun sw esw => ?_)
      rcases Decidable.em (sw = (0 : Int32)) with c0 | c0
      · refine lv_tableIn (off := 95) (tgt := 128) hx hb dL_law_33 (by rw [c0]; decide) (by rw [c0]; decide) (by rw [c0]; rfl) (by decide) ?_
        obtain ⟨q, r, eq, er, hqr, hrel⟩ := S_feed (xs (x3 + (1 : Int32)).toNatClampNeg) (xs (x3 + (2 : Int32)).toNatClampNeg) (xs (x3 + (3 : Int32)).toNatClampNeg) (xs (x3 + (4 : Int32)).toNatClampNeg) (xs (x3 + (5 : Int32)).toNatClampNeg) iX iR iT wT tx iB lB aB iC aC iD lD aD iE aE iK lK aK iW aW iP aP iM aM hRel
        refine lv_aload_n hx hb dL_law_128 rfl (lv_at hl 1 rfl) ?_
        refine lv_aload_n hx hb dL_law_129 rfl (lv_at hl 0 rfl) ?_
        refine lv_iload_n hx hb dL_law_130 rfl (lv_at hl 3 rfl) ?_
        refine lv_iconst (v := 1) hx hb dL_law_131 (by decide) ?_
        refine lv_iadd hx hb dL_law_132 ?_
        refine va_sld hx hb hX hbl hbA hS o1 dL_law_133 ?_
        refine lv_aload_n hx hb dL_law_134 rfl (lv_at hl 0 rfl) ?_
        refine lv_iload_n hx hb dL_law_135 rfl (lv_at hl 3 rfl) ?_
        refine lv_iconst (v := 2) hx hb dL_law_136 (by decide) ?_
        refine lv_iadd hx hb dL_law_137 ?_
        refine va_sld hx hb hX hbl hbA hS o2 dL_law_138 ?_
        refine lv_aload_n hx hb dL_law_139 rfl (lv_at hl 0 rfl) ?_
        refine lv_iload_n hx hb dL_law_140 rfl (lv_at hl 3 rfl) ?_
        refine lv_iconst (v := 3) hx hb dL_law_141 (by decide) ?_
        refine lv_iadd hx hb dL_law_142 ?_
        refine va_sld hx hb hX hbl hbA hS o3 dL_law_143 ?_
        refine lv_aload_n hx hb dL_law_144 rfl (lv_at hl 0 rfl) ?_
        refine lv_iload_n hx hb dL_law_145 rfl (lv_at hl 3 rfl) ?_
        refine lv_iconst (v := 4) hx hb dL_law_146 (by decide) ?_
        refine lv_iadd hx hb dL_law_147 ?_
        refine va_sld hx hb hX hbl hbA hS o4 dL_law_148 ?_
        refine lv_aload_n hx hb dL_law_149 rfl (lv_at hl 0 rfl) ?_
        refine lv_iload_n hx hb dL_law_150 rfl (lv_at hl 3 rfl) ?_
        refine lv_iconst (v := 5) hx hb dL_law_151 (by decide) ?_
        refine lv_iadd hx hb dL_law_152 ?_
        refine va_sld hx hb hX hbl hbA hS o5 dL_law_153 ?_
        refine callVi (cc := code) (own := RL) (ws' := (zzX adx cy rb rc (adx 4) (adx 11) pb (adx 4) (adx 20) (us iX [(1, q.2.1)]) iR iT wT q.2.2 iB lB aB iC aC iD lD aD iE aE iK lK aK iW aW iP aP) ++ (zzM adm cy iM aM)) (As := [.int (xs (x3 + (1 : Int32)).toNatClampNeg), .int (xs (x3 + (2 : Int32)).toNatClampNeg), .int (xs (x3 + (3 : Int32)).toNatClampNeg), .int (xs (x3 + (4 : Int32)).toNatClampNeg), .int (xs (x3 + (5 : Int32)).toNatClampNeg)]) (rest := []) ⟨hx, hb, hml, hown, hts⟩ (c_X_feed l dC dI cy adx H.size rb rc pb N (xs (x3 + (1 : Int32)).toNatClampNeg) (xs (x3 + (2 : Int32)).toNatClampNeg) (xs (x3 + (3 : Int32)).toNatClampNeg) (xs (x3 + (4 : Int32)).toNatClampNeg) (xs (x3 + (5 : Int32)).toNatClampNeg) iX iR iT wT tx iB lB aB iC aC iD lD aD iE aE iK lK aK iW aW iP aP q eq) (cwV 5 hts (goodVL m_ml_L_13 m_im_X7_feed m_se_X7_feed m_in_X7 m_cd_X7_feed) rfl rfl rfl (by decide +kernel) ⟨Nat.le_of_ble_eq_true rfl, Nat.le_of_ble_eq_true rfl⟩) hN hK hP hD hS hA [0, 1, 2, 3, 4, 5, 6, 7, 8, 9, 10, 11, 12, 13, 14, 15, 16, 17, 18, 19, 20, 21, 22, 23, 24, 25, 26, 27, 28, 29, 30, 31, 32, 33, 34, 35, 36, 37, 38, 39, 40, 41, 42, 43, 44, 45, 46, 47, 48, 49, 50, 51, 52, 53] [some 0, some 1, some 2, some 3, some 4, some 5, some 6, some 7, some 8, some 9, some 10, some 11, some 12, some 13, some 14, some 15, some 16, some 17, some 18, some 19, some 20, some 21, some 22, some 23, some 24, some 25, some 26, some 27, some 28, some 29, some 30, some 31, some 32, some 33, some 34, some 35, some 36, some 37, some 38, some 39, some 40, some 41, some 42, some 43, some 44, some 45, some 46, some 47, some 48, some 49, some 50, some 51, some 52, some 53, none, none, none, none, none, none, none, none, none, none, none, none, none, none, none, none, none, none, none, none, none, none, none, none, none, none, none, none, none, none, none, none, none, none, none, none, none, none, none, none, none, none, none, none] rfl rfl rfl rfl rfl rfl 0 rfl rfl rfl hl.1 rfl (Nat.le_of_ble_eq_true rfl) dL_law_154 ⟨Nat.le_of_ble_eq_true rfl, Nat.le_of_ble_eq_true rfl⟩ (fun H locs hP hD hS => ?_)
        refine lv_aload_n hx hb dL_law_157 rfl (lv_at hl 2 rfl) ?_
        refine lv_aload_n hx hb dL_law_158 rfl (lv_at hl 0 rfl) ?_
        refine lv_iload_n hx hb dL_law_159 rfl (lv_at hl 3 rfl) ?_
        refine lv_iconst (v := 1) hx hb dL_law_160 (by decide) ?_
        refine lv_iadd hx hb dL_law_161 ?_
        refine va_sld hx hb hX hbl hbA hS o1 dL_law_162 ?_
        refine lv_aload_n hx hb dL_law_163 rfl (lv_at hl 0 rfl) ?_
        refine lv_iload_n hx hb dL_law_164 rfl (lv_at hl 3 rfl) ?_
        refine lv_iconst (v := 2) hx hb dL_law_165 (by decide) ?_
        refine lv_iadd hx hb dL_law_166 ?_
        refine va_sld hx hb hX hbl hbA hS o2 dL_law_167 ?_
        refine lv_aload_n hx hb dL_law_168 rfl (lv_at hl 0 rfl) ?_
        refine lv_iload_n hx hb dL_law_169 rfl (lv_at hl 3 rfl) ?_
        refine lv_iconst (v := 3) hx hb dL_law_170 (by decide) ?_
        refine lv_iadd hx hb dL_law_171 ?_
        refine va_sld hx hb hX hbl hbA hS o3 dL_law_172 ?_
        refine lv_aload_n hx hb dL_law_173 rfl (lv_at hl 0 rfl) ?_
        refine lv_iload_n hx hb dL_law_174 rfl (lv_at hl 3 rfl) ?_
        refine lv_iconst (v := 4) hx hb dL_law_175 (by decide) ?_
        refine lv_iadd hx hb dL_law_176 ?_
        refine va_sld hx hb hX hbl hbA hS o4 dL_law_177 ?_
        refine lv_aload_n hx hb dL_law_178 rfl (lv_at hl 0 rfl) ?_
        refine lv_iload_n hx hb dL_law_179 rfl (lv_at hl 3 rfl) ?_
        refine lv_iconst (v := 5) hx hb dL_law_180 (by decide) ?_
        refine lv_iadd hx hb dL_law_181 ?_
        refine va_sld hx hb hX hbl hbA hS o5 dL_law_182 ?_
        refine callVi (cc := code) (own := RL) (ws' := (zzX adx cy rb rc (adx 4) (adx 11) pb (adx 4) (adx 20) (us iX [(1, q.2.1)]) iR iT wT q.2.2 iB lB aB iC aC iD lD aD iE aE iK lK aK iW aW iP aP) ++ (zzM adm cy (us iM [(1, r.2.1)]) (us aM [(0, r.2.2)]))) (As := [.int (xs (x3 + (1 : Int32)).toNatClampNeg), .int (xs (x3 + (2 : Int32)).toNatClampNeg), .int (xs (x3 + (3 : Int32)).toNatClampNeg), .int (xs (x3 + (4 : Int32)).toNatClampNeg), .int (xs (x3 + (5 : Int32)).toNatClampNeg)]) (rest := [.int q.1]) ⟨hx, hb, hml, hown, hts⟩ (c_M_feed l dC dI cy adm H.size N (xs (x3 + (1 : Int32)).toNatClampNeg) (xs (x3 + (2 : Int32)).toNatClampNeg) (xs (x3 + (3 : Int32)).toNatClampNeg) (xs (x3 + (4 : Int32)).toNatClampNeg) (xs (x3 + (5 : Int32)).toNatClampNeg) iM aM r er) (cwV 5 hts (goodVL m_ml_L_17 m_im_X8_feed m_se_X8_feed m_in_X8 m_cd_X8_feed) rfl rfl rfl (by decide +kernel) ⟨Nat.le_of_ble_eq_true rfl, Nat.le_of_ble_eq_true rfl⟩) hN hK hP hD hS hA [54, 55, 56, 57, 58, 59, 60, 61, 62, 63, 64, 65, 66, 67, 68, 69, 70, 71, 72, 73, 74, 75, 76, 77, 78, 79, 80, 81, 82, 83, 84, 85, 86, 87, 88, 89, 90, 91, 92, 93, 94, 95, 96, 97] [none, none, none, none, none, none, none, none, none, none, none, none, none, none, none, none, none, none, none, none, none, none, none, none, none, none, none, none, none, none, none, none, none, none, none, none, none, none, none, none, none, none, none, none, none, none, none, none, none, none, none, none, none, none, some 0, some 1, some 2, some 3, some 4, some 5, some 6, some 7, some 8, some 9, some 10, some 11, some 12, some 13, some 14, some 15, some 16, some 17, some 18, some 19, some 20, some 21, some 22, some 23, some 24, some 25, some 26, some 27, some 28, some 29, some 30, some 31, some 32, some 33, some 34, some 35, some 36, some 37, some 38, some 39, some 40, some 41, some 42, some 43] rfl rfl rfl rfl rfl rfl 54 rfl rfl rfl hl.1 rfl (Nat.le_of_ble_eq_true rfl) dL_law_183 ⟨Nat.le_of_ble_eq_true rfl, Nat.le_of_ble_eq_true rfl⟩ (fun H locs hP hD hS => ?_)
        refine lv_icmp_eq (tgt := 668) hx hb dL_law_186 (by decide) (fun cz => ?_) (fun cz => ?_)
        · refine lv_iinc (v := (x3 + (6 : Int32))) (lv' := [(3, .int (x3 + (6 : Int32))), (0, .ref b), (1, .ref (adx 0)), (2, .ref (adm 0))]) hx hb dL_law_668 hl (k := 3) rfl rfl (by decide) rfl (fun ls hl => ?_)
          refine lv_goto (tgt := 18) hx hb dL_law_671 (by decide) ?_
          exact ih (i + 6) (x3 + (6 : Int32)) (by omega) (by omega) (by rw [ex3]; exact nI_add i 6) adx adm rb rc pb ((us iX [(1, q.2.1)])) iR iT wT q.2.2 iB lB aB iC aC iD lD aD iE aE iK lK aK iW aW iP aP ((us iM [(1, r.2.1)])) ((us aM [(0, r.2.2)])) hrel H locs hP hD hS ls (lv_sub hl [1, 2, 3, 0] rfl)
        · exact absurd hqr cz
      · rcases Decidable.em (sw = (1 : Int32)) with c1 | c1
        · refine lv_tableIn (off := 158) (tgt := 191) hx hb dL_law_33 (by rw [c1]; decide) (by rw [c1]; decide) (by rw [c1]; rfl) (by decide) ?_
          obtain ⟨q, r, eq, er, hqr, hrel⟩ := S_cut (xs (x3 + (1 : Int32)).toNatClampNeg) iX iR iT wT tx iB lB aB iC aC iD lD aD iE aE iK lK aK iW aW iP aP iM aM hRel
          refine lv_aload_n hx hb dL_law_191 rfl (lv_at hl 1 rfl) ?_
          refine lv_aload_n hx hb dL_law_192 rfl (lv_at hl 0 rfl) ?_
          refine lv_iload_n hx hb dL_law_193 rfl (lv_at hl 3 rfl) ?_
          refine lv_iconst (v := 1) hx hb dL_law_194 (by decide) ?_
          refine lv_iadd hx hb dL_law_195 ?_
          refine va_sld hx hb hX hbl hbA hS o1 dL_law_196 ?_
          refine callVi (cc := code) (own := RL) (ws' := (zzX adx cy rb rc (adx 4) (adx 11) pb (adx 4) (adx 20) (us iX [(1, q.2)]) iR iT wT tx iB lB aB iC aC iD lD aD iE aE iK lK aK iW aW iP aP) ++ (zzM adm cy iM aM)) (As := [.int (xs (x3 + (1 : Int32)).toNatClampNeg)]) (rest := []) ⟨hx, hb, hml, hown, hts⟩ (c_X_cut l dC dI cy adx H.size rb rc pb (xs (x3 + (1 : Int32)).toNatClampNeg) iX iR iT wT tx iB lB aB iC aC iD lD aD iE aE iK lK aK iW aW iP aP q eq) (cwV 1 hts (goodVL m_ml_L_18 m_im_X7_cut m_se_X7_cut m_in_X7 m_cd_X7_cut) rfl rfl rfl (by decide +kernel) ⟨Nat.le_of_ble_eq_true rfl, Nat.le_of_ble_eq_true rfl⟩) hN hK hP hD hS hA [0, 1, 2, 3, 4, 5, 6, 7, 8, 9, 10, 11, 12, 13, 14, 15, 16, 17, 18, 19, 20, 21, 22, 23, 24, 25, 26, 27, 28, 29, 30, 31, 32, 33, 34, 35, 36, 37, 38, 39, 40, 41, 42, 43, 44, 45, 46, 47, 48, 49, 50, 51, 52, 53] [some 0, some 1, some 2, some 3, some 4, some 5, some 6, some 7, some 8, some 9, some 10, some 11, some 12, some 13, some 14, some 15, some 16, some 17, some 18, some 19, some 20, some 21, some 22, some 23, some 24, some 25, some 26, some 27, some 28, some 29, some 30, some 31, some 32, some 33, some 34, some 35, some 36, some 37, some 38, some 39, some 40, some 41, some 42, some 43, some 44, some 45, some 46, some 47, some 48, some 49, some 50, some 51, some 52, some 53, none, none, none, none, none, none, none, none, none, none, none, none, none, none, none, none, none, none, none, none, none, none, none, none, none, none, none, none, none, none, none, none, none, none, none, none, none, none, none, none, none, none, none, none] rfl rfl rfl rfl rfl rfl 0 rfl rfl rfl hl.1 rfl (Nat.le_of_ble_eq_true rfl) dL_law_197 ⟨Nat.le_of_ble_eq_true rfl, Nat.le_of_ble_eq_true rfl⟩ (fun H locs hP hD hS => ?_)
          refine lv_aload_n hx hb dL_law_200 rfl (lv_at hl 2 rfl) ?_
          refine lv_aload_n hx hb dL_law_201 rfl (lv_at hl 0 rfl) ?_
          refine lv_iload_n hx hb dL_law_202 rfl (lv_at hl 3 rfl) ?_
          refine lv_iconst (v := 1) hx hb dL_law_203 (by decide) ?_
          refine lv_iadd hx hb dL_law_204 ?_
          refine va_sld hx hb hX hbl hbA hS o1 dL_law_205 ?_
          refine callVi (cc := code) (own := RL) (ws' := (zzX adx cy rb rc (adx 4) (adx 11) pb (adx 4) (adx 20) (us iX [(1, q.2)]) iR iT wT tx iB lB aB iC aC iD lD aD iE aE iK lK aK iW aW iP aP) ++ (zzM adm cy (us iM [(1, r.2)]) aM)) (As := [.int (xs (x3 + (1 : Int32)).toNatClampNeg)]) (rest := [.int q.1]) ⟨hx, hb, hml, hown, hts⟩ (c_M_cut l dC dI cy adm H.size (xs (x3 + (1 : Int32)).toNatClampNeg) iM aM r er) (cwV 1 hts (goodVL m_ml_L_22 m_im_X8_cut m_se_X8_cut m_in_X8 m_cd_X8_cut) rfl rfl rfl (by decide +kernel) ⟨Nat.le_of_ble_eq_true rfl, Nat.le_of_ble_eq_true rfl⟩) hN hK hP hD hS hA [54, 55, 56, 57, 58, 59, 60, 61, 62, 63, 64, 65, 66, 67, 68, 69, 70, 71, 72, 73, 74, 75, 76, 77, 78, 79, 80, 81, 82, 83, 84, 85, 86, 87, 88, 89, 90, 91, 92, 93, 94, 95, 96, 97] [none, none, none, none, none, none, none, none, none, none, none, none, none, none, none, none, none, none, none, none, none, none, none, none, none, none, none, none, none, none, none, none, none, none, none, none, none, none, none, none, none, none, none, none, none, none, none, none, none, none, none, none, none, none, some 0, some 1, some 2, some 3, some 4, some 5, some 6, some 7, some 8, some 9, some 10, some 11, some 12, some 13, some 14, some 15, some 16, some 17, some 18, some 19, some 20, some 21, some 22, some 23, some 24, some 25, some 26, some 27, some 28, some 29, some 30, some 31, some 32, some 33, some 34, some 35, some 36, some 37, some 38, some 39, some 40, some 41, some 42, some 43] rfl rfl rfl rfl rfl rfl 54 rfl rfl rfl hl.1 rfl (Nat.le_of_ble_eq_true rfl) dL_law_206 ⟨Nat.le_of_ble_eq_true rfl, Nat.le_of_ble_eq_true rfl⟩ (fun H locs hP hD hS => ?_)
          refine lv_icmp_eq (tgt := 668) hx hb dL_law_209 (by decide) (fun cz => ?_) (fun cz => ?_)
          · refine lv_iinc (v := (x3 + (6 : Int32))) (lv' := [(3, .int (x3 + (6 : Int32))), (0, .ref b), (1, .ref (adx 0)), (2, .ref (adm 0))]) hx hb dL_law_668 hl (k := 3) rfl rfl (by decide) rfl (fun ls hl => ?_)
            refine lv_goto (tgt := 18) hx hb dL_law_671 (by decide) ?_
            exact ih (i + 6) (x3 + (6 : Int32)) (by omega) (by omega) (by rw [ex3]; exact nI_add i 6) adx adm rb rc pb ((us iX [(1, q.2)])) iR iT wT tx iB lB aB iC aC iD lD aD iE aE iK lK aK iW aW iP aP ((us iM [(1, r.2)])) aM hrel H locs hP hD hS ls (lv_sub hl [1, 2, 3, 0] rfl)
          · exact absurd hqr cz
        · rcases Decidable.em (sw = (2 : Int32)) with c2 | c2
          · refine lv_tableIn (off := 181) (tgt := 214) hx hb dL_law_33 (by rw [c2]; decide) (by rw [c2]; decide) (by rw [c2]; rfl) (by decide) ?_
            obtain ⟨q, r, eq, er, hqr, hrel⟩ := S_read iX iR iT wT tx iB lB aB iC aC iD lD aD iE aE iK lK aK iW aW iP aP iM aM hRel
            refine lv_aload_n hx hb dL_law_214 rfl (lv_at hl 1 rfl) ?_
            have hcr := c_X_read l dC dI cy adx H.size rb rc pb N iX iR iT wT tx iB lB aB iC aC iD lD aD iE aE iK lK aK iW aW iP aP q eq
            rcases hfl : q.2.2.2.2.2.2.2.2.2.2.2.2.2.2.2 with _ | _
            · rw [hfl] at hcr
              refine callVi (cc := code) (own := RL) (ws' := (zzX adx cy (adx 20) (adx 27) (adx 4) (adx 11) pb (adx 4) (adx 20) q.2.1 q.2.2.1 q.2.2.2.1 q.2.2.2.2.1 tx iB lB aB iC aC q.2.2.2.2.2.1 q.2.2.2.2.2.2.1 q.2.2.2.2.2.2.2.1 q.2.2.2.2.2.2.2.2.1 q.2.2.2.2.2.2.2.2.2.1 q.2.2.2.2.2.2.2.2.2.2.1 q.2.2.2.2.2.2.2.2.2.2.2.1 q.2.2.2.2.2.2.2.2.2.2.2.2.1 q.2.2.2.2.2.2.2.2.2.2.2.2.2.1 q.2.2.2.2.2.2.2.2.2.2.2.2.2.2.1 iP aP) ++ (zzM adm cy iM aM)) (As := []) (rest := []) ⟨hx, hb, hml, hown, hts⟩ hcr (cwV 0 hts (goodVL m_ml_L_23 m_im_X7_read m_se_X7_read m_in_X7 m_cd_X7_read) rfl rfl rfl (by decide +kernel) ⟨Nat.le_of_ble_eq_true rfl, Nat.le_of_ble_eq_true rfl⟩) hN hK hP hD hS hA [0, 1, 2, 3, 4, 5, 6, 7, 8, 9, 10, 11, 12, 13, 14, 15, 16, 17, 18, 19, 20, 21, 22, 23, 24, 25, 26, 27, 28, 29, 30, 31, 32, 33, 34, 35, 36, 37, 38, 39, 40, 41, 42, 43, 44, 45, 46, 47, 48, 49, 50, 51, 52, 53] [some 0, some 1, some 2, some 3, some 4, some 5, some 6, some 7, some 8, some 9, some 10, some 11, some 12, some 13, some 14, some 15, some 16, some 17, some 18, some 19, some 20, some 21, some 22, some 23, some 24, some 25, some 26, some 27, some 28, some 29, some 30, some 31, some 32, some 33, some 34, some 35, some 36, some 37, some 38, some 39, some 40, some 41, some 42, some 43, some 44, some 45, some 46, some 47, some 48, some 49, some 50, some 51, some 52, some 53, none, none, none, none, none, none, none, none, none, none, none, none, none, none, none, none, none, none, none, none, none, none, none, none, none, none, none, none, none, none, none, none, none, none, none, none, none, none, none, none, none, none, none, none] rfl rfl rfl rfl rfl rfl 0 rfl rfl rfl hl.1 rfl (Nat.le_of_ble_eq_true rfl) dL_law_215 ⟨Nat.le_of_ble_eq_true rfl, Nat.le_of_ble_eq_true rfl⟩ (fun H locs hP hD hS => ?_)
              refine lv_aload_n hx hb dL_law_218 rfl (lv_at hl 2 rfl) ?_
              refine callVi (cc := code) (own := RL) (ws' := (zzX adx cy (adx 20) (adx 27) (adx 4) (adx 11) pb (adx 4) (adx 20) q.2.1 q.2.2.1 q.2.2.2.1 q.2.2.2.2.1 tx iB lB aB iC aC q.2.2.2.2.2.1 q.2.2.2.2.2.2.1 q.2.2.2.2.2.2.2.1 q.2.2.2.2.2.2.2.2.1 q.2.2.2.2.2.2.2.2.2.1 q.2.2.2.2.2.2.2.2.2.2.1 q.2.2.2.2.2.2.2.2.2.2.2.1 q.2.2.2.2.2.2.2.2.2.2.2.2.1 q.2.2.2.2.2.2.2.2.2.2.2.2.2.1 q.2.2.2.2.2.2.2.2.2.2.2.2.2.2.1 iP aP) ++ (zzM adm cy r.2.1 r.2.2)) (As := []) (rest := [.int q.1]) ⟨hx, hb, hml, hown, hts⟩ (c_M_read l dC dI cy adm H.size N iM aM r er) (cwV 0 hts (goodVL m_ml_L_27 m_im_X8_read m_se_X8_read m_in_X8 m_cd_X8_read) rfl rfl rfl (by decide +kernel) ⟨Nat.le_of_ble_eq_true rfl, Nat.le_of_ble_eq_true rfl⟩) hN hK hP hD hS hA [54, 55, 56, 57, 58, 59, 60, 61, 62, 63, 64, 65, 66, 67, 68, 69, 70, 71, 72, 73, 74, 75, 76, 77, 78, 79, 80, 81, 82, 83, 84, 85, 86, 87, 88, 89, 90, 91, 92, 93, 94, 95, 96, 97] [none, none, none, none, none, none, none, none, none, none, none, none, none, none, none, none, none, none, none, none, none, none, none, none, none, none, none, none, none, none, none, none, none, none, none, none, none, none, none, none, none, none, none, none, none, none, none, none, none, none, none, none, none, none, some 0, some 1, some 2, some 3, some 4, some 5, some 6, some 7, some 8, some 9, some 10, some 11, some 12, some 13, some 14, some 15, some 16, some 17, some 18, some 19, some 20, some 21, some 22, some 23, some 24, some 25, some 26, some 27, some 28, some 29, some 30, some 31, some 32, some 33, some 34, some 35, some 36, some 37, some 38, some 39, some 40, some 41, some 42, some 43] rfl rfl rfl rfl rfl rfl 54 rfl rfl rfl hl.1 rfl (Nat.le_of_ble_eq_true rfl) dL_law_219 ⟨Nat.le_of_ble_eq_true rfl, Nat.le_of_ble_eq_true rfl⟩ (fun H locs hP hD hS => ?_)
              refine lv_icmp_eq (tgt := 668) hx hb dL_law_222 (by decide) (fun cz => ?_) (fun cz => ?_)
              · refine lv_iinc (v := (x3 + (6 : Int32))) (lv' := [(3, .int (x3 + (6 : Int32))), (0, .ref b), (1, .ref (adx 0)), (2, .ref (adm 0))]) hx hb dL_law_668 hl (k := 3) rfl rfl (by decide) rfl (fun ls hl => ?_)
                refine lv_goto (tgt := 18) hx hb dL_law_671 (by decide) ?_
                exact ih (i + 6) (x3 + (6 : Int32)) (by omega) (by omega) (by rw [ex3]; exact nI_add i 6) adx adm (adx 20) (adx 27) pb q.2.1 q.2.2.1 q.2.2.2.1 q.2.2.2.2.1 tx iB lB aB iC aC q.2.2.2.2.2.1 q.2.2.2.2.2.2.1 q.2.2.2.2.2.2.2.1 q.2.2.2.2.2.2.2.2.1 q.2.2.2.2.2.2.2.2.2.1 q.2.2.2.2.2.2.2.2.2.2.1 q.2.2.2.2.2.2.2.2.2.2.2.1 q.2.2.2.2.2.2.2.2.2.2.2.2.1 q.2.2.2.2.2.2.2.2.2.2.2.2.2.1 q.2.2.2.2.2.2.2.2.2.2.2.2.2.2.1 iP aP r.2.1 r.2.2 (hrel.2 hfl) H locs hP hD hS ls (lv_sub hl [1, 2, 3, 0] rfl)
              · exact absurd hqr cz
            · rw [hfl] at hcr
              refine callVi (cc := code) (own := RL) (ws' := (zzX adx cy (adx 20) (adx 27) (adx 20) (adx 27) pb (adx 20) (adx 4) q.2.1 q.2.2.1 q.2.2.2.1 q.2.2.2.2.1 tx iB lB aB iC aC q.2.2.2.2.2.1 q.2.2.2.2.2.2.1 q.2.2.2.2.2.2.2.1 q.2.2.2.2.2.2.2.2.1 q.2.2.2.2.2.2.2.2.2.1 q.2.2.2.2.2.2.2.2.2.2.1 q.2.2.2.2.2.2.2.2.2.2.2.1 q.2.2.2.2.2.2.2.2.2.2.2.2.1 q.2.2.2.2.2.2.2.2.2.2.2.2.2.1 q.2.2.2.2.2.2.2.2.2.2.2.2.2.2.1 iP aP) ++ (zzM adm cy iM aM)) (As := []) (rest := []) ⟨hx, hb, hml, hown, hts⟩ hcr (cwV 0 hts (goodVL m_ml_L_23 m_im_X7_read m_se_X7_read m_in_X7 m_cd_X7_read) rfl rfl rfl (by decide +kernel) ⟨Nat.le_of_ble_eq_true rfl, Nat.le_of_ble_eq_true rfl⟩) hN hK hP hD hS hA [0, 1, 2, 3, 4, 5, 6, 7, 8, 9, 10, 11, 12, 13, 14, 15, 16, 17, 18, 19, 20, 21, 22, 23, 24, 25, 26, 27, 28, 29, 30, 31, 32, 33, 34, 35, 36, 37, 38, 39, 40, 41, 42, 43, 44, 45, 46, 47, 48, 49, 50, 51, 52, 53] [some 0, some 1, some 2, some 3, some 4, some 5, some 6, some 7, some 8, some 9, some 10, some 11, some 12, some 13, some 14, some 15, some 16, some 17, some 18, some 19, some 20, some 21, some 22, some 23, some 24, some 25, some 26, some 27, some 28, some 29, some 30, some 31, some 32, some 33, some 34, some 35, some 36, some 37, some 38, some 39, some 40, some 41, some 42, some 43, some 44, some 45, some 46, some 47, some 48, some 49, some 50, some 51, some 52, some 53, none, none, none, none, none, none, none, none, none, none, none, none, none, none, none, none, none, none, none, none, none, none, none, none, none, none, none, none, none, none, none, none, none, none, none, none, none, none, none, none, none, none, none, none] rfl rfl rfl rfl rfl rfl 0 rfl rfl rfl hl.1 rfl (Nat.le_of_ble_eq_true rfl) dL_law_215 ⟨Nat.le_of_ble_eq_true rfl, Nat.le_of_ble_eq_true rfl⟩ (fun H locs hP hD hS => ?_)
              refine lv_aload_n hx hb dL_law_218 rfl (lv_at hl 2 rfl) ?_
              refine callVi (cc := code) (own := RL) (ws' := (zzX adx cy (adx 20) (adx 27) (adx 20) (adx 27) pb (adx 20) (adx 4) q.2.1 q.2.2.1 q.2.2.2.1 q.2.2.2.2.1 tx iB lB aB iC aC q.2.2.2.2.2.1 q.2.2.2.2.2.2.1 q.2.2.2.2.2.2.2.1 q.2.2.2.2.2.2.2.2.1 q.2.2.2.2.2.2.2.2.2.1 q.2.2.2.2.2.2.2.2.2.2.1 q.2.2.2.2.2.2.2.2.2.2.2.1 q.2.2.2.2.2.2.2.2.2.2.2.2.1 q.2.2.2.2.2.2.2.2.2.2.2.2.2.1 q.2.2.2.2.2.2.2.2.2.2.2.2.2.2.1 iP aP) ++ (zzM adm cy r.2.1 r.2.2)) (As := []) (rest := [.int q.1]) ⟨hx, hb, hml, hown, hts⟩ (c_M_read l dC dI cy adm H.size N iM aM r er) (cwV 0 hts (goodVL m_ml_L_27 m_im_X8_read m_se_X8_read m_in_X8 m_cd_X8_read) rfl rfl rfl (by decide +kernel) ⟨Nat.le_of_ble_eq_true rfl, Nat.le_of_ble_eq_true rfl⟩) hN hK hP hD hS hA [54, 55, 56, 57, 58, 59, 60, 61, 62, 63, 64, 65, 66, 67, 68, 69, 70, 71, 72, 73, 74, 75, 76, 77, 78, 79, 80, 81, 82, 83, 84, 85, 86, 87, 88, 89, 90, 91, 92, 93, 94, 95, 96, 97] [none, none, none, none, none, none, none, none, none, none, none, none, none, none, none, none, none, none, none, none, none, none, none, none, none, none, none, none, none, none, none, none, none, none, none, none, none, none, none, none, none, none, none, none, none, none, none, none, none, none, none, none, none, none, some 0, some 1, some 2, some 3, some 4, some 5, some 6, some 7, some 8, some 9, some 10, some 11, some 12, some 13, some 14, some 15, some 16, some 17, some 18, some 19, some 20, some 21, some 22, some 23, some 24, some 25, some 26, some 27, some 28, some 29, some 30, some 31, some 32, some 33, some 34, some 35, some 36, some 37, some 38, some 39, some 40, some 41, some 42, some 43] rfl rfl rfl rfl rfl rfl 54 rfl rfl rfl hl.1 rfl (Nat.le_of_ble_eq_true rfl) dL_law_219 ⟨Nat.le_of_ble_eq_true rfl, Nat.le_of_ble_eq_true rfl⟩ (fun H locs hP hD hS => ?_)
              refine lv_icmp_eq (tgt := 668) hx hb dL_law_222 (by decide) (fun cz => ?_) (fun cz => ?_)
              · refine lv_iinc (v := (x3 + (6 : Int32))) (lv' := [(3, .int (x3 + (6 : Int32))), (0, .ref b), (1, .ref (adx 0)), (2, .ref (adm 0))]) hx hb dL_law_668 hl (k := 3) rfl rfl (by decide) rfl (fun ls hl => ?_)
                refine lv_goto (tgt := 18) hx hb dL_law_671 (by decide) ?_
                exact ih (i + 6) (x3 + (6 : Int32)) (by omega) (by omega) (by rw [ex3]; exact nI_add i 6) (fun i => adx (([0, 1, 2, 3, 20, 21, 22, 23, 24, 25, 26, 27, 28, 29, 30, 31, 32, 33, 34, 35, 4, 5, 6, 7, 8, 9, 10, 11, 12, 13, 14, 15, 16, 17, 18, 19, 36, 37, 38, 39, 40, 41, 42, 43, 44, 45, 46, 47, 48, 49, 50, 51, 52, 53] : List Nat).getD i 0)) adm (adx 20) (adx 27) pb q.2.1 q.2.2.1 q.2.2.2.1 q.2.2.2.2.1 tx q.2.2.2.2.2.1 q.2.2.2.2.2.2.1 q.2.2.2.2.2.2.2.1 q.2.2.2.2.2.2.2.2.1 q.2.2.2.2.2.2.2.2.2.1 iB lB aB iC aC q.2.2.2.2.2.2.2.2.2.2.1 q.2.2.2.2.2.2.2.2.2.2.2.1 q.2.2.2.2.2.2.2.2.2.2.2.2.1 q.2.2.2.2.2.2.2.2.2.2.2.2.2.1 q.2.2.2.2.2.2.2.2.2.2.2.2.2.2.1 iP aP r.2.1 r.2.2 (hrel.1 hfl) H locs (hP.sub [0, 1, 2, 3, 20, 21, 22, 23, 24, 25, 26, 27, 28, 29, 30, 31, 32, 33, 34, 35, 4, 5, 6, 7, 8, 9, 10, 11, 12, 13, 14, 15, 16, 17, 18, 19, 36, 37, 38, 39, 40, 41, 42, 43, 44, 45, 46, 47, 48, 49, 50, 51, 52, 53, 54, 55, 56, 57, 58, 59, 60, 61, 62, 63, 64, 65, 66, 67, 68, 69, 70, 71, 72, 73, 74, 75, 76, 77, 78, 79, 80, 81, 82, 83, 84, 85, 86, 87, 88, 89, 90, 91, 92, 93, 94, 95, 96, 97] rfl) (hD.sub [0, 1, 2, 3, 20, 21, 22, 23, 24, 25, 26, 27, 28, 29, 30, 31, 32, 33, 34, 35, 4, 5, 6, 7, 8, 9, 10, 11, 12, 13, 14, 15, 16, 17, 18, 19, 36, 37, 38, 39, 40, 41, 42, 43, 44, 45, 46, 47, 48, 49, 50, 51, 52, 53, 54, 55, 56, 57, 58, 59, 60, 61, 62, 63, 64, 65, 66, 67, 68, 69, 70, 71, 72, 73, 74, 75, 76, 77, 78, 79, 80, 81, 82, 83, 84, 85, 86, 87, 88, 89, 90, 91, 92, 93, 94, 95, 96, 97] (by decide) rfl) hS ls (lv_sub hl [1, 2, 3, 0] rfl)
              · exact absurd hqr cz
          · rcases Decidable.em (sw = (3 : Int32)) with c3 | c3
            · refine lv_tableIn (off := 194) (tgt := 227) hx hb dL_law_33 (by rw [c3]; decide) (by rw [c3]; decide) (by rw [c3]; rfl) (by decide) ?_
              obtain ⟨q, r, eq, er, hqr, hrel⟩ := S_place iX iR iT wT tx iB lB aB iC aC iD lD aD iE aE iK lK aK iW aW iP aP iM aM hRel
              refine lv_aload_n hx hb dL_law_227 rfl (lv_at hl 1 rfl) ?_
              refine callVi (cc := code) (own := RL) (ws' := (zzX adx cy rb rc (adx 4) (adx 11) pb (adx 4) (adx 20) iX iR iT wT tx iB lB aB iC aC iD lD aD iE aE iK lK aK iW aW iP aP) ++ (zzM adm cy iM aM)) (As := []) (rest := []) ⟨hx, hb, hml, hown, hts⟩ (c_X_place l dC dI cy adx H.size rb rc pb iX iR iT wT tx iB lB aB iC aC iD lD aD iE aE iK lK aK iW aW iP aP q eq) (cwV 0 hts (goodVL m_ml_L_28 m_im_X7_place m_se_X7_place m_in_X7 m_cd_X7_place) rfl rfl rfl (by decide +kernel) ⟨Nat.le_of_ble_eq_true rfl, Nat.le_of_ble_eq_true rfl⟩) hN hK hP hD hS hA [0, 1, 2, 3, 4, 5, 6, 7, 8, 9, 10, 11, 12, 13, 14, 15, 16, 17, 18, 19, 20, 21, 22, 23, 24, 25, 26, 27, 28, 29, 30, 31, 32, 33, 34, 35, 36, 37, 38, 39, 40, 41, 42, 43, 44, 45, 46, 47, 48, 49, 50, 51, 52, 53] [some 0, some 1, some 2, some 3, some 4, some 5, some 6, some 7, some 8, some 9, some 10, some 11, some 12, some 13, some 14, some 15, some 16, some 17, some 18, some 19, some 20, some 21, some 22, some 23, some 24, some 25, some 26, some 27, some 28, some 29, some 30, some 31, some 32, some 33, some 34, some 35, some 36, some 37, some 38, some 39, some 40, some 41, some 42, some 43, some 44, some 45, some 46, some 47, some 48, some 49, some 50, some 51, some 52, some 53, none, none, none, none, none, none, none, none, none, none, none, none, none, none, none, none, none, none, none, none, none, none, none, none, none, none, none, none, none, none, none, none, none, none, none, none, none, none, none, none, none, none, none, none] rfl rfl rfl rfl rfl rfl 0 rfl rfl rfl hl.1 rfl (Nat.le_of_ble_eq_true rfl) dL_law_228 ⟨Nat.le_of_ble_eq_true rfl, Nat.le_of_ble_eq_true rfl⟩ (fun H locs hP hD hS => ?_)
              refine lv_aload_n hx hb dL_law_231 rfl (lv_at hl 2 rfl) ?_
              refine callVi (cc := code) (own := RL) (ws' := (zzX adx cy rb rc (adx 4) (adx 11) pb (adx 4) (adx 20) iX iR iT wT tx iB lB aB iC aC iD lD aD iE aE iK lK aK iW aW iP aP) ++ (zzM adm cy iM aM)) (As := []) (rest := [.int q]) ⟨hx, hb, hml, hown, hts⟩ (c_M_place l dC dI cy adm H.size iM aM r er) (cwV 0 hts (goodVL m_ml_L_31 m_im_X8_place m_se_X8_place m_in_X8 m_cd_X8_place) rfl rfl rfl (by decide +kernel) ⟨Nat.le_of_ble_eq_true rfl, Nat.le_of_ble_eq_true rfl⟩) hN hK hP hD hS hA [54, 55, 56, 57, 58, 59, 60, 61, 62, 63, 64, 65, 66, 67, 68, 69, 70, 71, 72, 73, 74, 75, 76, 77, 78, 79, 80, 81, 82, 83, 84, 85, 86, 87, 88, 89, 90, 91, 92, 93, 94, 95, 96, 97] [none, none, none, none, none, none, none, none, none, none, none, none, none, none, none, none, none, none, none, none, none, none, none, none, none, none, none, none, none, none, none, none, none, none, none, none, none, none, none, none, none, none, none, none, none, none, none, none, none, none, none, none, none, none, some 0, some 1, some 2, some 3, some 4, some 5, some 6, some 7, some 8, some 9, some 10, some 11, some 12, some 13, some 14, some 15, some 16, some 17, some 18, some 19, some 20, some 21, some 22, some 23, some 24, some 25, some 26, some 27, some 28, some 29, some 30, some 31, some 32, some 33, some 34, some 35, some 36, some 37, some 38, some 39, some 40, some 41, some 42, some 43] rfl rfl rfl rfl rfl rfl 54 rfl rfl rfl hl.1 rfl (Nat.le_of_ble_eq_true rfl) dL_law_232 ⟨Nat.le_of_ble_eq_true rfl, Nat.le_of_ble_eq_true rfl⟩ (fun H locs hP hD hS => ?_)
              refine lv_icmp_eq (tgt := 668) hx hb dL_law_235 (by decide) (fun cz => ?_) (fun cz => ?_)
              · refine lv_iinc (v := (x3 + (6 : Int32))) (lv' := [(3, .int (x3 + (6 : Int32))), (0, .ref b), (1, .ref (adx 0)), (2, .ref (adm 0))]) hx hb dL_law_668 hl (k := 3) rfl rfl (by decide) rfl (fun ls hl => ?_)
                refine lv_goto (tgt := 18) hx hb dL_law_671 (by decide) ?_
                exact ih (i + 6) (x3 + (6 : Int32)) (by omega) (by omega) (by rw [ex3]; exact nI_add i 6) adx adm rb rc pb iX iR iT wT tx iB lB aB iC aC iD lD aD iE aE iK lK aK iW aW iP aP iM aM hrel H locs hP hD hS ls (lv_sub hl [1, 2, 3, 0] rfl)
              · exact absurd hqr cz
            · rcases Decidable.em (sw = (4 : Int32)) with c4 | c4
              · refine lv_tableIn (off := 207) (tgt := 240) hx hb dL_law_33 (by rw [c4]; decide) (by rw [c4]; decide) (by rw [c4]; rfl) (by decide) ?_
                obtain ⟨q, r, eq, er, hqr, hrel⟩ := S_count (xs (x3 + (1 : Int32)).toNatClampNeg) iX iR iT wT tx iB lB aB iC aC iD lD aD iE aE iK lK aK iW aW iP aP iM aM hRel
                refine lv_aload_n hx hb dL_law_240 rfl (lv_at hl 1 rfl) ?_
                refine lv_aload_n hx hb dL_law_241 rfl (lv_at hl 0 rfl) ?_
                refine lv_iload_n hx hb dL_law_242 rfl (lv_at hl 3 rfl) ?_
                refine lv_iconst (v := 1) hx hb dL_law_243 (by decide) ?_
                refine lv_iadd hx hb dL_law_244 ?_
                refine va_sld hx hb hX hbl hbA hS o1 dL_law_245 ?_
                refine callVi (cc := code) (own := RL) (ws' := (zzX adx cy rb rc (adx 4) (adx 11) pb (adx 4) (adx 20) iX iR iT wT tx iB lB aB iC aC iD lD aD iE aE iK lK aK iW aW iP aP) ++ (zzM adm cy iM aM)) (As := [.int (xs (x3 + (1 : Int32)).toNatClampNeg)]) (rest := []) ⟨hx, hb, hml, hown, hts⟩ (c_X_count l dC dI cy adx H.size rb rc pb N (xs (x3 + (1 : Int32)).toNatClampNeg) iX iR iT wT tx iB lB aB iC aC iD lD aD iE aE iK lK aK iW aW iP aP q eq) (cwV 1 hts (goodVL m_ml_L_32 m_im_X7_count m_se_X7_count m_in_X7 m_cd_X7_count) rfl rfl rfl (by decide +kernel) ⟨Nat.le_of_ble_eq_true rfl, Nat.le_of_ble_eq_true rfl⟩) hN hK hP hD hS hA [0, 1, 2, 3, 4, 5, 6, 7, 8, 9, 10, 11, 12, 13, 14, 15, 16, 17, 18, 19, 20, 21, 22, 23, 24, 25, 26, 27, 28, 29, 30, 31, 32, 33, 34, 35, 36, 37, 38, 39, 40, 41, 42, 43, 44, 45, 46, 47, 48, 49, 50, 51, 52, 53] [some 0, some 1, some 2, some 3, some 4, some 5, some 6, some 7, some 8, some 9, some 10, some 11, some 12, some 13, some 14, some 15, some 16, some 17, some 18, some 19, some 20, some 21, some 22, some 23, some 24, some 25, some 26, some 27, some 28, some 29, some 30, some 31, some 32, some 33, some 34, some 35, some 36, some 37, some 38, some 39, some 40, some 41, some 42, some 43, some 44, some 45, some 46, some 47, some 48, some 49, some 50, some 51, some 52, some 53, none, none, none, none, none, none, none, none, none, none, none, none, none, none, none, none, none, none, none, none, none, none, none, none, none, none, none, none, none, none, none, none, none, none, none, none, none, none, none, none, none, none, none, none] rfl rfl rfl rfl rfl rfl 0 rfl rfl rfl hl.1 rfl (Nat.le_of_ble_eq_true rfl) dL_law_246 ⟨Nat.le_of_ble_eq_true rfl, Nat.le_of_ble_eq_true rfl⟩ (fun H locs hP hD hS => ?_)
                refine lv_aload_n hx hb dL_law_249 rfl (lv_at hl 2 rfl) ?_
                refine lv_aload_n hx hb dL_law_250 rfl (lv_at hl 0 rfl) ?_
                refine lv_iload_n hx hb dL_law_251 rfl (lv_at hl 3 rfl) ?_
                refine lv_iconst (v := 1) hx hb dL_law_252 (by decide) ?_
                refine lv_iadd hx hb dL_law_253 ?_
                refine va_sld hx hb hX hbl hbA hS o1 dL_law_254 ?_
                refine callVi (cc := code) (own := RL) (ws' := (zzX adx cy rb rc (adx 4) (adx 11) pb (adx 4) (adx 20) iX iR iT wT tx iB lB aB iC aC iD lD aD iE aE iK lK aK iW aW iP aP) ++ (zzM adm cy iM aM)) (As := [.int (xs (x3 + (1 : Int32)).toNatClampNeg)]) (rest := [.int q]) ⟨hx, hb, hml, hown, hts⟩ (c_M_count l dC dI cy adm H.size N (xs (x3 + (1 : Int32)).toNatClampNeg) iM aM r er) (cwV 1 hts (goodVL m_ml_L_35 m_im_X8_count m_se_X8_count m_in_X8 m_cd_X8_count) rfl rfl rfl (by decide +kernel) ⟨Nat.le_of_ble_eq_true rfl, Nat.le_of_ble_eq_true rfl⟩) hN hK hP hD hS hA [54, 55, 56, 57, 58, 59, 60, 61, 62, 63, 64, 65, 66, 67, 68, 69, 70, 71, 72, 73, 74, 75, 76, 77, 78, 79, 80, 81, 82, 83, 84, 85, 86, 87, 88, 89, 90, 91, 92, 93, 94, 95, 96, 97] [none, none, none, none, none, none, none, none, none, none, none, none, none, none, none, none, none, none, none, none, none, none, none, none, none, none, none, none, none, none, none, none, none, none, none, none, none, none, none, none, none, none, none, none, none, none, none, none, none, none, none, none, none, none, some 0, some 1, some 2, some 3, some 4, some 5, some 6, some 7, some 8, some 9, some 10, some 11, some 12, some 13, some 14, some 15, some 16, some 17, some 18, some 19, some 20, some 21, some 22, some 23, some 24, some 25, some 26, some 27, some 28, some 29, some 30, some 31, some 32, some 33, some 34, some 35, some 36, some 37, some 38, some 39, some 40, some 41, some 42, some 43] rfl rfl rfl rfl rfl rfl 54 rfl rfl rfl hl.1 rfl (Nat.le_of_ble_eq_true rfl) dL_law_255 ⟨Nat.le_of_ble_eq_true rfl, Nat.le_of_ble_eq_true rfl⟩ (fun H locs hP hD hS => ?_)
                refine lv_icmp_eq (tgt := 668) hx hb dL_law_258 (by decide) (fun cz => ?_) (fun cz => ?_)
                · refine lv_iinc (v := (x3 + (6 : Int32))) (lv' := [(3, .int (x3 + (6 : Int32))), (0, .ref b), (1, .ref (adx 0)), (2, .ref (adm 0))]) hx hb dL_law_668 hl (k := 3) rfl rfl (by decide) rfl (fun ls hl => ?_)
                  refine lv_goto (tgt := 18) hx hb dL_law_671 (by decide) ?_
                  exact ih (i + 6) (x3 + (6 : Int32)) (by omega) (by omega) (by rw [ex3]; exact nI_add i 6) adx adm rb rc pb iX iR iT wT tx iB lB aB iC aC iD lD aD iE aE iK lK aK iW aW iP aP iM aM hrel H locs hP hD hS ls (lv_sub hl [1, 2, 3, 0] rfl)
                · exact absurd hqr cz
              · rcases Decidable.em (sw = (5 : Int32)) with c5 | c5
                · refine lv_tableIn (off := 230) (tgt := 263) hx hb dL_law_33 (by rw [c5]; decide) (by rw [c5]; decide) (by rw [c5]; rfl) (by decide) ?_
                  obtain ⟨q, r, eq, er, hqr, hrel⟩ := S_atom (xs (x3 + (1 : Int32)).toNatClampNeg) (xs (x3 + (2 : Int32)).toNatClampNeg) iX iR iT wT tx iB lB aB iC aC iD lD aD iE aE iK lK aK iW aW iP aP iM aM hRel
                  refine lv_aload_n hx hb dL_law_263 rfl (lv_at hl 1 rfl) ?_
                  refine lv_aload_n hx hb dL_law_264 rfl (lv_at hl 0 rfl) ?_
                  refine lv_iload_n hx hb dL_law_265 rfl (lv_at hl 3 rfl) ?_
                  refine lv_iconst (v := 1) hx hb dL_law_266 (by decide) ?_
                  refine lv_iadd hx hb dL_law_267 ?_
                  refine va_sld hx hb hX hbl hbA hS o1 dL_law_268 ?_
                  refine lv_aload_n hx hb dL_law_269 rfl (lv_at hl 0 rfl) ?_
                  refine lv_iload_n hx hb dL_law_270 rfl (lv_at hl 3 rfl) ?_
                  refine lv_iconst (v := 2) hx hb dL_law_271 (by decide) ?_
                  refine lv_iadd hx hb dL_law_272 ?_
                  refine va_sld hx hb hX hbl hbA hS o2 dL_law_273 ?_
                  refine callVi (cc := code) (own := RL) (ws' := (zzX adx cy rb rc (adx 4) (adx 11) pb (adx 4) (adx 20) iX iR iT wT tx iB lB aB iC aC iD lD aD iE aE iK lK aK iW aW iP aP) ++ (zzM adm cy iM aM)) (As := [.int (xs (x3 + (1 : Int32)).toNatClampNeg), .int (xs (x3 + (2 : Int32)).toNatClampNeg)]) (rest := []) ⟨hx, hb, hml, hown, hts⟩ (c_X_atom l dC dI cy adx H.size rb rc pb (xs (x3 + (1 : Int32)).toNatClampNeg) (xs (x3 + (2 : Int32)).toNatClampNeg) iX iR iT wT tx iB lB aB iC aC iD lD aD iE aE iK lK aK iW aW iP aP q eq) (cwV 2 hts (goodVL m_ml_L_36 m_im_X7_atom m_se_X7_atom m_in_X7 m_cd_X7_atom) rfl rfl rfl (by decide +kernel) ⟨Nat.le_of_ble_eq_true rfl, Nat.le_of_ble_eq_true rfl⟩) hN hK hP hD hS hA [0, 1, 2, 3, 4, 5, 6, 7, 8, 9, 10, 11, 12, 13, 14, 15, 16, 17, 18, 19, 20, 21, 22, 23, 24, 25, 26, 27, 28, 29, 30, 31, 32, 33, 34, 35, 36, 37, 38, 39, 40, 41, 42, 43, 44, 45, 46, 47, 48, 49, 50, 51, 52, 53] [some 0, some 1, some 2, some 3, some 4, some 5, some 6, some 7, some 8, some 9, some 10, some 11, some 12, some 13, some 14, some 15, some 16, some 17, some 18, some 19, some 20, some 21, some 22, some 23, some 24, some 25, some 26, some 27, some 28, some 29, some 30, some 31, some 32, some 33, some 34, some 35, some 36, some 37, some 38, some 39, some 40, some 41, some 42, some 43, some 44, some 45, some 46, some 47, some 48, some 49, some 50, some 51, some 52, some 53, none, none, none, none, none, none, none, none, none, none, none, none, none, none, none, none, none, none, none, none, none, none, none, none, none, none, none, none, none, none, none, none, none, none, none, none, none, none, none, none, none, none, none, none] rfl rfl rfl rfl rfl rfl 0 rfl rfl rfl hl.1 rfl (Nat.le_of_ble_eq_true rfl) dL_law_274 ⟨Nat.le_of_ble_eq_true rfl, Nat.le_of_ble_eq_true rfl⟩ (fun H locs hP hD hS => ?_)
                  refine lv_aload_n hx hb dL_law_277 rfl (lv_at hl 2 rfl) ?_
                  refine lv_aload_n hx hb dL_law_278 rfl (lv_at hl 0 rfl) ?_
                  refine lv_iload_n hx hb dL_law_279 rfl (lv_at hl 3 rfl) ?_
                  refine lv_iconst (v := 1) hx hb dL_law_280 (by decide) ?_
                  refine lv_iadd hx hb dL_law_281 ?_
                  refine va_sld hx hb hX hbl hbA hS o1 dL_law_282 ?_
                  refine lv_aload_n hx hb dL_law_283 rfl (lv_at hl 0 rfl) ?_
                  refine lv_iload_n hx hb dL_law_284 rfl (lv_at hl 3 rfl) ?_
                  refine lv_iconst (v := 2) hx hb dL_law_285 (by decide) ?_
                  refine lv_iadd hx hb dL_law_286 ?_
                  refine va_sld hx hb hX hbl hbA hS o2 dL_law_287 ?_
                  refine callVi (cc := code) (own := RL) (ws' := (zzX adx cy rb rc (adx 4) (adx 11) pb (adx 4) (adx 20) iX iR iT wT tx iB lB aB iC aC iD lD aD iE aE iK lK aK iW aW iP aP) ++ (zzM adm cy iM aM)) (As := [.int (xs (x3 + (1 : Int32)).toNatClampNeg), .int (xs (x3 + (2 : Int32)).toNatClampNeg)]) (rest := [.int q]) ⟨hx, hb, hml, hown, hts⟩ (c_M_atom l dC dI cy adm H.size (xs (x3 + (1 : Int32)).toNatClampNeg) (xs (x3 + (2 : Int32)).toNatClampNeg) iM aM r er) (cwV 2 hts (goodVL m_ml_L_40 m_im_X8_atom m_se_X8_atom m_in_X8 m_cd_X8_atom) rfl rfl rfl (by decide +kernel) ⟨Nat.le_of_ble_eq_true rfl, Nat.le_of_ble_eq_true rfl⟩) hN hK hP hD hS hA [54, 55, 56, 57, 58, 59, 60, 61, 62, 63, 64, 65, 66, 67, 68, 69, 70, 71, 72, 73, 74, 75, 76, 77, 78, 79, 80, 81, 82, 83, 84, 85, 86, 87, 88, 89, 90, 91, 92, 93, 94, 95, 96, 97] [none, none, none, none, none, none, none, none, none, none, none, none, none, none, none, none, none, none, none, none, none, none, none, none, none, none, none, none, none, none, none, none, none, none, none, none, none, none, none, none, none, none, none, none, none, none, none, none, none, none, none, none, none, none, some 0, some 1, some 2, some 3, some 4, some 5, some 6, some 7, some 8, some 9, some 10, some 11, some 12, some 13, some 14, some 15, some 16, some 17, some 18, some 19, some 20, some 21, some 22, some 23, some 24, some 25, some 26, some 27, some 28, some 29, some 30, some 31, some 32, some 33, some 34, some 35, some 36, some 37, some 38, some 39, some 40, some 41, some 42, some 43] rfl rfl rfl rfl rfl rfl 54 rfl rfl rfl hl.1 rfl (Nat.le_of_ble_eq_true rfl) dL_law_288 ⟨Nat.le_of_ble_eq_true rfl, Nat.le_of_ble_eq_true rfl⟩ (fun H locs hP hD hS => ?_)
                  refine lv_icmp_eq (tgt := 668) hx hb dL_law_291 (by decide) (fun cz => ?_) (fun cz => ?_)
                  · refine lv_iinc (v := (x3 + (6 : Int32))) (lv' := [(3, .int (x3 + (6 : Int32))), (0, .ref b), (1, .ref (adx 0)), (2, .ref (adm 0))]) hx hb dL_law_668 hl (k := 3) rfl rfl (by decide) rfl (fun ls hl => ?_)
                    refine lv_goto (tgt := 18) hx hb dL_law_671 (by decide) ?_
                    exact ih (i + 6) (x3 + (6 : Int32)) (by omega) (by omega) (by rw [ex3]; exact nI_add i 6) adx adm rb rc pb iX iR iT wT tx iB lB aB iC aC iD lD aD iE aE iK lK aK iW aW iP aP iM aM hrel H locs hP hD hS ls (lv_sub hl [1, 2, 3, 0] rfl)
                  · exact absurd hqr cz
                · rcases Decidable.em (sw = (6 : Int32)) with c6 | c6
                  · refine lv_tableIn (off := 263) (tgt := 296) hx hb dL_law_33 (by rw [c6]; decide) (by rw [c6]; decide) (by rw [c6]; rfl) (by decide) ?_
                    obtain ⟨q, r, eq, er, hqr, hrel⟩ := S_rank (xs (x3 + (1 : Int32)).toNatClampNeg) iX iR iT wT tx iB lB aB iC aC iD lD aD iE aE iK lK aK iW aW iP aP iM aM hRel
                    refine lv_aload_n hx hb dL_law_296 rfl (lv_at hl 1 rfl) ?_
                    refine lv_aload_n hx hb dL_law_297 rfl (lv_at hl 0 rfl) ?_
                    refine lv_iload_n hx hb dL_law_298 rfl (lv_at hl 3 rfl) ?_
                    refine lv_iconst (v := 1) hx hb dL_law_299 (by decide) ?_
                    refine lv_iadd hx hb dL_law_300 ?_
                    refine va_sld hx hb hX hbl hbA hS o1 dL_law_301 ?_
                    refine callVi (cc := code) (own := RL) (ws' := (zzX adx cy rb rc (adx 4) (adx 11) pb (adx 4) (adx 20) iX iR iT wT tx iB lB aB iC aC iD lD aD iE aE iK lK aK iW aW iP aP) ++ (zzM adm cy iM aM)) (As := [.int (xs (x3 + (1 : Int32)).toNatClampNeg)]) (rest := []) ⟨hx, hb, hml, hown, hts⟩ (c_X_rank l dC dI cy adx H.size rb rc pb (xs (x3 + (1 : Int32)).toNatClampNeg) iX iR iT wT tx iB lB aB iC aC iD lD aD iE aE iK lK aK iW aW iP aP q eq) (cwV 1 hts (goodVL m_ml_L_41 m_im_X7_rank m_se_X7_rank m_in_X7 m_cd_X7_rank) rfl rfl rfl (by decide +kernel) ⟨Nat.le_of_ble_eq_true rfl, Nat.le_of_ble_eq_true rfl⟩) hN hK hP hD hS hA [0, 1, 2, 3, 4, 5, 6, 7, 8, 9, 10, 11, 12, 13, 14, 15, 16, 17, 18, 19, 20, 21, 22, 23, 24, 25, 26, 27, 28, 29, 30, 31, 32, 33, 34, 35, 36, 37, 38, 39, 40, 41, 42, 43, 44, 45, 46, 47, 48, 49, 50, 51, 52, 53] [some 0, some 1, some 2, some 3, some 4, some 5, some 6, some 7, some 8, some 9, some 10, some 11, some 12, some 13, some 14, some 15, some 16, some 17, some 18, some 19, some 20, some 21, some 22, some 23, some 24, some 25, some 26, some 27, some 28, some 29, some 30, some 31, some 32, some 33, some 34, some 35, some 36, some 37, some 38, some 39, some 40, some 41, some 42, some 43, some 44, some 45, some 46, some 47, some 48, some 49, some 50, some 51, some 52, some 53, none, none, none, none, none, none, none, none, none, none, none, none, none, none, none, none, none, none, none, none, none, none, none, none, none, none, none, none, none, none, none, none, none, none, none, none, none, none, none, none, none, none, none, none] rfl rfl rfl rfl rfl rfl 0 rfl rfl rfl hl.1 rfl (Nat.le_of_ble_eq_true rfl) dL_law_302 ⟨Nat.le_of_ble_eq_true rfl, Nat.le_of_ble_eq_true rfl⟩ (fun H locs hP hD hS => ?_)
                    refine lv_aload_n hx hb dL_law_305 rfl (lv_at hl 2 rfl) ?_
                    refine lv_aload_n hx hb dL_law_306 rfl (lv_at hl 0 rfl) ?_
                    refine lv_iload_n hx hb dL_law_307 rfl (lv_at hl 3 rfl) ?_
                    refine lv_iconst (v := 1) hx hb dL_law_308 (by decide) ?_
                    refine lv_iadd hx hb dL_law_309 ?_
                    refine va_sld hx hb hX hbl hbA hS o1 dL_law_310 ?_
                    refine callVi (cc := code) (own := RL) (ws' := (zzX adx cy rb rc (adx 4) (adx 11) pb (adx 4) (adx 20) iX iR iT wT tx iB lB aB iC aC iD lD aD iE aE iK lK aK iW aW iP aP) ++ (zzM adm cy iM aM)) (As := [.int (xs (x3 + (1 : Int32)).toNatClampNeg)]) (rest := [.int q]) ⟨hx, hb, hml, hown, hts⟩ (c_M_rank l dC dI cy adm H.size (xs (x3 + (1 : Int32)).toNatClampNeg) iM aM r er) (cwV 1 hts (goodVL m_ml_L_44 m_im_X8_rank m_se_X8_rank m_in_X8 m_cd_X8_rank) rfl rfl rfl (by decide +kernel) ⟨Nat.le_of_ble_eq_true rfl, Nat.le_of_ble_eq_true rfl⟩) hN hK hP hD hS hA [54, 55, 56, 57, 58, 59, 60, 61, 62, 63, 64, 65, 66, 67, 68, 69, 70, 71, 72, 73, 74, 75, 76, 77, 78, 79, 80, 81, 82, 83, 84, 85, 86, 87, 88, 89, 90, 91, 92, 93, 94, 95, 96, 97] [none, none, none, none, none, none, none, none, none, none, none, none, none, none, none, none, none, none, none, none, none, none, none, none, none, none, none, none, none, none, none, none, none, none, none, none, none, none, none, none, none, none, none, none, none, none, none, none, none, none, none, none, none, none, some 0, some 1, some 2, some 3, some 4, some 5, some 6, some 7, some 8, some 9, some 10, some 11, some 12, some 13, some 14, some 15, some 16, some 17, some 18, some 19, some 20, some 21, some 22, some 23, some 24, some 25, some 26, some 27, some 28, some 29, some 30, some 31, some 32, some 33, some 34, some 35, some 36, some 37, some 38, some 39, some 40, some 41, some 42, some 43] rfl rfl rfl rfl rfl rfl 54 rfl rfl rfl hl.1 rfl (Nat.le_of_ble_eq_true rfl) dL_law_311 ⟨Nat.le_of_ble_eq_true rfl, Nat.le_of_ble_eq_true rfl⟩ (fun H locs hP hD hS => ?_)
                    refine lv_icmp_eq (tgt := 668) hx hb dL_law_314 (by decide) (fun cz => ?_) (fun cz => ?_)
                    · refine lv_iinc (v := (x3 + (6 : Int32))) (lv' := [(3, .int (x3 + (6 : Int32))), (0, .ref b), (1, .ref (adx 0)), (2, .ref (adm 0))]) hx hb dL_law_668 hl (k := 3) rfl rfl (by decide) rfl (fun ls hl => ?_)
                      refine lv_goto (tgt := 18) hx hb dL_law_671 (by decide) ?_
                      exact ih (i + 6) (x3 + (6 : Int32)) (by omega) (by omega) (by rw [ex3]; exact nI_add i 6) adx adm rb rc pb iX iR iT wT tx iB lB aB iC aC iD lD aD iE aE iK lK aK iW aW iP aP iM aM hrel H locs hP hD hS ls (lv_sub hl [1, 2, 3, 0] rfl)
                    · exact absurd hqr cz
                  · rcases Decidable.em (sw = (7 : Int32)) with c7 | c7
                    · refine lv_tableIn (off := 286) (tgt := 319) hx hb dL_law_33 (by rw [c7]; decide) (by rw [c7]; decide) (by rw [c7]; rfl) (by decide) ?_
                      obtain ⟨q, r, eq, er, hqr, hrel⟩ := S_goes (xs (x3 + (1 : Int32)).toNatClampNeg) (xs (x3 + (2 : Int32)).toNatClampNeg) (xs (x3 + (3 : Int32)).toNatClampNeg) iX iR iT wT tx iB lB aB iC aC iD lD aD iE aE iK lK aK iW aW iP aP iM aM hRel
                      refine lv_aload_n hx hb dL_law_319 rfl (lv_at hl 1 rfl) ?_
                      refine lv_aload_n hx hb dL_law_320 rfl (lv_at hl 0 rfl) ?_
                      refine lv_iload_n hx hb dL_law_321 rfl (lv_at hl 3 rfl) ?_
                      refine lv_iconst (v := 1) hx hb dL_law_322 (by decide) ?_
                      refine lv_iadd hx hb dL_law_323 ?_
                      refine va_sld hx hb hX hbl hbA hS o1 dL_law_324 ?_
                      refine lv_aload_n hx hb dL_law_325 rfl (lv_at hl 0 rfl) ?_
                      refine lv_iload_n hx hb dL_law_326 rfl (lv_at hl 3 rfl) ?_
                      refine lv_iconst (v := 2) hx hb dL_law_327 (by decide) ?_
                      refine lv_iadd hx hb dL_law_328 ?_
                      refine va_sld hx hb hX hbl hbA hS o2 dL_law_329 ?_
                      refine lv_aload_n hx hb dL_law_330 rfl (lv_at hl 0 rfl) ?_
                      refine lv_iload_n hx hb dL_law_331 rfl (lv_at hl 3 rfl) ?_
                      refine lv_iconst (v := 3) hx hb dL_law_332 (by decide) ?_
                      refine lv_iadd hx hb dL_law_333 ?_
                      refine va_sld hx hb hX hbl hbA hS o3 dL_law_334 ?_
                      refine callVi (cc := code) (own := RL) (ws' := (zzX adx cy rb rc (adx 4) (adx 11) pb (adx 4) (adx 20) iX iR iT wT tx iB lB aB iC aC iD lD aD iE aE iK lK aK iW aW iP aP) ++ (zzM adm cy iM aM)) (As := [.int (xs (x3 + (1 : Int32)).toNatClampNeg), .int (xs (x3 + (2 : Int32)).toNatClampNeg), .int (xs (x3 + (3 : Int32)).toNatClampNeg)]) (rest := []) ⟨hx, hb, hml, hown, hts⟩ (c_X_goes l dC dI cy adx H.size rb rc pb N (xs (x3 + (1 : Int32)).toNatClampNeg) (xs (x3 + (2 : Int32)).toNatClampNeg) (xs (x3 + (3 : Int32)).toNatClampNeg) iX iR iT wT tx iB lB aB iC aC iD lD aD iE aE iK lK aK iW aW iP aP q eq) (cwV 3 hts (goodVL m_ml_L_45 m_im_X7_goes m_se_X7_goes m_in_X7 m_cd_X7_goes) rfl rfl rfl (by decide +kernel) ⟨Nat.le_of_ble_eq_true rfl, Nat.le_of_ble_eq_true rfl⟩) hN hK hP hD hS hA [0, 1, 2, 3, 4, 5, 6, 7, 8, 9, 10, 11, 12, 13, 14, 15, 16, 17, 18, 19, 20, 21, 22, 23, 24, 25, 26, 27, 28, 29, 30, 31, 32, 33, 34, 35, 36, 37, 38, 39, 40, 41, 42, 43, 44, 45, 46, 47, 48, 49, 50, 51, 52, 53] [some 0, some 1, some 2, some 3, some 4, some 5, some 6, some 7, some 8, some 9, some 10, some 11, some 12, some 13, some 14, some 15, some 16, some 17, some 18, some 19, some 20, some 21, some 22, some 23, some 24, some 25, some 26, some 27, some 28, some 29, some 30, some 31, some 32, some 33, some 34, some 35, some 36, some 37, some 38, some 39, some 40, some 41, some 42, some 43, some 44, some 45, some 46, some 47, some 48, some 49, some 50, some 51, some 52, some 53, none, none, none, none, none, none, none, none, none, none, none, none, none, none, none, none, none, none, none, none, none, none, none, none, none, none, none, none, none, none, none, none, none, none, none, none, none, none, none, none, none, none, none, none] rfl rfl rfl rfl rfl rfl 0 rfl rfl rfl hl.1 rfl (Nat.le_of_ble_eq_true rfl) dL_law_335 ⟨Nat.le_of_ble_eq_true rfl, Nat.le_of_ble_eq_true rfl⟩ (fun H locs hP hD hS => ?_)
                      refine lv_aload_n hx hb dL_law_338 rfl (lv_at hl 2 rfl) ?_
                      refine lv_aload_n hx hb dL_law_339 rfl (lv_at hl 0 rfl) ?_
                      refine lv_iload_n hx hb dL_law_340 rfl (lv_at hl 3 rfl) ?_
                      refine lv_iconst (v := 1) hx hb dL_law_341 (by decide) ?_
                      refine lv_iadd hx hb dL_law_342 ?_
                      refine va_sld hx hb hX hbl hbA hS o1 dL_law_343 ?_
                      refine lv_aload_n hx hb dL_law_344 rfl (lv_at hl 0 rfl) ?_
                      refine lv_iload_n hx hb dL_law_345 rfl (lv_at hl 3 rfl) ?_
                      refine lv_iconst (v := 2) hx hb dL_law_346 (by decide) ?_
                      refine lv_iadd hx hb dL_law_347 ?_
                      refine va_sld hx hb hX hbl hbA hS o2 dL_law_348 ?_
                      refine lv_aload_n hx hb dL_law_349 rfl (lv_at hl 0 rfl) ?_
                      refine lv_iload_n hx hb dL_law_350 rfl (lv_at hl 3 rfl) ?_
                      refine lv_iconst (v := 3) hx hb dL_law_351 (by decide) ?_
                      refine lv_iadd hx hb dL_law_352 ?_
                      refine va_sld hx hb hX hbl hbA hS o3 dL_law_353 ?_
                      refine callVi (cc := code) (own := RL) (ws' := (zzX adx cy rb rc (adx 4) (adx 11) pb (adx 4) (adx 20) iX iR iT wT tx iB lB aB iC aC iD lD aD iE aE iK lK aK iW aW iP aP) ++ (zzM adm cy iM aM)) (As := [.int (xs (x3 + (1 : Int32)).toNatClampNeg), .int (xs (x3 + (2 : Int32)).toNatClampNeg), .int (xs (x3 + (3 : Int32)).toNatClampNeg)]) (rest := [.int q]) ⟨hx, hb, hml, hown, hts⟩ (c_M_goes l dC dI cy adm H.size (xs (x3 + (1 : Int32)).toNatClampNeg) (xs (x3 + (2 : Int32)).toNatClampNeg) (xs (x3 + (3 : Int32)).toNatClampNeg) iM aM r er) (cwV 3 hts (goodVL m_ml_L_49 m_im_X8_goes m_se_X8_goes m_in_X8 m_cd_X8_goes) rfl rfl rfl (by decide +kernel) ⟨Nat.le_of_ble_eq_true rfl, Nat.le_of_ble_eq_true rfl⟩) hN hK hP hD hS hA [54, 55, 56, 57, 58, 59, 60, 61, 62, 63, 64, 65, 66, 67, 68, 69, 70, 71, 72, 73, 74, 75, 76, 77, 78, 79, 80, 81, 82, 83, 84, 85, 86, 87, 88, 89, 90, 91, 92, 93, 94, 95, 96, 97] [none, none, none, none, none, none, none, none, none, none, none, none, none, none, none, none, none, none, none, none, none, none, none, none, none, none, none, none, none, none, none, none, none, none, none, none, none, none, none, none, none, none, none, none, none, none, none, none, none, none, none, none, none, none, some 0, some 1, some 2, some 3, some 4, some 5, some 6, some 7, some 8, some 9, some 10, some 11, some 12, some 13, some 14, some 15, some 16, some 17, some 18, some 19, some 20, some 21, some 22, some 23, some 24, some 25, some 26, some 27, some 28, some 29, some 30, some 31, some 32, some 33, some 34, some 35, some 36, some 37, some 38, some 39, some 40, some 41, some 42, some 43] rfl rfl rfl rfl rfl rfl 54 rfl rfl rfl hl.1 rfl (Nat.le_of_ble_eq_true rfl) dL_law_354 ⟨Nat.le_of_ble_eq_true rfl, Nat.le_of_ble_eq_true rfl⟩ (fun H locs hP hD hS => ?_)
                      refine lv_icmp_eq (tgt := 668) hx hb dL_law_357 (by decide) (fun cz => ?_) (fun cz => ?_)
                      · refine lv_iinc (v := (x3 + (6 : Int32))) (lv' := [(3, .int (x3 + (6 : Int32))), (0, .ref b), (1, .ref (adx 0)), (2, .ref (adm 0))]) hx hb dL_law_668 hl (k := 3) rfl rfl (by decide) rfl (fun ls hl => ?_)
                        refine lv_goto (tgt := 18) hx hb dL_law_671 (by decide) ?_
                        exact ih (i + 6) (x3 + (6 : Int32)) (by omega) (by omega) (by rw [ex3]; exact nI_add i 6) adx adm rb rc pb iX iR iT wT tx iB lB aB iC aC iD lD aD iE aE iK lK aK iW aW iP aP iM aM hrel H locs hP hD hS ls (lv_sub hl [1, 2, 3, 0] rfl)
                      · exact absurd hqr cz
                    · rcases Decidable.em (sw = (8 : Int32)) with c8 | c8
                      · refine lv_tableIn (off := 329) (tgt := 362) hx hb dL_law_33 (by rw [c8]; decide) (by rw [c8]; decide) (by rw [c8]; rfl) (by decide) ?_
                        obtain ⟨q, r, eq, er, hqr, hrel⟩ := S_at (xs (x3 + (1 : Int32)).toNatClampNeg) (xs (x3 + (2 : Int32)).toNatClampNeg) iX iR iT wT tx iB lB aB iC aC iD lD aD iE aE iK lK aK iW aW iP aP iM aM hRel
                        refine lv_aload_n hx hb dL_law_362 rfl (lv_at hl 1 rfl) ?_
                        refine lv_aload_n hx hb dL_law_363 rfl (lv_at hl 0 rfl) ?_
                        refine lv_iload_n hx hb dL_law_364 rfl (lv_at hl 3 rfl) ?_
                        refine lv_iconst (v := 1) hx hb dL_law_365 (by decide) ?_
                        refine lv_iadd hx hb dL_law_366 ?_
                        refine va_sld hx hb hX hbl hbA hS o1 dL_law_367 ?_
                        refine lv_aload_n hx hb dL_law_368 rfl (lv_at hl 0 rfl) ?_
                        refine lv_iload_n hx hb dL_law_369 rfl (lv_at hl 3 rfl) ?_
                        refine lv_iconst (v := 2) hx hb dL_law_370 (by decide) ?_
                        refine lv_iadd hx hb dL_law_371 ?_
                        refine va_sld hx hb hX hbl hbA hS o2 dL_law_372 ?_
                        refine callVi (cc := code) (own := RL) (ws' := (zzX adx cy rb rc (adx 4) (adx 11) pb (adx 4) (adx 20) iX iR iT wT tx iB lB aB iC aC iD lD aD iE aE iK lK aK iW aW iP aP) ++ (zzM adm cy iM aM)) (As := [.int (xs (x3 + (1 : Int32)).toNatClampNeg), .int (xs (x3 + (2 : Int32)).toNatClampNeg)]) (rest := []) ⟨hx, hb, hml, hown, hts⟩ (c_X_at l dC dI cy adx H.size rb rc pb (xs (x3 + (1 : Int32)).toNatClampNeg) (xs (x3 + (2 : Int32)).toNatClampNeg) iX iR iT wT tx iB lB aB iC aC iD lD aD iE aE iK lK aK iW aW iP aP q eq) (cwV 2 hts (goodVL m_ml_L_50 m_im_X7_at m_se_X7_at m_in_X7 m_cd_X7_at) rfl rfl rfl (by decide +kernel) ⟨Nat.le_of_ble_eq_true rfl, Nat.le_of_ble_eq_true rfl⟩) hN hK hP hD hS hA [0, 1, 2, 3, 4, 5, 6, 7, 8, 9, 10, 11, 12, 13, 14, 15, 16, 17, 18, 19, 20, 21, 22, 23, 24, 25, 26, 27, 28, 29, 30, 31, 32, 33, 34, 35, 36, 37, 38, 39, 40, 41, 42, 43, 44, 45, 46, 47, 48, 49, 50, 51, 52, 53] [some 0, some 1, some 2, some 3, some 4, some 5, some 6, some 7, some 8, some 9, some 10, some 11, some 12, some 13, some 14, some 15, some 16, some 17, some 18, some 19, some 20, some 21, some 22, some 23, some 24, some 25, some 26, some 27, some 28, some 29, some 30, some 31, some 32, some 33, some 34, some 35, some 36, some 37, some 38, some 39, some 40, some 41, some 42, some 43, some 44, some 45, some 46, some 47, some 48, some 49, some 50, some 51, some 52, some 53, none, none, none, none, none, none, none, none, none, none, none, none, none, none, none, none, none, none, none, none, none, none, none, none, none, none, none, none, none, none, none, none, none, none, none, none, none, none, none, none, none, none, none, none] rfl rfl rfl rfl rfl rfl 0 rfl rfl rfl hl.1 rfl (Nat.le_of_ble_eq_true rfl) dL_law_373 ⟨Nat.le_of_ble_eq_true rfl, Nat.le_of_ble_eq_true rfl⟩ (fun H locs hP hD hS => ?_)
                        refine lv_aload_n hx hb dL_law_376 rfl (lv_at hl 2 rfl) ?_
                        refine lv_aload_n hx hb dL_law_377 rfl (lv_at hl 0 rfl) ?_
                        refine lv_iload_n hx hb dL_law_378 rfl (lv_at hl 3 rfl) ?_
                        refine lv_iconst (v := 1) hx hb dL_law_379 (by decide) ?_
                        refine lv_iadd hx hb dL_law_380 ?_
                        refine va_sld hx hb hX hbl hbA hS o1 dL_law_381 ?_
                        refine lv_aload_n hx hb dL_law_382 rfl (lv_at hl 0 rfl) ?_
                        refine lv_iload_n hx hb dL_law_383 rfl (lv_at hl 3 rfl) ?_
                        refine lv_iconst (v := 2) hx hb dL_law_384 (by decide) ?_
                        refine lv_iadd hx hb dL_law_385 ?_
                        refine va_sld hx hb hX hbl hbA hS o2 dL_law_386 ?_
                        refine callVi (cc := code) (own := RL) (ws' := (zzX adx cy rb rc (adx 4) (adx 11) pb (adx 4) (adx 20) iX iR iT wT tx iB lB aB iC aC iD lD aD iE aE iK lK aK iW aW iP aP) ++ (zzM adm cy iM aM)) (As := [.int (xs (x3 + (1 : Int32)).toNatClampNeg), .int (xs (x3 + (2 : Int32)).toNatClampNeg)]) (rest := [.int q]) ⟨hx, hb, hml, hown, hts⟩ (c_M_at l dC dI cy adm H.size (xs (x3 + (1 : Int32)).toNatClampNeg) (xs (x3 + (2 : Int32)).toNatClampNeg) iM aM r er) (cwV 2 hts (goodVL m_ml_L_53 m_im_X8_at m_se_X8_at m_in_X8 m_cd_X8_at) rfl rfl rfl (by decide +kernel) ⟨Nat.le_of_ble_eq_true rfl, Nat.le_of_ble_eq_true rfl⟩) hN hK hP hD hS hA [54, 55, 56, 57, 58, 59, 60, 61, 62, 63, 64, 65, 66, 67, 68, 69, 70, 71, 72, 73, 74, 75, 76, 77, 78, 79, 80, 81, 82, 83, 84, 85, 86, 87, 88, 89, 90, 91, 92, 93, 94, 95, 96, 97] [none, none, none, none, none, none, none, none, none, none, none, none, none, none, none, none, none, none, none, none, none, none, none, none, none, none, none, none, none, none, none, none, none, none, none, none, none, none, none, none, none, none, none, none, none, none, none, none, none, none, none, none, none, none, some 0, some 1, some 2, some 3, some 4, some 5, some 6, some 7, some 8, some 9, some 10, some 11, some 12, some 13, some 14, some 15, some 16, some 17, some 18, some 19, some 20, some 21, some 22, some 23, some 24, some 25, some 26, some 27, some 28, some 29, some 30, some 31, some 32, some 33, some 34, some 35, some 36, some 37, some 38, some 39, some 40, some 41, some 42, some 43] rfl rfl rfl rfl rfl rfl 54 rfl rfl rfl hl.1 rfl (Nat.le_of_ble_eq_true rfl) dL_law_387 ⟨Nat.le_of_ble_eq_true rfl, Nat.le_of_ble_eq_true rfl⟩ (fun H locs hP hD hS => ?_)
                        refine lv_icmp_eq (tgt := 668) hx hb dL_law_390 (by decide) (fun cz => ?_) (fun cz => ?_)
                        · refine lv_iinc (v := (x3 + (6 : Int32))) (lv' := [(3, .int (x3 + (6 : Int32))), (0, .ref b), (1, .ref (adx 0)), (2, .ref (adm 0))]) hx hb dL_law_668 hl (k := 3) rfl rfl (by decide) rfl (fun ls hl => ?_)
                          refine lv_goto (tgt := 18) hx hb dL_law_671 (by decide) ?_
                          exact ih (i + 6) (x3 + (6 : Int32)) (by omega) (by omega) (by rw [ex3]; exact nI_add i 6) adx adm rb rc pb iX iR iT wT tx iB lB aB iC aC iD lD aD iE aE iK lK aK iW aW iP aP iM aM hrel H locs hP hD hS ls (lv_sub hl [1, 2, 3, 0] rfl)
                        · exact absurd hqr cz
                      · rcases Decidable.em (sw = (9 : Int32)) with c9 | c9
                        · refine lv_tableIn (off := 362) (tgt := 395) hx hb dL_law_33 (by rw [c9]; decide) (by rw [c9]; decide) (by rw [c9]; rfl) (by decide) ?_
                          obtain ⟨q, r, eq, er, hqr, hrel⟩ := S_ask (xs (x3 + (1 : Int32)).toNatClampNeg) iX iR iT wT tx iB lB aB iC aC iD lD aD iE aE iK lK aK iW aW iP aP iM aM hRel
                          refine lv_aload_n hx hb dL_law_395 rfl (lv_at hl 1 rfl) ?_
                          refine lv_aload_n hx hb dL_law_396 rfl (lv_at hl 0 rfl) ?_
                          refine lv_iload_n hx hb dL_law_397 rfl (lv_at hl 3 rfl) ?_
                          refine lv_iconst (v := 1) hx hb dL_law_398 (by decide) ?_
                          refine lv_iadd hx hb dL_law_399 ?_
                          refine va_sld hx hb hX hbl hbA hS o1 dL_law_400 ?_
                          refine callVi (cc := code) (own := RL) (ws' := (zzX adx cy rb rc (adx 4) (adx 11) pb (adx 4) (adx 20) iX iR iT wT tx iB lB aB iC aC iD lD aD iE aE iK lK aK iW aW iP aP) ++ (zzM adm cy iM aM)) (As := [.int (xs (x3 + (1 : Int32)).toNatClampNeg)]) (rest := []) ⟨hx, hb, hml, hown, hts⟩ (c_X_ask l dC dI cy adx H.size rb rc pb N (xs (x3 + (1 : Int32)).toNatClampNeg) iX iR iT wT tx iB lB aB iC aC iD lD aD iE aE iK lK aK iW aW iP aP q eq) (cwV 1 hts (goodVL m_ml_L_54 m_im_X7_ask m_se_X7_ask m_in_X7 m_cd_X7_ask) rfl rfl rfl (by decide +kernel) ⟨Nat.le_of_ble_eq_true rfl, Nat.le_of_ble_eq_true rfl⟩) hN hK hP hD hS hA [0, 1, 2, 3, 4, 5, 6, 7, 8, 9, 10, 11, 12, 13, 14, 15, 16, 17, 18, 19, 20, 21, 22, 23, 24, 25, 26, 27, 28, 29, 30, 31, 32, 33, 34, 35, 36, 37, 38, 39, 40, 41, 42, 43, 44, 45, 46, 47, 48, 49, 50, 51, 52, 53] [some 0, some 1, some 2, some 3, some 4, some 5, some 6, some 7, some 8, some 9, some 10, some 11, some 12, some 13, some 14, some 15, some 16, some 17, some 18, some 19, some 20, some 21, some 22, some 23, some 24, some 25, some 26, some 27, some 28, some 29, some 30, some 31, some 32, some 33, some 34, some 35, some 36, some 37, some 38, some 39, some 40, some 41, some 42, some 43, some 44, some 45, some 46, some 47, some 48, some 49, some 50, some 51, some 52, some 53, none, none, none, none, none, none, none, none, none, none, none, none, none, none, none, none, none, none, none, none, none, none, none, none, none, none, none, none, none, none, none, none, none, none, none, none, none, none, none, none, none, none, none, none] rfl rfl rfl rfl rfl rfl 0 rfl rfl rfl hl.1 rfl (Nat.le_of_ble_eq_true rfl) dL_law_401 ⟨Nat.le_of_ble_eq_true rfl, Nat.le_of_ble_eq_true rfl⟩ (fun H locs hP hD hS => ?_)
                          refine lv_aload_n hx hb dL_law_404 rfl (lv_at hl 2 rfl) ?_
                          refine lv_aload_n hx hb dL_law_405 rfl (lv_at hl 0 rfl) ?_
                          refine lv_iload_n hx hb dL_law_406 rfl (lv_at hl 3 rfl) ?_
                          refine lv_iconst (v := 1) hx hb dL_law_407 (by decide) ?_
                          refine lv_iadd hx hb dL_law_408 ?_
                          refine va_sld hx hb hX hbl hbA hS o1 dL_law_409 ?_
                          refine callVi (cc := code) (own := RL) (ws' := (zzX adx cy rb rc (adx 4) (adx 11) pb (adx 4) (adx 20) iX iR iT wT tx iB lB aB iC aC iD lD aD iE aE iK lK aK iW aW iP aP) ++ (zzM adm cy iM aM)) (As := [.int (xs (x3 + (1 : Int32)).toNatClampNeg)]) (rest := [.int q]) ⟨hx, hb, hml, hown, hts⟩ (c_M_ask l dC dI cy adm H.size N (xs (x3 + (1 : Int32)).toNatClampNeg) iM aM r er) (cwV 1 hts (goodVL m_ml_L_57 m_im_X8_ask m_se_X8_ask m_in_X8 m_cd_X8_ask) rfl rfl rfl (by decide +kernel) ⟨Nat.le_of_ble_eq_true rfl, Nat.le_of_ble_eq_true rfl⟩) hN hK hP hD hS hA [54, 55, 56, 57, 58, 59, 60, 61, 62, 63, 64, 65, 66, 67, 68, 69, 70, 71, 72, 73, 74, 75, 76, 77, 78, 79, 80, 81, 82, 83, 84, 85, 86, 87, 88, 89, 90, 91, 92, 93, 94, 95, 96, 97] [none, none, none, none, none, none, none, none, none, none, none, none, none, none, none, none, none, none, none, none, none, none, none, none, none, none, none, none, none, none, none, none, none, none, none, none, none, none, none, none, none, none, none, none, none, none, none, none, none, none, none, none, none, none, some 0, some 1, some 2, some 3, some 4, some 5, some 6, some 7, some 8, some 9, some 10, some 11, some 12, some 13, some 14, some 15, some 16, some 17, some 18, some 19, some 20, some 21, some 22, some 23, some 24, some 25, some 26, some 27, some 28, some 29, some 30, some 31, some 32, some 33, some 34, some 35, some 36, some 37, some 38, some 39, some 40, some 41, some 42, some 43] rfl rfl rfl rfl rfl rfl 54 rfl rfl rfl hl.1 rfl (Nat.le_of_ble_eq_true rfl) dL_law_410 ⟨Nat.le_of_ble_eq_true rfl, Nat.le_of_ble_eq_true rfl⟩ (fun H locs hP hD hS => ?_)
                          refine lv_icmp_eq (tgt := 668) hx hb dL_law_413 (by decide) (fun cz => ?_) (fun cz => ?_)
                          · refine lv_iinc (v := (x3 + (6 : Int32))) (lv' := [(3, .int (x3 + (6 : Int32))), (0, .ref b), (1, .ref (adx 0)), (2, .ref (adm 0))]) hx hb dL_law_668 hl (k := 3) rfl rfl (by decide) rfl (fun ls hl => ?_)
                            refine lv_goto (tgt := 18) hx hb dL_law_671 (by decide) ?_
                            exact ih (i + 6) (x3 + (6 : Int32)) (by omega) (by omega) (by rw [ex3]; exact nI_add i 6) adx adm rb rc pb iX iR iT wT tx iB lB aB iC aC iD lD aD iE aE iK lK aK iW aW iP aP iM aM hrel H locs hP hD hS ls (lv_sub hl [1, 2, 3, 0] rfl)
                          · exact absurd hqr cz
                        · rcases Decidable.em (sw = (10 : Int32)) with c10 | c10
                          · refine lv_tableIn (off := 385) (tgt := 418) hx hb dL_law_33 (by rw [c10]; decide) (by rw [c10]; decide) (by rw [c10]; rfl) (by decide) ?_
                            obtain ⟨q, r, eq, er, hqr, hrel⟩ := S_isUnder (xs (x3 + (1 : Int32)).toNatClampNeg) (xs (x3 + (2 : Int32)).toNatClampNeg) iX iR iT wT tx iB lB aB iC aC iD lD aD iE aE iK lK aK iW aW iP aP iM aM hRel
                            refine lv_aload_n hx hb dL_law_418 rfl (lv_at hl 1 rfl) ?_
                            refine lv_aload_n hx hb dL_law_419 rfl (lv_at hl 0 rfl) ?_
                            refine lv_iload_n hx hb dL_law_420 rfl (lv_at hl 3 rfl) ?_
                            refine lv_iconst (v := 1) hx hb dL_law_421 (by decide) ?_
                            refine lv_iadd hx hb dL_law_422 ?_
                            refine va_sld hx hb hX hbl hbA hS o1 dL_law_423 ?_
                            refine lv_aload_n hx hb dL_law_424 rfl (lv_at hl 0 rfl) ?_
                            refine lv_iload_n hx hb dL_law_425 rfl (lv_at hl 3 rfl) ?_
                            refine lv_iconst (v := 2) hx hb dL_law_426 (by decide) ?_
                            refine lv_iadd hx hb dL_law_427 ?_
                            refine va_sld hx hb hX hbl hbA hS o2 dL_law_428 ?_
                            refine callVi (cc := code) (own := RL) (ws' := (zzX adx cy rb rc (adx 4) (adx 11) pb (adx 4) (adx 20) iX iR iT wT tx iB lB aB iC aC iD lD aD iE aE iK lK aK iW aW iP aP) ++ (zzM adm cy iM aM)) (As := [.int (xs (x3 + (1 : Int32)).toNatClampNeg), .int (xs (x3 + (2 : Int32)).toNatClampNeg)]) (rest := []) ⟨hx, hb, hml, hown, hts⟩ (c_X_isUnder l dC dI cy adx H.size rb rc pb N (xs (x3 + (1 : Int32)).toNatClampNeg) (xs (x3 + (2 : Int32)).toNatClampNeg) iX iR iT wT tx iB lB aB iC aC iD lD aD iE aE iK lK aK iW aW iP aP q eq) (cwV 2 hts (goodVL m_ml_L_58 m_im_X7_isUnder m_se_X7_isUnder m_in_X7 m_cd_X7_isUnder) rfl rfl rfl (by decide +kernel) ⟨Nat.le_of_ble_eq_true rfl, Nat.le_of_ble_eq_true rfl⟩) hN hK hP hD hS hA [0, 1, 2, 3, 4, 5, 6, 7, 8, 9, 10, 11, 12, 13, 14, 15, 16, 17, 18, 19, 20, 21, 22, 23, 24, 25, 26, 27, 28, 29, 30, 31, 32, 33, 34, 35, 36, 37, 38, 39, 40, 41, 42, 43, 44, 45, 46, 47, 48, 49, 50, 51, 52, 53] [some 0, some 1, some 2, some 3, some 4, some 5, some 6, some 7, some 8, some 9, some 10, some 11, some 12, some 13, some 14, some 15, some 16, some 17, some 18, some 19, some 20, some 21, some 22, some 23, some 24, some 25, some 26, some 27, some 28, some 29, some 30, some 31, some 32, some 33, some 34, some 35, some 36, some 37, some 38, some 39, some 40, some 41, some 42, some 43, some 44, some 45, some 46, some 47, some 48, some 49, some 50, some 51, some 52, some 53, none, none, none, none, none, none, none, none, none, none, none, none, none, none, none, none, none, none, none, none, none, none, none, none, none, none, none, none, none, none, none, none, none, none, none, none, none, none, none, none, none, none, none, none] rfl rfl rfl rfl rfl rfl 0 rfl rfl rfl hl.1 rfl (Nat.le_of_ble_eq_true rfl) dL_law_429 ⟨Nat.le_of_ble_eq_true rfl, Nat.le_of_ble_eq_true rfl⟩ (fun H locs hP hD hS => ?_)
                            refine lv_aload_n hx hb dL_law_432 rfl (lv_at hl 2 rfl) ?_
                            refine lv_aload_n hx hb dL_law_433 rfl (lv_at hl 0 rfl) ?_
                            refine lv_iload_n hx hb dL_law_434 rfl (lv_at hl 3 rfl) ?_
                            refine lv_iconst (v := 1) hx hb dL_law_435 (by decide) ?_
                            refine lv_iadd hx hb dL_law_436 ?_
                            refine va_sld hx hb hX hbl hbA hS o1 dL_law_437 ?_
                            refine lv_aload_n hx hb dL_law_438 rfl (lv_at hl 0 rfl) ?_
                            refine lv_iload_n hx hb dL_law_439 rfl (lv_at hl 3 rfl) ?_
                            refine lv_iconst (v := 2) hx hb dL_law_440 (by decide) ?_
                            refine lv_iadd hx hb dL_law_441 ?_
                            refine va_sld hx hb hX hbl hbA hS o2 dL_law_442 ?_
                            refine callVi (cc := code) (own := RL) (ws' := (zzX adx cy rb rc (adx 4) (adx 11) pb (adx 4) (adx 20) iX iR iT wT tx iB lB aB iC aC iD lD aD iE aE iK lK aK iW aW iP aP) ++ (zzM adm cy iM aM)) (As := [.int (xs (x3 + (1 : Int32)).toNatClampNeg), .int (xs (x3 + (2 : Int32)).toNatClampNeg)]) (rest := [.int q]) ⟨hx, hb, hml, hown, hts⟩ (c_M_isUnder l dC dI cy adm H.size N (xs (x3 + (1 : Int32)).toNatClampNeg) (xs (x3 + (2 : Int32)).toNatClampNeg) iM aM r er) (cwV 2 hts (goodVL m_ml_L_61 m_im_X8_isUnder m_se_X8_isUnder m_in_X8 m_cd_X8_isUnder) rfl rfl rfl (by decide +kernel) ⟨Nat.le_of_ble_eq_true rfl, Nat.le_of_ble_eq_true rfl⟩) hN hK hP hD hS hA [54, 55, 56, 57, 58, 59, 60, 61, 62, 63, 64, 65, 66, 67, 68, 69, 70, 71, 72, 73, 74, 75, 76, 77, 78, 79, 80, 81, 82, 83, 84, 85, 86, 87, 88, 89, 90, 91, 92, 93, 94, 95, 96, 97] [none, none, none, none, none, none, none, none, none, none, none, none, none, none, none, none, none, none, none, none, none, none, none, none, none, none, none, none, none, none, none, none, none, none, none, none, none, none, none, none, none, none, none, none, none, none, none, none, none, none, none, none, none, none, some 0, some 1, some 2, some 3, some 4, some 5, some 6, some 7, some 8, some 9, some 10, some 11, some 12, some 13, some 14, some 15, some 16, some 17, some 18, some 19, some 20, some 21, some 22, some 23, some 24, some 25, some 26, some 27, some 28, some 29, some 30, some 31, some 32, some 33, some 34, some 35, some 36, some 37, some 38, some 39, some 40, some 41, some 42, some 43] rfl rfl rfl rfl rfl rfl 54 rfl rfl rfl hl.1 rfl (Nat.le_of_ble_eq_true rfl) dL_law_443 ⟨Nat.le_of_ble_eq_true rfl, Nat.le_of_ble_eq_true rfl⟩ (fun H locs hP hD hS => ?_)
                            refine lv_icmp_eq (tgt := 668) hx hb dL_law_446 (by decide) (fun cz => ?_) (fun cz => ?_)
                            · refine lv_iinc (v := (x3 + (6 : Int32))) (lv' := [(3, .int (x3 + (6 : Int32))), (0, .ref b), (1, .ref (adx 0)), (2, .ref (adm 0))]) hx hb dL_law_668 hl (k := 3) rfl rfl (by decide) rfl (fun ls hl => ?_)
                              refine lv_goto (tgt := 18) hx hb dL_law_671 (by decide) ?_
                              exact ih (i + 6) (x3 + (6 : Int32)) (by omega) (by omega) (by rw [ex3]; exact nI_add i 6) adx adm rb rc pb iX iR iT wT tx iB lB aB iC aC iD lD aD iE aE iK lK aK iW aW iP aP iM aM hrel H locs hP hD hS ls (lv_sub hl [1, 2, 3, 0] rfl)
                            · exact absurd hqr cz
                          · rcases Decidable.em (sw = (11 : Int32)) with c11 | c11
                            · refine lv_tableIn (off := 418) (tgt := 451) hx hb dL_law_33 (by rw [c11]; decide) (by rw [c11]; decide) (by rw [c11]; rfl) (by decide) ?_
                              obtain ⟨q, r, eq, er, hqr, hrel⟩ := S_next (xs (x3 + (1 : Int32)).toNatClampNeg) (xs (x3 + (2 : Int32)).toNatClampNeg) iX iR iT wT tx iB lB aB iC aC iD lD aD iE aE iK lK aK iW aW iP aP iM aM hRel
                              refine lv_aload_n hx hb dL_law_451 rfl (lv_at hl 1 rfl) ?_
                              refine lv_aload_n hx hb dL_law_452 rfl (lv_at hl 0 rfl) ?_
                              refine lv_iload_n hx hb dL_law_453 rfl (lv_at hl 3 rfl) ?_
                              refine lv_iconst (v := 1) hx hb dL_law_454 (by decide) ?_
                              refine lv_iadd hx hb dL_law_455 ?_
                              refine va_sld hx hb hX hbl hbA hS o1 dL_law_456 ?_
                              refine lv_aload_n hx hb dL_law_457 rfl (lv_at hl 0 rfl) ?_
                              refine lv_iload_n hx hb dL_law_458 rfl (lv_at hl 3 rfl) ?_
                              refine lv_iconst (v := 2) hx hb dL_law_459 (by decide) ?_
                              refine lv_iadd hx hb dL_law_460 ?_
                              refine va_sld hx hb hX hbl hbA hS o2 dL_law_461 ?_
                              refine callVi (cc := code) (own := RL) (ws' := (zzX adx cy rb rc (adx 4) (adx 11) pb (adx 4) (adx 20) iX iR iT wT tx iB lB aB iC aC iD lD aD iE aE iK lK aK iW aW iP aP) ++ (zzM adm cy iM aM)) (As := [.int (xs (x3 + (1 : Int32)).toNatClampNeg), .int (xs (x3 + (2 : Int32)).toNatClampNeg)]) (rest := []) ⟨hx, hb, hml, hown, hts⟩ (c_X_next l dC dI cy adx H.size rb rc pb N (xs (x3 + (1 : Int32)).toNatClampNeg) (xs (x3 + (2 : Int32)).toNatClampNeg) iX iR iT wT tx iB lB aB iC aC iD lD aD iE aE iK lK aK iW aW iP aP q eq) (cwV 2 hts (goodVL m_ml_L_62 m_im_X7_next m_se_X7_next m_in_X7 m_cd_X7_next) rfl rfl rfl (by decide +kernel) ⟨Nat.le_of_ble_eq_true rfl, Nat.le_of_ble_eq_true rfl⟩) hN hK hP hD hS hA [0, 1, 2, 3, 4, 5, 6, 7, 8, 9, 10, 11, 12, 13, 14, 15, 16, 17, 18, 19, 20, 21, 22, 23, 24, 25, 26, 27, 28, 29, 30, 31, 32, 33, 34, 35, 36, 37, 38, 39, 40, 41, 42, 43, 44, 45, 46, 47, 48, 49, 50, 51, 52, 53] [some 0, some 1, some 2, some 3, some 4, some 5, some 6, some 7, some 8, some 9, some 10, some 11, some 12, some 13, some 14, some 15, some 16, some 17, some 18, some 19, some 20, some 21, some 22, some 23, some 24, some 25, some 26, some 27, some 28, some 29, some 30, some 31, some 32, some 33, some 34, some 35, some 36, some 37, some 38, some 39, some 40, some 41, some 42, some 43, some 44, some 45, some 46, some 47, some 48, some 49, some 50, some 51, some 52, some 53, none, none, none, none, none, none, none, none, none, none, none, none, none, none, none, none, none, none, none, none, none, none, none, none, none, none, none, none, none, none, none, none, none, none, none, none, none, none, none, none, none, none, none, none] rfl rfl rfl rfl rfl rfl 0 rfl rfl rfl hl.1 rfl (Nat.le_of_ble_eq_true rfl) dL_law_462 ⟨Nat.le_of_ble_eq_true rfl, Nat.le_of_ble_eq_true rfl⟩ (fun H locs hP hD hS => ?_)
                              refine lv_aload_n hx hb dL_law_465 rfl (lv_at hl 2 rfl) ?_
                              refine lv_aload_n hx hb dL_law_466 rfl (lv_at hl 0 rfl) ?_
                              refine lv_iload_n hx hb dL_law_467 rfl (lv_at hl 3 rfl) ?_
                              refine lv_iconst (v := 1) hx hb dL_law_468 (by decide) ?_
                              refine lv_iadd hx hb dL_law_469 ?_
                              refine va_sld hx hb hX hbl hbA hS o1 dL_law_470 ?_
                              refine lv_aload_n hx hb dL_law_471 rfl (lv_at hl 0 rfl) ?_
                              refine lv_iload_n hx hb dL_law_472 rfl (lv_at hl 3 rfl) ?_
                              refine lv_iconst (v := 2) hx hb dL_law_473 (by decide) ?_
                              refine lv_iadd hx hb dL_law_474 ?_
                              refine va_sld hx hb hX hbl hbA hS o2 dL_law_475 ?_
                              refine callVi (cc := code) (own := RL) (ws' := (zzX adx cy rb rc (adx 4) (adx 11) pb (adx 4) (adx 20) iX iR iT wT tx iB lB aB iC aC iD lD aD iE aE iK lK aK iW aW iP aP) ++ (zzM adm cy iM aM)) (As := [.int (xs (x3 + (1 : Int32)).toNatClampNeg), .int (xs (x3 + (2 : Int32)).toNatClampNeg)]) (rest := [.int q]) ⟨hx, hb, hml, hown, hts⟩ (c_M_next_ l dC dI cy adm H.size N (xs (x3 + (1 : Int32)).toNatClampNeg) (xs (x3 + (2 : Int32)).toNatClampNeg) iM aM r er) (cwV 2 hts (goodVL m_ml_L_65 m_im_X8_next_ m_se_X8_next_ m_in_X8 m_cd_X8_next_) rfl rfl rfl (by decide +kernel) ⟨Nat.le_of_ble_eq_true rfl, Nat.le_of_ble_eq_true rfl⟩) hN hK hP hD hS hA [54, 55, 56, 57, 58, 59, 60, 61, 62, 63, 64, 65, 66, 67, 68, 69, 70, 71, 72, 73, 74, 75, 76, 77, 78, 79, 80, 81, 82, 83, 84, 85, 86, 87, 88, 89, 90, 91, 92, 93, 94, 95, 96, 97] [none, none, none, none, none, none, none, none, none, none, none, none, none, none, none, none, none, none, none, none, none, none, none, none, none, none, none, none, none, none, none, none, none, none, none, none, none, none, none, none, none, none, none, none, none, none, none, none, none, none, none, none, none, none, some 0, some 1, some 2, some 3, some 4, some 5, some 6, some 7, some 8, some 9, some 10, some 11, some 12, some 13, some 14, some 15, some 16, some 17, some 18, some 19, some 20, some 21, some 22, some 23, some 24, some 25, some 26, some 27, some 28, some 29, some 30, some 31, some 32, some 33, some 34, some 35, some 36, some 37, some 38, some 39, some 40, some 41, some 42, some 43] rfl rfl rfl rfl rfl rfl 54 rfl rfl rfl hl.1 rfl (Nat.le_of_ble_eq_true rfl) dL_law_476 ⟨Nat.le_of_ble_eq_true rfl, Nat.le_of_ble_eq_true rfl⟩ (fun H locs hP hD hS => ?_)
                              refine lv_icmp_eq (tgt := 668) hx hb dL_law_479 (by decide) (fun cz => ?_) (fun cz => ?_)
                              · refine lv_iinc (v := (x3 + (6 : Int32))) (lv' := [(3, .int (x3 + (6 : Int32))), (0, .ref b), (1, .ref (adx 0)), (2, .ref (adm 0))]) hx hb dL_law_668 hl (k := 3) rfl rfl (by decide) rfl (fun ls hl => ?_)
                                refine lv_goto (tgt := 18) hx hb dL_law_671 (by decide) ?_
                                exact ih (i + 6) (x3 + (6 : Int32)) (by omega) (by omega) (by rw [ex3]; exact nI_add i 6) adx adm rb rc pb iX iR iT wT tx iB lB aB iC aC iD lD aD iE aE iK lK aK iW aW iP aP iM aM hrel H locs hP hD hS ls (lv_sub hl [1, 2, 3, 0] rfl)
                              · exact absurd hqr cz
                            · rcases Decidable.em (sw = (12 : Int32)) with c12 | c12
                              · refine lv_tableIn (off := 451) (tgt := 484) hx hb dL_law_33 (by rw [c12]; decide) (by rw [c12]; decide) (by rw [c12]; rfl) (by decide) ?_
                                obtain ⟨q, r, eq, er, hqr, hrel⟩ := S_world (xs (x3 + (1 : Int32)).toNatClampNeg) iX iR iT wT tx iB lB aB iC aC iD lD aD iE aE iK lK aK iW aW iP aP iM aM hRel
                                refine lv_aload_n hx hb dL_law_484 rfl (lv_at hl 1 rfl) ?_
                                refine lv_aload_n hx hb dL_law_485 rfl (lv_at hl 0 rfl) ?_
                                refine lv_iload_n hx hb dL_law_486 rfl (lv_at hl 3 rfl) ?_
                                refine lv_iconst (v := 1) hx hb dL_law_487 (by decide) ?_
                                refine lv_iadd hx hb dL_law_488 ?_
                                refine va_sld hx hb hX hbl hbA hS o1 dL_law_489 ?_
                                refine callVi (cc := code) (own := RL) (ws' := (zzX adx cy rb rc (adx 4) (adx 11) pb (adx 4) (adx 20) iX iR iT wT tx iB lB aB iC aC iD lD aD iE aE iK lK aK (us iW [(1, q.2.1), (4, q.2.2.1)]) (us aW [(0, q.2.2.2.1), (2, q.2.2.2.2.1), (3, q.2.2.2.2.2)]) iP aP) ++ (zzM adm cy iM aM)) (As := [.int (xs (x3 + (1 : Int32)).toNatClampNeg)]) (rest := []) ⟨hx, hb, hml, hown, hts⟩ (c_X_world l dC dI cy adx H.size rb rc pb N (xs (x3 + (1 : Int32)).toNatClampNeg) iX iR iT wT tx iB lB aB iC aC iD lD aD iE aE iK lK aK iW aW iP aP q eq) (cwV 1 hts (goodVL m_ml_L_66 m_im_X7_world m_se_X7_world m_in_X7 m_cd_X7_world) rfl rfl rfl (by decide +kernel) ⟨Nat.le_of_ble_eq_true rfl, Nat.le_of_ble_eq_true rfl⟩) hN hK hP hD hS hA [0, 1, 2, 3, 4, 5, 6, 7, 8, 9, 10, 11, 12, 13, 14, 15, 16, 17, 18, 19, 20, 21, 22, 23, 24, 25, 26, 27, 28, 29, 30, 31, 32, 33, 34, 35, 36, 37, 38, 39, 40, 41, 42, 43, 44, 45, 46, 47, 48, 49, 50, 51, 52, 53] [some 0, some 1, some 2, some 3, some 4, some 5, some 6, some 7, some 8, some 9, some 10, some 11, some 12, some 13, some 14, some 15, some 16, some 17, some 18, some 19, some 20, some 21, some 22, some 23, some 24, some 25, some 26, some 27, some 28, some 29, some 30, some 31, some 32, some 33, some 34, some 35, some 36, some 37, some 38, some 39, some 40, some 41, some 42, some 43, some 44, some 45, some 46, some 47, some 48, some 49, some 50, some 51, some 52, some 53, none, none, none, none, none, none, none, none, none, none, none, none, none, none, none, none, none, none, none, none, none, none, none, none, none, none, none, none, none, none, none, none, none, none, none, none, none, none, none, none, none, none, none, none] rfl rfl rfl rfl rfl rfl 0 rfl rfl rfl hl.1 rfl (Nat.le_of_ble_eq_true rfl) dL_law_490 ⟨Nat.le_of_ble_eq_true rfl, Nat.le_of_ble_eq_true rfl⟩ (fun H locs hP hD hS => ?_)
                                refine lv_aload_n hx hb dL_law_493 rfl (lv_at hl 2 rfl) ?_
                                refine lv_aload_n hx hb dL_law_494 rfl (lv_at hl 0 rfl) ?_
                                refine lv_iload_n hx hb dL_law_495 rfl (lv_at hl 3 rfl) ?_
                                refine lv_iconst (v := 1) hx hb dL_law_496 (by decide) ?_
                                refine lv_iadd hx hb dL_law_497 ?_
                                refine va_sld hx hb hX hbl hbA hS o1 dL_law_498 ?_
                                refine callVi (cc := code) (own := RL) (ws' := (zzX adx cy rb rc (adx 4) (adx 11) pb (adx 4) (adx 20) iX iR iT wT tx iB lB aB iC aC iD lD aD iE aE iK lK aK (us iW [(1, q.2.1), (4, q.2.2.1)]) (us aW [(0, q.2.2.2.1), (2, q.2.2.2.2.1), (3, q.2.2.2.2.2)]) iP aP) ++ (zzM adm cy (us iM [(66, r.2.1), (68, r.2.2.1)]) (us aM [(67, r.2.2.2.1), (69, r.2.2.2.2.1), (70, r.2.2.2.2.2.1), (71, r.2.2.2.2.2.2)]))) (As := [.int (xs (x3 + (1 : Int32)).toNatClampNeg)]) (rest := [.int q.1]) ⟨hx, hb, hml, hown, hts⟩ (c_M_world l dC dI cy adm H.size N (xs (x3 + (1 : Int32)).toNatClampNeg) iM aM r er) (cwV 1 hts (goodVL m_ml_L_69 m_im_X8_world m_se_X8_world m_in_X8 m_cd_X8_world) rfl rfl rfl (by decide +kernel) ⟨Nat.le_of_ble_eq_true rfl, Nat.le_of_ble_eq_true rfl⟩) hN hK hP hD hS hA [54, 55, 56, 57, 58, 59, 60, 61, 62, 63, 64, 65, 66, 67, 68, 69, 70, 71, 72, 73, 74, 75, 76, 77, 78, 79, 80, 81, 82, 83, 84, 85, 86, 87, 88, 89, 90, 91, 92, 93, 94, 95, 96, 97] [none, none, none, none, none, none, none, none, none, none, none, none, none, none, none, none, none, none, none, none, none, none, none, none, none, none, none, none, none, none, none, none, none, none, none, none, none, none, none, none, none, none, none, none, none, none, none, none, none, none, none, none, none, none, some 0, some 1, some 2, some 3, some 4, some 5, some 6, some 7, some 8, some 9, some 10, some 11, some 12, some 13, some 14, some 15, some 16, some 17, some 18, some 19, some 20, some 21, some 22, some 23, some 24, some 25, some 26, some 27, some 28, some 29, some 30, some 31, some 32, some 33, some 34, some 35, some 36, some 37, some 38, some 39, some 40, some 41, some 42, some 43] rfl rfl rfl rfl rfl rfl 54 rfl rfl rfl hl.1 rfl (Nat.le_of_ble_eq_true rfl) dL_law_499 ⟨Nat.le_of_ble_eq_true rfl, Nat.le_of_ble_eq_true rfl⟩ (fun H locs hP hD hS => ?_)
                                refine lv_icmp_eq (tgt := 668) hx hb dL_law_502 (by decide) (fun cz => ?_) (fun cz => ?_)
                                · refine lv_iinc (v := (x3 + (6 : Int32))) (lv' := [(3, .int (x3 + (6 : Int32))), (0, .ref b), (1, .ref (adx 0)), (2, .ref (adm 0))]) hx hb dL_law_668 hl (k := 3) rfl rfl (by decide) rfl (fun ls hl => ?_)
                                  refine lv_goto (tgt := 18) hx hb dL_law_671 (by decide) ?_
                                  exact ih (i + 6) (x3 + (6 : Int32)) (by omega) (by omega) (by rw [ex3]; exact nI_add i 6) adx adm rb rc pb iX iR iT wT tx iB lB aB iC aC iD lD aD iE aE iK lK aK ((us iW [(1, q.2.1), (4, q.2.2.1)])) ((us aW [(0, q.2.2.2.1), (2, q.2.2.2.2.1), (3, q.2.2.2.2.2)])) iP aP ((us iM [(66, r.2.1), (68, r.2.2.1)])) ((us aM [(67, r.2.2.2.1), (69, r.2.2.2.2.1), (70, r.2.2.2.2.2.1), (71, r.2.2.2.2.2.2)])) hrel H locs hP hD hS ls (lv_sub hl [1, 2, 3, 0] rfl)
                                · exact absurd hqr cz
                              · rcases Decidable.em (sw = (13 : Int32)) with c13 | c13
                                · refine lv_tableIn (off := 474) (tgt := 507) hx hb dL_law_33 (by rw [c13]; decide) (by rw [c13]; decide) (by rw [c13]; rfl) (by decide) ?_
                                  obtain ⟨q, r, eq, er, hqr, hrel⟩ := S_thing (xs (x3 + (1 : Int32)).toNatClampNeg) iX iR iT wT tx iB lB aB iC aC iD lD aD iE aE iK lK aK iW aW iP aP iM aM hRel
                                  refine lv_aload_n hx hb dL_law_507 rfl (lv_at hl 1 rfl) ?_
                                  refine lv_aload_n hx hb dL_law_508 rfl (lv_at hl 0 rfl) ?_
                                  refine lv_iload_n hx hb dL_law_509 rfl (lv_at hl 3 rfl) ?_
                                  refine lv_iconst (v := 1) hx hb dL_law_510 (by decide) ?_
                                  refine lv_iadd hx hb dL_law_511 ?_
                                  refine va_sld hx hb hX hbl hbA hS o1 dL_law_512 ?_
                                  refine callVi (cc := code) (own := RL) (ws' := (zzX adx cy rb rc (adx 4) (adx 11) pb (adx 4) (adx 20) iX iR iT wT tx iB lB aB iC aC iD lD aD iE aE iK lK aK iW aW iP aP) ++ (zzM adm cy iM aM)) (As := [.int (xs (x3 + (1 : Int32)).toNatClampNeg)]) (rest := []) ⟨hx, hb, hml, hown, hts⟩ (c_X_thing l dC dI cy adx H.size rb rc pb (xs (x3 + (1 : Int32)).toNatClampNeg) iX iR iT wT tx iB lB aB iC aC iD lD aD iE aE iK lK aK iW aW iP aP q eq) (cwV 1 hts (goodVL m_ml_L_70 m_im_X7_thing m_se_X7_thing m_in_X7 m_cd_X7_thing) rfl rfl rfl (by decide +kernel) ⟨Nat.le_of_ble_eq_true rfl, Nat.le_of_ble_eq_true rfl⟩) hN hK hP hD hS hA [0, 1, 2, 3, 4, 5, 6, 7, 8, 9, 10, 11, 12, 13, 14, 15, 16, 17, 18, 19, 20, 21, 22, 23, 24, 25, 26, 27, 28, 29, 30, 31, 32, 33, 34, 35, 36, 37, 38, 39, 40, 41, 42, 43, 44, 45, 46, 47, 48, 49, 50, 51, 52, 53] [some 0, some 1, some 2, some 3, some 4, some 5, some 6, some 7, some 8, some 9, some 10, some 11, some 12, some 13, some 14, some 15, some 16, some 17, some 18, some 19, some 20, some 21, some 22, some 23, some 24, some 25, some 26, some 27, some 28, some 29, some 30, some 31, some 32, some 33, some 34, some 35, some 36, some 37, some 38, some 39, some 40, some 41, some 42, some 43, some 44, some 45, some 46, some 47, some 48, some 49, some 50, some 51, some 52, some 53, none, none, none, none, none, none, none, none, none, none, none, none, none, none, none, none, none, none, none, none, none, none, none, none, none, none, none, none, none, none, none, none, none, none, none, none, none, none, none, none, none, none, none, none] rfl rfl rfl rfl rfl rfl 0 rfl rfl rfl hl.1 rfl (Nat.le_of_ble_eq_true rfl) dL_law_513 ⟨Nat.le_of_ble_eq_true rfl, Nat.le_of_ble_eq_true rfl⟩ (fun H locs hP hD hS => ?_)
                                  refine lv_aload_n hx hb dL_law_516 rfl (lv_at hl 2 rfl) ?_
                                  refine lv_aload_n hx hb dL_law_517 rfl (lv_at hl 0 rfl) ?_
                                  refine lv_iload_n hx hb dL_law_518 rfl (lv_at hl 3 rfl) ?_
                                  refine lv_iconst (v := 1) hx hb dL_law_519 (by decide) ?_
                                  refine lv_iadd hx hb dL_law_520 ?_
                                  refine va_sld hx hb hX hbl hbA hS o1 dL_law_521 ?_
                                  refine callVi (cc := code) (own := RL) (ws' := (zzX adx cy rb rc (adx 4) (adx 11) pb (adx 4) (adx 20) iX iR iT wT tx iB lB aB iC aC iD lD aD iE aE iK lK aK iW aW iP aP) ++ (zzM adm cy iM aM)) (As := [.int (xs (x3 + (1 : Int32)).toNatClampNeg)]) (rest := [.int q]) ⟨hx, hb, hml, hown, hts⟩ (c_M_thing l dC dI cy adm H.size (xs (x3 + (1 : Int32)).toNatClampNeg) iM aM r er) (cwV 1 hts (goodVL m_ml_L_73 m_im_X8_thing m_se_X8_thing m_in_X8 m_cd_X8_thing) rfl rfl rfl (by decide +kernel) ⟨Nat.le_of_ble_eq_true rfl, Nat.le_of_ble_eq_true rfl⟩) hN hK hP hD hS hA [54, 55, 56, 57, 58, 59, 60, 61, 62, 63, 64, 65, 66, 67, 68, 69, 70, 71, 72, 73, 74, 75, 76, 77, 78, 79, 80, 81, 82, 83, 84, 85, 86, 87, 88, 89, 90, 91, 92, 93, 94, 95, 96, 97] [none, none, none, none, none, none, none, none, none, none, none, none, none, none, none, none, none, none, none, none, none, none, none, none, none, none, none, none, none, none, none, none, none, none, none, none, none, none, none, none, none, none, none, none, none, none, none, none, none, none, none, none, none, none, some 0, some 1, some 2, some 3, some 4, some 5, some 6, some 7, some 8, some 9, some 10, some 11, some 12, some 13, some 14, some 15, some 16, some 17, some 18, some 19, some 20, some 21, some 22, some 23, some 24, some 25, some 26, some 27, some 28, some 29, some 30, some 31, some 32, some 33, some 34, some 35, some 36, some 37, some 38, some 39, some 40, some 41, some 42, some 43] rfl rfl rfl rfl rfl rfl 54 rfl rfl rfl hl.1 rfl (Nat.le_of_ble_eq_true rfl) dL_law_522 ⟨Nat.le_of_ble_eq_true rfl, Nat.le_of_ble_eq_true rfl⟩ (fun H locs hP hD hS => ?_)
                                  refine lv_icmp_eq (tgt := 668) hx hb dL_law_525 (by decide) (fun cz => ?_) (fun cz => ?_)
                                  · refine lv_iinc (v := (x3 + (6 : Int32))) (lv' := [(3, .int (x3 + (6 : Int32))), (0, .ref b), (1, .ref (adx 0)), (2, .ref (adm 0))]) hx hb dL_law_668 hl (k := 3) rfl rfl (by decide) rfl (fun ls hl => ?_)
                                    refine lv_goto (tgt := 18) hx hb dL_law_671 (by decide) ?_
                                    exact ih (i + 6) (x3 + (6 : Int32)) (by omega) (by omega) (by rw [ex3]; exact nI_add i 6) adx adm rb rc pb iX iR iT wT tx iB lB aB iC aC iD lD aD iE aE iK lK aK iW aW iP aP iM aM hrel H locs hP hD hS ls (lv_sub hl [1, 2, 3, 0] rfl)
                                  · exact absurd hqr cz
                                · rcases Decidable.em (sw = (14 : Int32)) with c14 | c14
                                  · refine lv_tableIn (off := 497) (tgt := 530) hx hb dL_law_33 (by rw [c14]; decide) (by rw [c14]; decide) (by rw [c14]; rfl) (by decide) ?_
                                    obtain ⟨q, r, eq, er, hqr, hrel⟩ := S_edge (xs (x3 + (1 : Int32)).toNatClampNeg) (xs (x3 + (2 : Int32)).toNatClampNeg) iX iR iT wT tx iB lB aB iC aC iD lD aD iE aE iK lK aK iW aW iP aP iM aM hRel
                                    refine lv_aload_n hx hb dL_law_530 rfl (lv_at hl 1 rfl) ?_
                                    refine lv_aload_n hx hb dL_law_531 rfl (lv_at hl 0 rfl) ?_
                                    refine lv_iload_n hx hb dL_law_532 rfl (lv_at hl 3 rfl) ?_
                                    refine lv_iconst (v := 1) hx hb dL_law_533 (by decide) ?_
                                    refine lv_iadd hx hb dL_law_534 ?_
                                    refine va_sld hx hb hX hbl hbA hS o1 dL_law_535 ?_
                                    refine lv_aload_n hx hb dL_law_536 rfl (lv_at hl 0 rfl) ?_
                                    refine lv_iload_n hx hb dL_law_537 rfl (lv_at hl 3 rfl) ?_
                                    refine lv_iconst (v := 2) hx hb dL_law_538 (by decide) ?_
                                    refine lv_iadd hx hb dL_law_539 ?_
                                    refine va_sld hx hb hX hbl hbA hS o2 dL_law_540 ?_
                                    refine callVi (cc := code) (own := RL) (ws' := (zzX adx cy rb rc (adx 4) (adx 11) pb (adx 4) (adx 20) iX iR iT wT tx iB lB aB iC aC iD lD aD iE aE iK lK aK iW aW iP aP) ++ (zzM adm cy iM aM)) (As := [.int (xs (x3 + (1 : Int32)).toNatClampNeg), .int (xs (x3 + (2 : Int32)).toNatClampNeg)]) (rest := []) ⟨hx, hb, hml, hown, hts⟩ (c_X_edge l dC dI cy adx H.size rb rc pb (xs (x3 + (1 : Int32)).toNatClampNeg) (xs (x3 + (2 : Int32)).toNatClampNeg) iX iR iT wT tx iB lB aB iC aC iD lD aD iE aE iK lK aK iW aW iP aP q eq) (cwV 2 hts (goodVL m_ml_L_74 m_im_X7_edge m_se_X7_edge m_in_X7 m_cd_X7_edge) rfl rfl rfl (by decide +kernel) ⟨Nat.le_of_ble_eq_true rfl, Nat.le_of_ble_eq_true rfl⟩) hN hK hP hD hS hA [0, 1, 2, 3, 4, 5, 6, 7, 8, 9, 10, 11, 12, 13, 14, 15, 16, 17, 18, 19, 20, 21, 22, 23, 24, 25, 26, 27, 28, 29, 30, 31, 32, 33, 34, 35, 36, 37, 38, 39, 40, 41, 42, 43, 44, 45, 46, 47, 48, 49, 50, 51, 52, 53] [some 0, some 1, some 2, some 3, some 4, some 5, some 6, some 7, some 8, some 9, some 10, some 11, some 12, some 13, some 14, some 15, some 16, some 17, some 18, some 19, some 20, some 21, some 22, some 23, some 24, some 25, some 26, some 27, some 28, some 29, some 30, some 31, some 32, some 33, some 34, some 35, some 36, some 37, some 38, some 39, some 40, some 41, some 42, some 43, some 44, some 45, some 46, some 47, some 48, some 49, some 50, some 51, some 52, some 53, none, none, none, none, none, none, none, none, none, none, none, none, none, none, none, none, none, none, none, none, none, none, none, none, none, none, none, none, none, none, none, none, none, none, none, none, none, none, none, none, none, none, none, none] rfl rfl rfl rfl rfl rfl 0 rfl rfl rfl hl.1 rfl (Nat.le_of_ble_eq_true rfl) dL_law_541 ⟨Nat.le_of_ble_eq_true rfl, Nat.le_of_ble_eq_true rfl⟩ (fun H locs hP hD hS => ?_)
                                    refine lv_aload_n hx hb dL_law_544 rfl (lv_at hl 2 rfl) ?_
                                    refine lv_aload_n hx hb dL_law_545 rfl (lv_at hl 0 rfl) ?_
                                    refine lv_iload_n hx hb dL_law_546 rfl (lv_at hl 3 rfl) ?_
                                    refine lv_iconst (v := 1) hx hb dL_law_547 (by decide) ?_
                                    refine lv_iadd hx hb dL_law_548 ?_
                                    refine va_sld hx hb hX hbl hbA hS o1 dL_law_549 ?_
                                    refine lv_aload_n hx hb dL_law_550 rfl (lv_at hl 0 rfl) ?_
                                    refine lv_iload_n hx hb dL_law_551 rfl (lv_at hl 3 rfl) ?_
                                    refine lv_iconst (v := 2) hx hb dL_law_552 (by decide) ?_
                                    refine lv_iadd hx hb dL_law_553 ?_
                                    refine va_sld hx hb hX hbl hbA hS o2 dL_law_554 ?_
                                    refine callVi (cc := code) (own := RL) (ws' := (zzX adx cy rb rc (adx 4) (adx 11) pb (adx 4) (adx 20) iX iR iT wT tx iB lB aB iC aC iD lD aD iE aE iK lK aK iW aW iP aP) ++ (zzM adm cy iM aM)) (As := [.int (xs (x3 + (1 : Int32)).toNatClampNeg), .int (xs (x3 + (2 : Int32)).toNatClampNeg)]) (rest := [.int q]) ⟨hx, hb, hml, hown, hts⟩ (c_M_edge l dC dI cy adm H.size (xs (x3 + (1 : Int32)).toNatClampNeg) (xs (x3 + (2 : Int32)).toNatClampNeg) iM aM r er) (cwV 2 hts (goodVL m_ml_L_77 m_im_X8_edge m_se_X8_edge m_in_X8 m_cd_X8_edge) rfl rfl rfl (by decide +kernel) ⟨Nat.le_of_ble_eq_true rfl, Nat.le_of_ble_eq_true rfl⟩) hN hK hP hD hS hA [54, 55, 56, 57, 58, 59, 60, 61, 62, 63, 64, 65, 66, 67, 68, 69, 70, 71, 72, 73, 74, 75, 76, 77, 78, 79, 80, 81, 82, 83, 84, 85, 86, 87, 88, 89, 90, 91, 92, 93, 94, 95, 96, 97] [none, none, none, none, none, none, none, none, none, none, none, none, none, none, none, none, none, none, none, none, none, none, none, none, none, none, none, none, none, none, none, none, none, none, none, none, none, none, none, none, none, none, none, none, none, none, none, none, none, none, none, none, none, none, some 0, some 1, some 2, some 3, some 4, some 5, some 6, some 7, some 8, some 9, some 10, some 11, some 12, some 13, some 14, some 15, some 16, some 17, some 18, some 19, some 20, some 21, some 22, some 23, some 24, some 25, some 26, some 27, some 28, some 29, some 30, some 31, some 32, some 33, some 34, some 35, some 36, some 37, some 38, some 39, some 40, some 41, some 42, some 43] rfl rfl rfl rfl rfl rfl 54 rfl rfl rfl hl.1 rfl (Nat.le_of_ble_eq_true rfl) dL_law_555 ⟨Nat.le_of_ble_eq_true rfl, Nat.le_of_ble_eq_true rfl⟩ (fun H locs hP hD hS => ?_)
                                    refine lv_icmp_eq (tgt := 668) hx hb dL_law_558 (by decide) (fun cz => ?_) (fun cz => ?_)
                                    · refine lv_iinc (v := (x3 + (6 : Int32))) (lv' := [(3, .int (x3 + (6 : Int32))), (0, .ref b), (1, .ref (adx 0)), (2, .ref (adm 0))]) hx hb dL_law_668 hl (k := 3) rfl rfl (by decide) rfl (fun ls hl => ?_)
                                      refine lv_goto (tgt := 18) hx hb dL_law_671 (by decide) ?_
                                      exact ih (i + 6) (x3 + (6 : Int32)) (by omega) (by omega) (by rw [ex3]; exact nI_add i 6) adx adm rb rc pb iX iR iT wT tx iB lB aB iC aC iD lD aD iE aE iK lK aK iW aW iP aP iM aM hrel H locs hP hD hS ls (lv_sub hl [1, 2, 3, 0] rfl)
                                    · exact absurd hqr cz
                                  · rcases Decidable.em (sw = (15 : Int32)) with c15 | c15
                                    · refine lv_tableIn (off := 530) (tgt := 563) hx hb dL_law_33 (by rw [c15]; decide) (by rw [c15]; decide) (by rw [c15]; rfl) (by decide) ?_
                                      obtain ⟨q, r, eq, er, hqr, hrel⟩ := S_bones (xs (x3 + (1 : Int32)).toNatClampNeg) iX iR iT wT tx iB lB aB iC aC iD lD aD iE aE iK lK aK iW aW iP aP iM aM hRel
                                      refine lv_aload_n hx hb dL_law_563 rfl (lv_at hl 1 rfl) ?_
                                      refine lv_aload_n hx hb dL_law_564 rfl (lv_at hl 0 rfl) ?_
                                      refine lv_iload_n hx hb dL_law_565 rfl (lv_at hl 3 rfl) ?_
                                      refine lv_iconst (v := 1) hx hb dL_law_566 (by decide) ?_
                                      refine lv_iadd hx hb dL_law_567 ?_
                                      refine va_sld hx hb hX hbl hbA hS o1 dL_law_568 ?_
                                      refine callVi (cc := code) (own := RL) (ws' := (zzX adx cy rb rc (adx 4) (adx 11) pb (adx 4) (adx 20) iX iR iT wT tx iB lB aB iC aC iD lD aD iE aE iK (us lK [(10, q.2.1), (11, q.2.2.1), (12, q.2.2.2.1)]) (us aK [(13, q.2.2.2.2)]) iW aW iP aP) ++ (zzM adm cy iM aM)) (As := [.int (xs (x3 + (1 : Int32)).toNatClampNeg)]) (rest := []) ⟨hx, hb, hml, hown, hts⟩ (c_X_bones l dC dI cy adx H.size rb rc pb N (xs (x3 + (1 : Int32)).toNatClampNeg) iX iR iT wT tx iB lB aB iC aC iD lD aD iE aE iK lK aK iW aW iP aP q eq) (cwV 1 hts (goodVL m_ml_L_78 m_im_X7_bones m_se_X7_bones m_in_X7 m_cd_X7_bones) rfl rfl rfl (by decide +kernel) ⟨Nat.le_of_ble_eq_true rfl, Nat.le_of_ble_eq_true rfl⟩) hN hK hP hD hS hA [0, 1, 2, 3, 4, 5, 6, 7, 8, 9, 10, 11, 12, 13, 14, 15, 16, 17, 18, 19, 20, 21, 22, 23, 24, 25, 26, 27, 28, 29, 30, 31, 32, 33, 34, 35, 36, 37, 38, 39, 40, 41, 42, 43, 44, 45, 46, 47, 48, 49, 50, 51, 52, 53] [some 0, some 1, some 2, some 3, some 4, some 5, some 6, some 7, some 8, some 9, some 10, some 11, some 12, some 13, some 14, some 15, some 16, some 17, some 18, some 19, some 20, some 21, some 22, some 23, some 24, some 25, some 26, some 27, some 28, some 29, some 30, some 31, some 32, some 33, some 34, some 35, some 36, some 37, some 38, some 39, some 40, some 41, some 42, some 43, some 44, some 45, some 46, some 47, some 48, some 49, some 50, some 51, some 52, some 53, none, none, none, none, none, none, none, none, none, none, none, none, none, none, none, none, none, none, none, none, none, none, none, none, none, none, none, none, none, none, none, none, none, none, none, none, none, none, none, none, none, none, none, none] rfl rfl rfl rfl rfl rfl 0 rfl rfl rfl hl.1 rfl (Nat.le_of_ble_eq_true rfl) dL_law_569 ⟨Nat.le_of_ble_eq_true rfl, Nat.le_of_ble_eq_true rfl⟩ (fun H locs hP hD hS => ?_)
                                      refine lv_aload_n hx hb dL_law_572 rfl (lv_at hl 2 rfl) ?_
                                      refine lv_aload_n hx hb dL_law_573 rfl (lv_at hl 0 rfl) ?_
                                      refine lv_iload_n hx hb dL_law_574 rfl (lv_at hl 3 rfl) ?_
                                      refine lv_iconst (v := 1) hx hb dL_law_575 (by decide) ?_
                                      refine lv_iadd hx hb dL_law_576 ?_
                                      refine va_sld hx hb hX hbl hbA hS o1 dL_law_577 ?_
                                      refine callVi (cc := code) (own := RL) (ws' := (zzX adx cy rb rc (adx 4) (adx 11) pb (adx 4) (adx 20) iX iR iT wT tx iB lB aB iC aC iD lD aD iE aE iK (us lK [(10, q.2.1), (11, q.2.2.1), (12, q.2.2.2.1)]) (us aK [(13, q.2.2.2.2)]) iW aW iP aP) ++ (zzM adm cy (us iM [(64, r.2.1), (65, r.2.2.1)]) (us aM [(61, r.2.2.2.1), (62, r.2.2.2.2.1), (63, r.2.2.2.2.2)]))) (As := [.int (xs (x3 + (1 : Int32)).toNatClampNeg)]) (rest := [.int q.1]) ⟨hx, hb, hml, hown, hts⟩ (c_M_bones l dC dI cy adm H.size N (xs (x3 + (1 : Int32)).toNatClampNeg) iM aM r er) (cwV 1 hts (goodVL m_ml_L_81 m_im_X8_bones m_se_X8_bones m_in_X8 m_cd_X8_bones) rfl rfl rfl (by decide +kernel) ⟨Nat.le_of_ble_eq_true rfl, Nat.le_of_ble_eq_true rfl⟩) hN hK hP hD hS hA [54, 55, 56, 57, 58, 59, 60, 61, 62, 63, 64, 65, 66, 67, 68, 69, 70, 71, 72, 73, 74, 75, 76, 77, 78, 79, 80, 81, 82, 83, 84, 85, 86, 87, 88, 89, 90, 91, 92, 93, 94, 95, 96, 97] [none, none, none, none, none, none, none, none, none, none, none, none, none, none, none, none, none, none, none, none, none, none, none, none, none, none, none, none, none, none, none, none, none, none, none, none, none, none, none, none, none, none, none, none, none, none, none, none, none, none, none, none, none, none, some 0, some 1, some 2, some 3, some 4, some 5, some 6, some 7, some 8, some 9, some 10, some 11, some 12, some 13, some 14, some 15, some 16, some 17, some 18, some 19, some 20, some 21, some 22, some 23, some 24, some 25, some 26, some 27, some 28, some 29, some 30, some 31, some 32, some 33, some 34, some 35, some 36, some 37, some 38, some 39, some 40, some 41, some 42, some 43] rfl rfl rfl rfl rfl rfl 54 rfl rfl rfl hl.1 rfl (Nat.le_of_ble_eq_true rfl) dL_law_578 ⟨Nat.le_of_ble_eq_true rfl, Nat.le_of_ble_eq_true rfl⟩ (fun H locs hP hD hS => ?_)
                                      refine lv_icmp_eq (tgt := 668) hx hb dL_law_581 (by decide) (fun cz => ?_) (fun cz => ?_)
                                      · refine lv_iinc (v := (x3 + (6 : Int32))) (lv' := [(3, .int (x3 + (6 : Int32))), (0, .ref b), (1, .ref (adx 0)), (2, .ref (adm 0))]) hx hb dL_law_668 hl (k := 3) rfl rfl (by decide) rfl (fun ls hl => ?_)
                                        refine lv_goto (tgt := 18) hx hb dL_law_671 (by decide) ?_
                                        exact ih (i + 6) (x3 + (6 : Int32)) (by omega) (by omega) (by rw [ex3]; exact nI_add i 6) adx adm rb rc pb iX iR iT wT tx iB lB aB iC aC iD lD aD iE aE iK ((us lK [(10, q.2.1), (11, q.2.2.1), (12, q.2.2.2.1)])) ((us aK [(13, q.2.2.2.2)])) iW aW iP aP ((us iM [(64, r.2.1), (65, r.2.2.1)])) ((us aM [(61, r.2.2.2.1), (62, r.2.2.2.2.1), (63, r.2.2.2.2.2)])) hrel H locs hP hD hS ls (lv_sub hl [1, 2, 3, 0] rfl)
                                      · exact absurd hqr cz
                                    · rcases Decidable.em (sw = (16 : Int32)) with c16 | c16
                                      · refine lv_tableIn (off := 553) (tgt := 586) hx hb dL_law_33 (by rw [c16]; decide) (by rw [c16]; decide) (by rw [c16]; rfl) (by decide) ?_
                                        obtain ⟨q, r, eq, er, hqr, hrel⟩ := S_same (xs (x3 + (1 : Int32)).toNatClampNeg) (xs (x3 + (2 : Int32)).toNatClampNeg) iX iR iT wT tx iB lB aB iC aC iD lD aD iE aE iK lK aK iW aW iP aP iM aM hRel
                                        refine lv_aload_n hx hb dL_law_586 rfl (lv_at hl 1 rfl) ?_
                                        refine lv_aload_n hx hb dL_law_587 rfl (lv_at hl 0 rfl) ?_
                                        refine lv_iload_n hx hb dL_law_588 rfl (lv_at hl 3 rfl) ?_
                                        refine lv_iconst (v := 1) hx hb dL_law_589 (by decide) ?_
                                        refine lv_iadd hx hb dL_law_590 ?_
                                        refine va_sld hx hb hX hbl hbA hS o1 dL_law_591 ?_
                                        refine lv_aload_n hx hb dL_law_592 rfl (lv_at hl 0 rfl) ?_
                                        refine lv_iload_n hx hb dL_law_593 rfl (lv_at hl 3 rfl) ?_
                                        refine lv_iconst (v := 2) hx hb dL_law_594 (by decide) ?_
                                        refine lv_iadd hx hb dL_law_595 ?_
                                        refine va_sld hx hb hX hbl hbA hS o2 dL_law_596 ?_
                                        refine callVi (cc := code) (own := RL) (ws' := (zzX adx cy rb rc (adx 4) (adx 11) pb (adx 4) (adx 20) iX iR iT wT tx iB lB aB iC aC iD lD aD iE aE iK lK aK iW aW iP aP) ++ (zzM adm cy iM aM)) (As := [.int (xs (x3 + (1 : Int32)).toNatClampNeg), .int (xs (x3 + (2 : Int32)).toNatClampNeg)]) (rest := []) ⟨hx, hb, hml, hown, hts⟩ (c_X_same l dC dI cy adx H.size rb rc pb N (xs (x3 + (1 : Int32)).toNatClampNeg) (xs (x3 + (2 : Int32)).toNatClampNeg) iX iR iT wT tx iB lB aB iC aC iD lD aD iE aE iK lK aK iW aW iP aP q eq) (cwV 2 hts (goodVL m_ml_L_82 m_im_X7_same m_se_X7_same m_in_X7 m_cd_X7_same) rfl rfl rfl (by decide +kernel) ⟨Nat.le_of_ble_eq_true rfl, Nat.le_of_ble_eq_true rfl⟩) hN hK hP hD hS hA [0, 1, 2, 3, 4, 5, 6, 7, 8, 9, 10, 11, 12, 13, 14, 15, 16, 17, 18, 19, 20, 21, 22, 23, 24, 25, 26, 27, 28, 29, 30, 31, 32, 33, 34, 35, 36, 37, 38, 39, 40, 41, 42, 43, 44, 45, 46, 47, 48, 49, 50, 51, 52, 53] [some 0, some 1, some 2, some 3, some 4, some 5, some 6, some 7, some 8, some 9, some 10, some 11, some 12, some 13, some 14, some 15, some 16, some 17, some 18, some 19, some 20, some 21, some 22, some 23, some 24, some 25, some 26, some 27, some 28, some 29, some 30, some 31, some 32, some 33, some 34, some 35, some 36, some 37, some 38, some 39, some 40, some 41, some 42, some 43, some 44, some 45, some 46, some 47, some 48, some 49, some 50, some 51, some 52, some 53, none, none, none, none, none, none, none, none, none, none, none, none, none, none, none, none, none, none, none, none, none, none, none, none, none, none, none, none, none, none, none, none, none, none, none, none, none, none, none, none, none, none, none, none] rfl rfl rfl rfl rfl rfl 0 rfl rfl rfl hl.1 rfl (Nat.le_of_ble_eq_true rfl) dL_law_597 ⟨Nat.le_of_ble_eq_true rfl, Nat.le_of_ble_eq_true rfl⟩ (fun H locs hP hD hS => ?_)
                                        refine lv_aload_n hx hb dL_law_600 rfl (lv_at hl 2 rfl) ?_
                                        refine lv_aload_n hx hb dL_law_601 rfl (lv_at hl 0 rfl) ?_
                                        refine lv_iload_n hx hb dL_law_602 rfl (lv_at hl 3 rfl) ?_
                                        refine lv_iconst (v := 1) hx hb dL_law_603 (by decide) ?_
                                        refine lv_iadd hx hb dL_law_604 ?_
                                        refine va_sld hx hb hX hbl hbA hS o1 dL_law_605 ?_
                                        refine lv_aload_n hx hb dL_law_606 rfl (lv_at hl 0 rfl) ?_
                                        refine lv_iload_n hx hb dL_law_607 rfl (lv_at hl 3 rfl) ?_
                                        refine lv_iconst (v := 2) hx hb dL_law_608 (by decide) ?_
                                        refine lv_iadd hx hb dL_law_609 ?_
                                        refine va_sld hx hb hX hbl hbA hS o2 dL_law_610 ?_
                                        refine callVi (cc := code) (own := RL) (ws' := (zzX adx cy rb rc (adx 4) (adx 11) pb (adx 4) (adx 20) iX iR iT wT tx iB lB aB iC aC iD lD aD iE aE iK lK aK iW aW iP aP) ++ (zzM adm cy iM aM)) (As := [.int (xs (x3 + (1 : Int32)).toNatClampNeg), .int (xs (x3 + (2 : Int32)).toNatClampNeg)]) (rest := [.int q]) ⟨hx, hb, hml, hown, hts⟩ (c_M_same l dC dI cy adm H.size N (xs (x3 + (1 : Int32)).toNatClampNeg) (xs (x3 + (2 : Int32)).toNatClampNeg) iM aM r er) (cwV 2 hts (goodVL m_ml_L_85 m_im_X8_same m_se_X8_same m_in_X8 m_cd_X8_same) rfl rfl rfl (by decide +kernel) ⟨Nat.le_of_ble_eq_true rfl, Nat.le_of_ble_eq_true rfl⟩) hN hK hP hD hS hA [54, 55, 56, 57, 58, 59, 60, 61, 62, 63, 64, 65, 66, 67, 68, 69, 70, 71, 72, 73, 74, 75, 76, 77, 78, 79, 80, 81, 82, 83, 84, 85, 86, 87, 88, 89, 90, 91, 92, 93, 94, 95, 96, 97] [none, none, none, none, none, none, none, none, none, none, none, none, none, none, none, none, none, none, none, none, none, none, none, none, none, none, none, none, none, none, none, none, none, none, none, none, none, none, none, none, none, none, none, none, none, none, none, none, none, none, none, none, none, none, some 0, some 1, some 2, some 3, some 4, some 5, some 6, some 7, some 8, some 9, some 10, some 11, some 12, some 13, some 14, some 15, some 16, some 17, some 18, some 19, some 20, some 21, some 22, some 23, some 24, some 25, some 26, some 27, some 28, some 29, some 30, some 31, some 32, some 33, some 34, some 35, some 36, some 37, some 38, some 39, some 40, some 41, some 42, some 43] rfl rfl rfl rfl rfl rfl 54 rfl rfl rfl hl.1 rfl (Nat.le_of_ble_eq_true rfl) dL_law_611 ⟨Nat.le_of_ble_eq_true rfl, Nat.le_of_ble_eq_true rfl⟩ (fun H locs hP hD hS => ?_)
                                        refine lv_icmp_eq (tgt := 668) hx hb dL_law_614 (by decide) (fun cz => ?_) (fun cz => ?_)
                                        · refine lv_iinc (v := (x3 + (6 : Int32))) (lv' := [(3, .int (x3 + (6 : Int32))), (0, .ref b), (1, .ref (adx 0)), (2, .ref (adm 0))]) hx hb dL_law_668 hl (k := 3) rfl rfl (by decide) rfl (fun ls hl => ?_)
                                          refine lv_goto (tgt := 18) hx hb dL_law_671 (by decide) ?_
                                          exact ih (i + 6) (x3 + (6 : Int32)) (by omega) (by omega) (by rw [ex3]; exact nI_add i 6) adx adm rb rc pb iX iR iT wT tx iB lB aB iC aC iD lD aD iE aE iK lK aK iW aW iP aP iM aM hrel H locs hP hD hS ls (lv_sub hl [1, 2, 3, 0] rfl)
                                        · exact absurd hqr cz
                                      · rcases Decidable.em (sw = (17 : Int32)) with c17 | c17
                                        · refine lv_tableIn (off := 586) (tgt := 619) hx hb dL_law_33 (by rw [c17]; decide) (by rw [c17]; decide) (by rw [c17]; rfl) (by decide) ?_
                                          obtain ⟨q, r, eq, er, hqr, hrel⟩ := S_print iX iR iT wT tx iB lB aB iC aC iD lD aD iE aE iK lK aK iW aW iP aP iM aM hRel
                                          refine lv_aload_n hx hb dL_law_619 rfl (lv_at hl 1 rfl) ?_
                                          refine callVi (cc := code) (own := RL) (ws' := (zzX adx cy rb rc (adx 4) (adx 11) (cond q.2.2.2.2.2 (adx 4) pb) (adx 4) (adx 20) iX iR iT wT tx iB lB aB iC aC iD lD aD iE aE iK lK aK iW aW (us iP [(1, q.2.1), (4, q.2.2.1)]) (us aP [(0, q.2.2.2.1), (3, q.2.2.2.2.1)])) ++ (zzM adm cy iM aM)) (As := []) (rest := []) ⟨hx, hb, hml, hown, hts⟩ (c_X_print l dC dI cy adx H.size rb rc pb N iX iR iT wT tx iB lB aB iC aC iD lD aD iE aE iK lK aK iW aW iP aP q eq) (cwV 0 hts (goodVL m_ml_L_86 m_im_X7_print m_se_X7_print m_in_X7 m_cd_X7_print) rfl rfl rfl (by decide +kernel) ⟨Nat.le_of_ble_eq_true rfl, Nat.le_of_ble_eq_true rfl⟩) hN hK hP hD hS hA [0, 1, 2, 3, 4, 5, 6, 7, 8, 9, 10, 11, 12, 13, 14, 15, 16, 17, 18, 19, 20, 21, 22, 23, 24, 25, 26, 27, 28, 29, 30, 31, 32, 33, 34, 35, 36, 37, 38, 39, 40, 41, 42, 43, 44, 45, 46, 47, 48, 49, 50, 51, 52, 53] [some 0, some 1, some 2, some 3, some 4, some 5, some 6, some 7, some 8, some 9, some 10, some 11, some 12, some 13, some 14, some 15, some 16, some 17, some 18, some 19, some 20, some 21, some 22, some 23, some 24, some 25, some 26, some 27, some 28, some 29, some 30, some 31, some 32, some 33, some 34, some 35, some 36, some 37, some 38, some 39, some 40, some 41, some 42, some 43, some 44, some 45, some 46, some 47, some 48, some 49, some 50, some 51, some 52, some 53, none, none, none, none, none, none, none, none, none, none, none, none, none, none, none, none, none, none, none, none, none, none, none, none, none, none, none, none, none, none, none, none, none, none, none, none, none, none, none, none, none, none, none, none] rfl rfl rfl rfl rfl rfl 0 rfl rfl rfl hl.1 rfl (Nat.le_of_ble_eq_true rfl) dL_law_620 ⟨Nat.le_of_ble_eq_true rfl, Nat.le_of_ble_eq_true rfl⟩ (fun H locs hP hD hS => ?_)
                                          refine lv_aload_n hx hb dL_law_623 rfl (lv_at hl 2 rfl) ?_
                                          refine callVi (cc := code) (own := RL) (ws' := (zzX adx cy rb rc (adx 4) (adx 11) (cond q.2.2.2.2.2 (adx 4) pb) (adx 4) (adx 20) iX iR iT wT tx iB lB aB iC aC iD lD aD iE aE iK lK aK iW aW (us iP [(1, q.2.1), (4, q.2.2.1)]) (us aP [(0, q.2.2.2.1), (3, q.2.2.2.2.1)])) ++ (zzM adm cy (us iM [(73, r.2.1), (77, r.2.2.1)]) (us aM [(72, r.2.2.2.1), (74, r.2.2.2.2.1), (75, r.2.2.2.2.2.1), (76, r.2.2.2.2.2.2)]))) (As := []) (rest := [.int q.1]) ⟨hx, hb, hml, hown, hts⟩ (c_M_print l dC dI cy adm H.size N iM aM r er) (cwV 0 hts (goodVL m_ml_L_89 m_im_X8_print m_se_X8_print m_in_X8 m_cd_X8_print) rfl rfl rfl (by decide +kernel) ⟨Nat.le_of_ble_eq_true rfl, Nat.le_of_ble_eq_true rfl⟩) hN hK hP hD hS hA [54, 55, 56, 57, 58, 59, 60, 61, 62, 63, 64, 65, 66, 67, 68, 69, 70, 71, 72, 73, 74, 75, 76, 77, 78, 79, 80, 81, 82, 83, 84, 85, 86, 87, 88, 89, 90, 91, 92, 93, 94, 95, 96, 97] [none, none, none, none, none, none, none, none, none, none, none, none, none, none, none, none, none, none, none, none, none, none, none, none, none, none, none, none, none, none, none, none, none, none, none, none, none, none, none, none, none, none, none, none, none, none, none, none, none, none, none, none, none, none, some 0, some 1, some 2, some 3, some 4, some 5, some 6, some 7, some 8, some 9, some 10, some 11, some 12, some 13, some 14, some 15, some 16, some 17, some 18, some 19, some 20, some 21, some 22, some 23, some 24, some 25, some 26, some 27, some 28, some 29, some 30, some 31, some 32, some 33, some 34, some 35, some 36, some 37, some 38, some 39, some 40, some 41, some 42, some 43] rfl rfl rfl rfl rfl rfl 54 rfl rfl rfl hl.1 rfl (Nat.le_of_ble_eq_true rfl) dL_law_624 ⟨Nat.le_of_ble_eq_true rfl, Nat.le_of_ble_eq_true rfl⟩ (fun H locs hP hD hS => ?_)
                                          refine lv_icmp_eq (tgt := 668) hx hb dL_law_627 (by decide) (fun cz => ?_) (fun cz => ?_)
                                          · refine lv_iinc (v := (x3 + (6 : Int32))) (lv' := [(3, .int (x3 + (6 : Int32))), (0, .ref b), (1, .ref (adx 0)), (2, .ref (adm 0))]) hx hb dL_law_668 hl (k := 3) rfl rfl (by decide) rfl (fun ls hl => ?_)
                                            refine lv_goto (tgt := 18) hx hb dL_law_671 (by decide) ?_
                                            exact ih (i + 6) (x3 + (6 : Int32)) (by omega) (by omega) (by rw [ex3]; exact nI_add i 6) adx adm rb rc (cond q.2.2.2.2.2 (adx 4) pb) iX iR iT wT tx iB lB aB iC aC iD lD aD iE aE iK lK aK iW aW ((us iP [(1, q.2.1), (4, q.2.2.1)])) ((us aP [(0, q.2.2.2.1), (3, q.2.2.2.2.1)])) ((us iM [(73, r.2.1), (77, r.2.2.1)])) ((us aM [(72, r.2.2.2.1), (74, r.2.2.2.2.1), (75, r.2.2.2.2.2.1), (76, r.2.2.2.2.2.2)])) hrel H locs hP hD hS ls (lv_sub hl [1, 2, 3, 0] rfl)
                                          · exact absurd hqr cz
                                        · rcases Decidable.em (sw = (18 : Int32)) with c18 | c18
                                          · refine lv_tableIn (off := 599) (tgt := 632) hx hb dL_law_33 (by rw [c18]; decide) (by rw [c18]; decide) (by rw [c18]; rfl) (by decide) ?_
                                            obtain ⟨q, r, eq, er, hqr, hrel⟩ := S_out (xs (x3 + (1 : Int32)).toNatClampNeg) iX iR iT wT tx iB lB aB iC aC iD lD aD iE aE iK lK aK iW aW iP aP iM aM hRel
                                            refine lv_aload_n hx hb dL_law_632 rfl (lv_at hl 1 rfl) ?_
                                            refine lv_aload_n hx hb dL_law_633 rfl (lv_at hl 0 rfl) ?_
                                            refine lv_iload_n hx hb dL_law_634 rfl (lv_at hl 3 rfl) ?_
                                            refine lv_iconst (v := 1) hx hb dL_law_635 (by decide) ?_
                                            refine lv_iadd hx hb dL_law_636 ?_
                                            refine va_sld hx hb hX hbl hbA hS o1 dL_law_637 ?_
                                            refine callVi (cc := code) (own := RL) (ws' := (zzX adx cy rb rc (adx 4) (adx 11) pb (adx 4) (adx 20) iX iR iT wT tx iB lB aB iC aC iD lD aD iE aE iK lK aK iW aW iP aP) ++ (zzM adm cy iM aM)) (As := [.int (xs (x3 + (1 : Int32)).toNatClampNeg)]) (rest := []) ⟨hx, hb, hml, hown, hts⟩ (c_X_out l dC dI cy adx H.size rb rc pb (xs (x3 + (1 : Int32)).toNatClampNeg) iX iR iT wT tx iB lB aB iC aC iD lD aD iE aE iK lK aK iW aW iP aP q eq) (cwV 1 hts (goodVL m_ml_L_90 m_im_X7_out m_se_X7_out m_in_X7 m_cd_X7_out) rfl rfl rfl (by decide +kernel) ⟨Nat.le_of_ble_eq_true rfl, Nat.le_of_ble_eq_true rfl⟩) hN hK hP hD hS hA [0, 1, 2, 3, 4, 5, 6, 7, 8, 9, 10, 11, 12, 13, 14, 15, 16, 17, 18, 19, 20, 21, 22, 23, 24, 25, 26, 27, 28, 29, 30, 31, 32, 33, 34, 35, 36, 37, 38, 39, 40, 41, 42, 43, 44, 45, 46, 47, 48, 49, 50, 51, 52, 53] [some 0, some 1, some 2, some 3, some 4, some 5, some 6, some 7, some 8, some 9, some 10, some 11, some 12, some 13, some 14, some 15, some 16, some 17, some 18, some 19, some 20, some 21, some 22, some 23, some 24, some 25, some 26, some 27, some 28, some 29, some 30, some 31, some 32, some 33, some 34, some 35, some 36, some 37, some 38, some 39, some 40, some 41, some 42, some 43, some 44, some 45, some 46, some 47, some 48, some 49, some 50, some 51, some 52, some 53, none, none, none, none, none, none, none, none, none, none, none, none, none, none, none, none, none, none, none, none, none, none, none, none, none, none, none, none, none, none, none, none, none, none, none, none, none, none, none, none, none, none, none, none] rfl rfl rfl rfl rfl rfl 0 rfl rfl rfl hl.1 rfl (Nat.le_of_ble_eq_true rfl) dL_law_638 ⟨Nat.le_of_ble_eq_true rfl, Nat.le_of_ble_eq_true rfl⟩ (fun H locs hP hD hS => ?_)
                                            refine lv_aload_n hx hb dL_law_641 rfl (lv_at hl 2 rfl) ?_
                                            refine lv_aload_n hx hb dL_law_642 rfl (lv_at hl 0 rfl) ?_
                                            refine lv_iload_n hx hb dL_law_643 rfl (lv_at hl 3 rfl) ?_
                                            refine lv_iconst (v := 1) hx hb dL_law_644 (by decide) ?_
                                            refine lv_iadd hx hb dL_law_645 ?_
                                            refine va_sld hx hb hX hbl hbA hS o1 dL_law_646 ?_
                                            refine callVi (cc := code) (own := RL) (ws' := (zzX adx cy rb rc (adx 4) (adx 11) pb (adx 4) (adx 20) iX iR iT wT tx iB lB aB iC aC iD lD aD iE aE iK lK aK iW aW iP aP) ++ (zzM adm cy iM aM)) (As := [.int (xs (x3 + (1 : Int32)).toNatClampNeg)]) (rest := [.int q]) ⟨hx, hb, hml, hown, hts⟩ (c_M_out l dC dI cy adm H.size (xs (x3 + (1 : Int32)).toNatClampNeg) iM aM r er) (cwV 1 hts (goodVL m_ml_L_93 m_im_X8_out m_se_X8_out m_in_X8 m_cd_X8_out) rfl rfl rfl (by decide +kernel) ⟨Nat.le_of_ble_eq_true rfl, Nat.le_of_ble_eq_true rfl⟩) hN hK hP hD hS hA [54, 55, 56, 57, 58, 59, 60, 61, 62, 63, 64, 65, 66, 67, 68, 69, 70, 71, 72, 73, 74, 75, 76, 77, 78, 79, 80, 81, 82, 83, 84, 85, 86, 87, 88, 89, 90, 91, 92, 93, 94, 95, 96, 97] [none, none, none, none, none, none, none, none, none, none, none, none, none, none, none, none, none, none, none, none, none, none, none, none, none, none, none, none, none, none, none, none, none, none, none, none, none, none, none, none, none, none, none, none, none, none, none, none, none, none, none, none, none, none, some 0, some 1, some 2, some 3, some 4, some 5, some 6, some 7, some 8, some 9, some 10, some 11, some 12, some 13, some 14, some 15, some 16, some 17, some 18, some 19, some 20, some 21, some 22, some 23, some 24, some 25, some 26, some 27, some 28, some 29, some 30, some 31, some 32, some 33, some 34, some 35, some 36, some 37, some 38, some 39, some 40, some 41, some 42, some 43] rfl rfl rfl rfl rfl rfl 54 rfl rfl rfl hl.1 rfl (Nat.le_of_ble_eq_true rfl) dL_law_647 ⟨Nat.le_of_ble_eq_true rfl, Nat.le_of_ble_eq_true rfl⟩ (fun H locs hP hD hS => ?_)
                                            refine lv_icmp_eq (tgt := 668) hx hb dL_law_650 (by decide) (fun cz => ?_) (fun cz => ?_)
                                            · refine lv_iinc (v := (x3 + (6 : Int32))) (lv' := [(3, .int (x3 + (6 : Int32))), (0, .ref b), (1, .ref (adx 0)), (2, .ref (adm 0))]) hx hb dL_law_668 hl (k := 3) rfl rfl (by decide) rfl (fun ls hl => ?_)
                                              refine lv_goto (tgt := 18) hx hb dL_law_671 (by decide) ?_
                                              exact ih (i + 6) (x3 + (6 : Int32)) (by omega) (by omega) (by rw [ex3]; exact nI_add i 6) adx adm rb rc pb iX iR iT wT tx iB lB aB iC aC iD lD aD iE aE iK lK aK iW aW iP aP iM aM hrel H locs hP hD hS ls (lv_sub hl [1, 2, 3, 0] rfl)
                                            · exact absurd hqr cz
                                          · rcases Decidable.em (sw = (19 : Int32)) with c19 | c19
                                            · refine lv_tableIn (off := 622) (tgt := 655) hx hb dL_law_33 (by rw [c19]; decide) (by rw [c19]; decide) (by rw [c19]; rfl) (by decide) ?_
                                              obtain ⟨q, r, eq, er, hqr, hrel⟩ := S_back iX iR iT wT tx iB lB aB iC aC iD lD aD iE aE iK lK aK iW aW iP aP iM aM hRel
                                              refine lv_aload_n hx hb dL_law_655 rfl (lv_at hl 1 rfl) ?_
                                              refine callVi (cc := code) (own := RL) (ws' := (zzX adx cy rb rc (adx 4) (adx 11) pb (adx 4) (adx 20) (us iX [(1, q.2.1)]) iR iT wT q.2.2 iB lB aB iC aC iD lD aD iE aE iK lK aK iW aW iP aP) ++ (zzM adm cy iM aM)) (As := []) (rest := []) ⟨hx, hb, hml, hown, hts⟩ (c_X_back l dC dI cy adx H.size rb rc pb iX iR iT wT tx iB lB aB iC aC iD lD aD iE aE iK lK aK iW aW iP aP q eq) (cwV 0 hts (goodVL m_ml_L_94 m_im_X7_back m_se_X7_back m_in_X7 m_cd_X7_back) rfl rfl rfl (by decide +kernel) ⟨Nat.le_of_ble_eq_true rfl, Nat.le_of_ble_eq_true rfl⟩) hN hK hP hD hS hA [0, 1, 2, 3, 4, 5, 6, 7, 8, 9, 10, 11, 12, 13, 14, 15, 16, 17, 18, 19, 20, 21, 22, 23, 24, 25, 26, 27, 28, 29, 30, 31, 32, 33, 34, 35, 36, 37, 38, 39, 40, 41, 42, 43, 44, 45, 46, 47, 48, 49, 50, 51, 52, 53] [some 0, some 1, some 2, some 3, some 4, some 5, some 6, some 7, some 8, some 9, some 10, some 11, some 12, some 13, some 14, some 15, some 16, some 17, some 18, some 19, some 20, some 21, some 22, some 23, some 24, some 25, some 26, some 27, some 28, some 29, some 30, some 31, some 32, some 33, some 34, some 35, some 36, some 37, some 38, some 39, some 40, some 41, some 42, some 43, some 44, some 45, some 46, some 47, some 48, some 49, some 50, some 51, some 52, some 53, none, none, none, none, none, none, none, none, none, none, none, none, none, none, none, none, none, none, none, none, none, none, none, none, none, none, none, none, none, none, none, none, none, none, none, none, none, none, none, none, none, none, none, none] rfl rfl rfl rfl rfl rfl 0 rfl rfl rfl hl.1 rfl (Nat.le_of_ble_eq_true rfl) dL_law_656 ⟨Nat.le_of_ble_eq_true rfl, Nat.le_of_ble_eq_true rfl⟩ (fun H locs hP hD hS => ?_)
                                              refine lv_aload_n hx hb dL_law_659 rfl (lv_at hl 2 rfl) ?_
                                              refine callVi (cc := code) (own := RL) (ws' := (zzX adx cy rb rc (adx 4) (adx 11) pb (adx 4) (adx 20) (us iX [(1, q.2.1)]) iR iT wT q.2.2 iB lB aB iC aC iD lD aD iE aE iK lK aK iW aW iP aP) ++ (zzM adm cy (us iM [(1, r.2.1)]) (us aM [(0, r.2.2)]))) (As := []) (rest := [.int q.1]) ⟨hx, hb, hml, hown, hts⟩ (c_M_back l dC dI cy adm H.size N iM aM r er) (cwV 0 hts (goodVL m_ml_L_97 m_im_X8_back m_se_X8_back m_in_X8 m_cd_X8_back) rfl rfl rfl (by decide +kernel) ⟨Nat.le_of_ble_eq_true rfl, Nat.le_of_ble_eq_true rfl⟩) hN hK hP hD hS hA [54, 55, 56, 57, 58, 59, 60, 61, 62, 63, 64, 65, 66, 67, 68, 69, 70, 71, 72, 73, 74, 75, 76, 77, 78, 79, 80, 81, 82, 83, 84, 85, 86, 87, 88, 89, 90, 91, 92, 93, 94, 95, 96, 97] [none, none, none, none, none, none, none, none, none, none, none, none, none, none, none, none, none, none, none, none, none, none, none, none, none, none, none, none, none, none, none, none, none, none, none, none, none, none, none, none, none, none, none, none, none, none, none, none, none, none, none, none, none, none, some 0, some 1, some 2, some 3, some 4, some 5, some 6, some 7, some 8, some 9, some 10, some 11, some 12, some 13, some 14, some 15, some 16, some 17, some 18, some 19, some 20, some 21, some 22, some 23, some 24, some 25, some 26, some 27, some 28, some 29, some 30, some 31, some 32, some 33, some 34, some 35, some 36, some 37, some 38, some 39, some 40, some 41, some 42, some 43] rfl rfl rfl rfl rfl rfl 54 rfl rfl rfl hl.1 rfl (Nat.le_of_ble_eq_true rfl) dL_law_660 ⟨Nat.le_of_ble_eq_true rfl, Nat.le_of_ble_eq_true rfl⟩ (fun H locs hP hD hS => ?_)
                                              refine lv_icmp_eq (tgt := 668) hx hb dL_law_663 (by decide) (fun cz => ?_) (fun cz => ?_)
                                              · refine lv_iinc (v := (x3 + (6 : Int32))) (lv' := [(3, .int (x3 + (6 : Int32))), (0, .ref b), (1, .ref (adx 0)), (2, .ref (adm 0))]) hx hb dL_law_668 hl (k := 3) rfl rfl (by decide) rfl (fun ls hl => ?_)
                                                refine lv_goto (tgt := 18) hx hb dL_law_671 (by decide) ?_
                                                exact ih (i + 6) (x3 + (6 : Int32)) (by omega) (by omega) (by rw [ex3]; exact nI_add i 6) adx adm rb rc pb ((us iX [(1, q.2.1)])) iR iT wT q.2.2 iB lB aB iC aC iD lD aD iE aE iK lK aK iW aW iP aP ((us iM [(1, r.2.1)])) ((us aM [(0, r.2.2)])) hrel H locs hP hD hS ls (lv_sub hl [1, 2, 3, 0] rfl)
                                              · exact absurd hqr cz
                                            · refine lv_tableOut (tgt := 668) hx hb dL_law_33 (by have z0 := tne (n := 0) (by decide) c0; have z1 := tne (n := 1) (by decide) c1; have z2 := tne (n := 2) (by decide) c2; have z3 := tne (n := 3) (by decide) c3; have z4 := tne (n := 4) (by decide) c4; have z5 := tne (n := 5) (by decide) c5; have z6 := tne (n := 6) (by decide) c6; have z7 := tne (n := 7) (by decide) c7; have z8 := tne (n := 8) (by decide) c8; have z9 := tne (n := 9) (by decide) c9; have z10 := tne (n := 10) (by decide) c10; have z11 := tne (n := 11) (by decide) c11; have z12 := tne (n := 12) (by decide) c12; have z13 := tne (n := 13) (by decide) c13; have z14 := tne (n := 14) (by decide) c14; have z15 := tne (n := 15) (by decide) c15; have z16 := tne (n := 16) (by decide) c16; have z17 := tne (n := 17) (by decide) c17; have z18 := tne (n := 18) (by decide) c18; have z19 := tne (n := 19) (by decide) c19; omega) (by decide) ?_
                                              refine lv_iinc (v := (x3 + (6 : Int32))) (lv' := [(3, .int (x3 + (6 : Int32))), (0, .ref b), (1, .ref (adx 0)), (2, .ref (adm 0))]) hx hb dL_law_668 hl (k := 3) rfl rfl (by decide) rfl (fun ls hl => ?_)
                                              refine lv_goto (tgt := 18) hx hb dL_law_671 (by decide) ?_
                                              exact ih (i + 6) (x3 + (6 : Int32)) (by omega) (by omega) (by rw [ex3]; exact nI_add i 6) adx adm rb rc pb iX iR iT wT tx iB lB aB iC aC iD lD aD iE aE iK lK aK iW aW iP aP iM aM hRel H locs hP hD hS ls (lv_sub hl [1, 2, 3, 0] rfl)
