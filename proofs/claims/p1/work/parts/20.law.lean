/-! THE CLAIM OUT OF ONE WALK OF THE LAW'S BODY. Your part is whole_start (and what it stands on); all else here is the same for every law, but numbers. -/
def R_law : String := "LaneRowLaw"
def lw_P (b : Addr) (xs : List Int32) (args : Array Value) (s : State) : Prop := args = #[.ref b] ∧ s.IntsAt b xs ∧ xs.length ≤ 4 ∧ (Jvm.Cond.and given_1 narrow_1).before args s = true
def lw_Q (_ : Array Value) (s : State) (o : Outcome) (t : State) : Prop := o = .returned (some (.int 1)) ∧ Framed s o t [] 600000 7302250
def lw_Z (below : List Frame) (a : Array Value) (s : State) : State → Prop := fun t => ∃ o, t.status = .running ∧ Ended t below o ∧ lw_Q a s o t
/-- the law's own end, with 1 on the stack, nothing written that was there before, its room as the claim has it -/
theorem lw_ret {p : Program} {l : Launch} {e : Env} {s : State} {m : MethodId} {below : List Frame} {meth : Method} {c : Code} {b : Nat} (hx : p.tables.exec = Jvm.exec) (hb : c.code = code) (hr : meth.sig.returnType = ret) (hlocks : meth.locks = false) {pc : Nat} {H : Heap} {ls : Array Slot} (hdg : decode code pc = .ok (.ireturn, 1)) : W p l e room_1 s m #[Value.ref b] below meth c H [] 600000 7302250 (lw_Z below #[Value.ref b] s) (F0 m pc ls [.int 1]) := by
  intro T hT X
  obtain ⟨fs, hret, hrun, hended, hW, hframe⟩ := X.leave (v := some (.int 1)) (hlocks := hlocks) (fun h => by rw [hr] at h; cases h)
  have hmeth' : T.vm.method? m = some meth := X.method'
  refine ⟨T.setFrames fs, ?_, .returned (some (.int 1)), hrun, hended, rfl, ⟨_, rfl⟩, hW, hframe⟩
  jvm_step X.here [X.here.top, hx, hb, hdg, hmeth', hr, ret, narrow_b1]
  (try refine ⟨rfl, ?_⟩); (try refine ⟨rfl, ?_⟩)
  first | (intro acts; rw [hret _ acts rfl rfl rfl]) | rw [hret _ _ rfl rfl rfl]
  exact Steps.refl _
/-- what holds at the law's entry: the machine, the code, the tables' words (any of lw_tbl by 'hts w (by decide +kernel)'), the script of L ints xs at the cell b, what the Statement gives of the start (any of its parts by flat_of_before) -/
def lw_At (p : Program) (s : State) (m : MethodId) (meth : Method) (c : Code) (b L : Nat) (xs : Nat → Int32) : Prop :=
  p.tables.exec = Jvm.exec ∧ c.code = code ∧ meth.sig.returnType = ret ∧ c.maxLocals = 4 ∧ s.vm.findClass R_law = some m.cls ∧ (∀ w ∈ lw_tbl, w.before #[Value.ref b] s = true) ∧ va_X b L xs s s.heap ∧ b < s.heap.size ∧ meth.locks = false ∧ (Jvm.Cond.and given_1 narrow_1).before #[Value.ref b] s = true
theorem wk_and31 (x : Int32) : ∃ j : Nat, j < 32 ∧ x &&& 31 = nI j := pk_andE x (m := 31) 5 (by decide)
theorem dL_law_0 : decode cL_law 0 = .ok (.new 7, 3) := by decide +kernel
theorem dL_law_3 : decode cL_law 3 = .ok (.dup, 1) := by decide +kernel
theorem dL_law_4 : decode cL_law 4 = .ok (.invokespecial 9, 3) := by decide +kernel
theorem dL_law_7 : decode cL_law 7 = .ok (.astore_n 1, 1) := by decide +kernel
theorem dL_law_8 : decode cL_law 8 = .ok (.new 10, 3) := by decide +kernel
theorem dL_law_11 : decode cL_law 11 = .ok (.dup, 1) := by decide +kernel
theorem dL_law_12 : decode cL_law 12 = .ok (.invokespecial 12, 3) := by decide +kernel
theorem dL_law_15 : decode cL_law 15 = .ok (.astore_n 2, 1) := by decide +kernel
theorem dL_law_16 : decode cL_law 16 = .ok (.iconst 0, 1) := by decide +kernel
theorem dL_law_17 : decode cL_law 17 = .ok (.istore_n 3, 1) := by decide +kernel
theorem dL_law_18 : decode cL_law 18 = .ok (.iload_n 3, 1) := by decide +kernel
theorem dL_law_19 : decode cL_law 19 = .ok (.aload_n 0, 1) := by decide +kernel
theorem dL_law_20 : decode cL_law 20 = .ok (.arraylength, 1) := by decide +kernel
theorem dL_law_21 : decode cL_law 21 = .ok (.iconst 4, 1) := by decide +kernel
theorem dL_law_22 : decode cL_law 22 = .ok (.isub, 1) := by decide +kernel
theorem dL_law_23 : decode cL_law 23 = .ok (.if_icmp .gt 811, 3) := by decide +kernel
theorem dL_law_26 : decode cL_law 26 = .ok (.aload_n 0, 1) := by decide +kernel
theorem dL_law_27 : decode cL_law 27 = .ok (.iload_n 3, 1) := by decide +kernel
theorem dL_law_28 : decode cL_law 28 = .ok (.iaload, 1) := by decide +kernel
theorem dL_law_29 : decode cL_law 29 = .ok (.bipush 31, 2) := by decide +kernel
theorem dL_law_31 : decode cL_law 31 = .ok (.iand, 1) := by decide +kernel
theorem dL_law_32 : decode cL_law 32 = .ok (.tableswitch 796 0 26 #[124, 147, 160, 173, 186, 209, 232, 265, 298, 331, 364, 397, 440, 463, 506, 529, 552, 565, 578, 611, 634, 677, 690, 733, 746, 759, 782], 124) := by decide +kernel
theorem dL_law_156 : decode cL_law 156 = .ok (.aload_n 1, 1) := by decide +kernel
theorem dL_law_157 : decode cL_law 157 = .ok (.aload_n 0, 1) := by decide +kernel
theorem dL_law_158 : decode cL_law 158 = .ok (.iload_n 3, 1) := by decide +kernel
theorem dL_law_159 : decode cL_law 159 = .ok (.iconst 1, 1) := by decide +kernel
theorem dL_law_160 : decode cL_law 160 = .ok (.iadd, 1) := by decide +kernel
theorem dL_law_161 : decode cL_law 161 = .ok (.iaload, 1) := by decide +kernel
theorem dL_law_162 : decode cL_law 162 = .ok (.invokevirtual 13, 3) := by decide +kernel
theorem dL_law_165 : decode cL_law 165 = .ok (.aload_n 2, 1) := by decide +kernel
theorem dL_law_166 : decode cL_law 166 = .ok (.aload_n 0, 1) := by decide +kernel
theorem dL_law_167 : decode cL_law 167 = .ok (.iload_n 3, 1) := by decide +kernel
theorem dL_law_168 : decode cL_law 168 = .ok (.iconst 1, 1) := by decide +kernel
theorem dL_law_169 : decode cL_law 169 = .ok (.iadd, 1) := by decide +kernel
theorem dL_law_170 : decode cL_law 170 = .ok (.iaload, 1) := by decide +kernel
theorem dL_law_171 : decode cL_law 171 = .ok (.invokevirtual 17, 3) := by decide +kernel
theorem dL_law_174 : decode cL_law 174 = .ok (.if_icmp .eq 654, 3) := by decide +kernel
theorem dL_law_179 : decode cL_law 179 = .ok (.aload_n 1, 1) := by decide +kernel
theorem dL_law_180 : decode cL_law 180 = .ok (.invokevirtual 18, 3) := by decide +kernel
theorem dL_law_183 : decode cL_law 183 = .ok (.aload_n 2, 1) := by decide +kernel
theorem dL_law_184 : decode cL_law 184 = .ok (.invokevirtual 22, 3) := by decide +kernel
theorem dL_law_187 : decode cL_law 187 = .ok (.if_icmp .eq 641, 3) := by decide +kernel
theorem dL_law_192 : decode cL_law 192 = .ok (.aload_n 1, 1) := by decide +kernel
theorem dL_law_193 : decode cL_law 193 = .ok (.invokevirtual 23, 3) := by decide +kernel
theorem dL_law_196 : decode cL_law 196 = .ok (.aload_n 2, 1) := by decide +kernel
theorem dL_law_197 : decode cL_law 197 = .ok (.invokevirtual 26, 3) := by decide +kernel
theorem dL_law_200 : decode cL_law 200 = .ok (.if_icmp .eq 628, 3) := by decide +kernel
theorem dL_law_205 : decode cL_law 205 = .ok (.aload_n 1, 1) := by decide +kernel
theorem dL_law_206 : decode cL_law 206 = .ok (.invokevirtual 27, 3) := by decide +kernel
theorem dL_law_209 : decode cL_law 209 = .ok (.aload_n 2, 1) := by decide +kernel
theorem dL_law_210 : decode cL_law 210 = .ok (.invokevirtual 30, 3) := by decide +kernel
theorem dL_law_213 : decode cL_law 213 = .ok (.if_icmp .eq 615, 3) := by decide +kernel
theorem dL_law_218 : decode cL_law 218 = .ok (.aload_n 1, 1) := by decide +kernel
theorem dL_law_219 : decode cL_law 219 = .ok (.aload_n 0, 1) := by decide +kernel
theorem dL_law_220 : decode cL_law 220 = .ok (.iload_n 3, 1) := by decide +kernel
theorem dL_law_221 : decode cL_law 221 = .ok (.iconst 1, 1) := by decide +kernel
theorem dL_law_222 : decode cL_law 222 = .ok (.iadd, 1) := by decide +kernel
theorem dL_law_223 : decode cL_law 223 = .ok (.iaload, 1) := by decide +kernel
theorem dL_law_224 : decode cL_law 224 = .ok (.invokevirtual 31, 3) := by decide +kernel
theorem dL_law_227 : decode cL_law 227 = .ok (.aload_n 2, 1) := by decide +kernel
theorem dL_law_228 : decode cL_law 228 = .ok (.aload_n 0, 1) := by decide +kernel
theorem dL_law_229 : decode cL_law 229 = .ok (.iload_n 3, 1) := by decide +kernel
theorem dL_law_230 : decode cL_law 230 = .ok (.iconst 1, 1) := by decide +kernel
theorem dL_law_231 : decode cL_law 231 = .ok (.iadd, 1) := by decide +kernel
theorem dL_law_232 : decode cL_law 232 = .ok (.iaload, 1) := by decide +kernel
theorem dL_law_233 : decode cL_law 233 = .ok (.invokevirtual 34, 3) := by decide +kernel
theorem dL_law_236 : decode cL_law 236 = .ok (.if_icmp .eq 592, 3) := by decide +kernel
theorem dL_law_241 : decode cL_law 241 = .ok (.aload_n 1, 1) := by decide +kernel
theorem dL_law_242 : decode cL_law 242 = .ok (.aload_n 0, 1) := by decide +kernel
theorem dL_law_243 : decode cL_law 243 = .ok (.iload_n 3, 1) := by decide +kernel
theorem dL_law_244 : decode cL_law 244 = .ok (.iconst 1, 1) := by decide +kernel
theorem dL_law_245 : decode cL_law 245 = .ok (.iadd, 1) := by decide +kernel
theorem dL_law_246 : decode cL_law 246 = .ok (.iaload, 1) := by decide +kernel
theorem dL_law_247 : decode cL_law 247 = .ok (.invokevirtual 35, 3) := by decide +kernel
theorem dL_law_250 : decode cL_law 250 = .ok (.aload_n 2, 1) := by decide +kernel
theorem dL_law_251 : decode cL_law 251 = .ok (.aload_n 0, 1) := by decide +kernel
theorem dL_law_252 : decode cL_law 252 = .ok (.iload_n 3, 1) := by decide +kernel
theorem dL_law_253 : decode cL_law 253 = .ok (.iconst 1, 1) := by decide +kernel
theorem dL_law_254 : decode cL_law 254 = .ok (.iadd, 1) := by decide +kernel
theorem dL_law_255 : decode cL_law 255 = .ok (.iaload, 1) := by decide +kernel
theorem dL_law_256 : decode cL_law 256 = .ok (.invokevirtual 38, 3) := by decide +kernel
theorem dL_law_259 : decode cL_law 259 = .ok (.if_icmp .eq 569, 3) := by decide +kernel
theorem dL_law_264 : decode cL_law 264 = .ok (.aload_n 1, 1) := by decide +kernel
theorem dL_law_265 : decode cL_law 265 = .ok (.aload_n 0, 1) := by decide +kernel
theorem dL_law_266 : decode cL_law 266 = .ok (.iload_n 3, 1) := by decide +kernel
theorem dL_law_267 : decode cL_law 267 = .ok (.iconst 1, 1) := by decide +kernel
theorem dL_law_268 : decode cL_law 268 = .ok (.iadd, 1) := by decide +kernel
theorem dL_law_269 : decode cL_law 269 = .ok (.iaload, 1) := by decide +kernel
theorem dL_law_270 : decode cL_law 270 = .ok (.aload_n 0, 1) := by decide +kernel
theorem dL_law_271 : decode cL_law 271 = .ok (.iload_n 3, 1) := by decide +kernel
theorem dL_law_272 : decode cL_law 272 = .ok (.iconst 2, 1) := by decide +kernel
theorem dL_law_273 : decode cL_law 273 = .ok (.iadd, 1) := by decide +kernel
theorem dL_law_274 : decode cL_law 274 = .ok (.iaload, 1) := by decide +kernel
theorem dL_law_275 : decode cL_law 275 = .ok (.invokevirtual 39, 3) := by decide +kernel
theorem dL_law_278 : decode cL_law 278 = .ok (.aload_n 2, 1) := by decide +kernel
theorem dL_law_279 : decode cL_law 279 = .ok (.aload_n 0, 1) := by decide +kernel
theorem dL_law_280 : decode cL_law 280 = .ok (.iload_n 3, 1) := by decide +kernel
theorem dL_law_281 : decode cL_law 281 = .ok (.iconst 1, 1) := by decide +kernel
theorem dL_law_282 : decode cL_law 282 = .ok (.iadd, 1) := by decide +kernel
theorem dL_law_283 : decode cL_law 283 = .ok (.iaload, 1) := by decide +kernel
theorem dL_law_284 : decode cL_law 284 = .ok (.aload_n 0, 1) := by decide +kernel
theorem dL_law_285 : decode cL_law 285 = .ok (.iload_n 3, 1) := by decide +kernel
theorem dL_law_286 : decode cL_law 286 = .ok (.iconst 2, 1) := by decide +kernel
theorem dL_law_287 : decode cL_law 287 = .ok (.iadd, 1) := by decide +kernel
theorem dL_law_288 : decode cL_law 288 = .ok (.iaload, 1) := by decide +kernel
theorem dL_law_289 : decode cL_law 289 = .ok (.invokevirtual 43, 3) := by decide +kernel
theorem dL_law_292 : decode cL_law 292 = .ok (.if_icmp .eq 536, 3) := by decide +kernel
theorem dL_law_297 : decode cL_law 297 = .ok (.aload_n 1, 1) := by decide +kernel
theorem dL_law_298 : decode cL_law 298 = .ok (.aload_n 0, 1) := by decide +kernel
theorem dL_law_299 : decode cL_law 299 = .ok (.iload_n 3, 1) := by decide +kernel
theorem dL_law_300 : decode cL_law 300 = .ok (.iconst 1, 1) := by decide +kernel
theorem dL_law_301 : decode cL_law 301 = .ok (.iadd, 1) := by decide +kernel
theorem dL_law_302 : decode cL_law 302 = .ok (.iaload, 1) := by decide +kernel
theorem dL_law_303 : decode cL_law 303 = .ok (.aload_n 0, 1) := by decide +kernel
theorem dL_law_304 : decode cL_law 304 = .ok (.iload_n 3, 1) := by decide +kernel
theorem dL_law_305 : decode cL_law 305 = .ok (.iconst 2, 1) := by decide +kernel
theorem dL_law_306 : decode cL_law 306 = .ok (.iadd, 1) := by decide +kernel
theorem dL_law_307 : decode cL_law 307 = .ok (.iaload, 1) := by decide +kernel
theorem dL_law_308 : decode cL_law 308 = .ok (.invokevirtual 44, 3) := by decide +kernel
theorem dL_law_311 : decode cL_law 311 = .ok (.aload_n 2, 1) := by decide +kernel
theorem dL_law_312 : decode cL_law 312 = .ok (.aload_n 0, 1) := by decide +kernel
theorem dL_law_313 : decode cL_law 313 = .ok (.iload_n 3, 1) := by decide +kernel
theorem dL_law_314 : decode cL_law 314 = .ok (.iconst 1, 1) := by decide +kernel
theorem dL_law_315 : decode cL_law 315 = .ok (.iadd, 1) := by decide +kernel
theorem dL_law_316 : decode cL_law 316 = .ok (.iaload, 1) := by decide +kernel
theorem dL_law_317 : decode cL_law 317 = .ok (.aload_n 0, 1) := by decide +kernel
theorem dL_law_318 : decode cL_law 318 = .ok (.iload_n 3, 1) := by decide +kernel
theorem dL_law_319 : decode cL_law 319 = .ok (.iconst 2, 1) := by decide +kernel
theorem dL_law_320 : decode cL_law 320 = .ok (.iadd, 1) := by decide +kernel
theorem dL_law_321 : decode cL_law 321 = .ok (.iaload, 1) := by decide +kernel
theorem dL_law_322 : decode cL_law 322 = .ok (.invokevirtual 47, 3) := by decide +kernel
theorem dL_law_325 : decode cL_law 325 = .ok (.if_icmp .eq 503, 3) := by decide +kernel
theorem dL_law_330 : decode cL_law 330 = .ok (.aload_n 1, 1) := by decide +kernel
theorem dL_law_331 : decode cL_law 331 = .ok (.aload_n 0, 1) := by decide +kernel
theorem dL_law_332 : decode cL_law 332 = .ok (.iload_n 3, 1) := by decide +kernel
theorem dL_law_333 : decode cL_law 333 = .ok (.iconst 1, 1) := by decide +kernel
theorem dL_law_334 : decode cL_law 334 = .ok (.iadd, 1) := by decide +kernel
theorem dL_law_335 : decode cL_law 335 = .ok (.iaload, 1) := by decide +kernel
theorem dL_law_336 : decode cL_law 336 = .ok (.aload_n 0, 1) := by decide +kernel
theorem dL_law_337 : decode cL_law 337 = .ok (.iload_n 3, 1) := by decide +kernel
theorem dL_law_338 : decode cL_law 338 = .ok (.iconst 2, 1) := by decide +kernel
theorem dL_law_339 : decode cL_law 339 = .ok (.iadd, 1) := by decide +kernel
theorem dL_law_340 : decode cL_law 340 = .ok (.iaload, 1) := by decide +kernel
theorem dL_law_341 : decode cL_law 341 = .ok (.invokevirtual 48, 3) := by decide +kernel
theorem dL_law_344 : decode cL_law 344 = .ok (.aload_n 2, 1) := by decide +kernel
theorem dL_law_345 : decode cL_law 345 = .ok (.aload_n 0, 1) := by decide +kernel
theorem dL_law_346 : decode cL_law 346 = .ok (.iload_n 3, 1) := by decide +kernel
theorem dL_law_347 : decode cL_law 347 = .ok (.iconst 1, 1) := by decide +kernel
theorem dL_law_348 : decode cL_law 348 = .ok (.iadd, 1) := by decide +kernel
theorem dL_law_349 : decode cL_law 349 = .ok (.iaload, 1) := by decide +kernel
theorem dL_law_350 : decode cL_law 350 = .ok (.aload_n 0, 1) := by decide +kernel
theorem dL_law_351 : decode cL_law 351 = .ok (.iload_n 3, 1) := by decide +kernel
theorem dL_law_352 : decode cL_law 352 = .ok (.iconst 2, 1) := by decide +kernel
theorem dL_law_353 : decode cL_law 353 = .ok (.iadd, 1) := by decide +kernel
theorem dL_law_354 : decode cL_law 354 = .ok (.iaload, 1) := by decide +kernel
theorem dL_law_355 : decode cL_law 355 = .ok (.invokevirtual 51, 3) := by decide +kernel
theorem dL_law_358 : decode cL_law 358 = .ok (.if_icmp .eq 470, 3) := by decide +kernel
theorem dL_law_363 : decode cL_law 363 = .ok (.aload_n 1, 1) := by decide +kernel
theorem dL_law_364 : decode cL_law 364 = .ok (.aload_n 0, 1) := by decide +kernel
theorem dL_law_365 : decode cL_law 365 = .ok (.iload_n 3, 1) := by decide +kernel
theorem dL_law_366 : decode cL_law 366 = .ok (.iconst 1, 1) := by decide +kernel
theorem dL_law_367 : decode cL_law 367 = .ok (.iadd, 1) := by decide +kernel
theorem dL_law_368 : decode cL_law 368 = .ok (.iaload, 1) := by decide +kernel
theorem dL_law_369 : decode cL_law 369 = .ok (.aload_n 0, 1) := by decide +kernel
theorem dL_law_370 : decode cL_law 370 = .ok (.iload_n 3, 1) := by decide +kernel
theorem dL_law_371 : decode cL_law 371 = .ok (.iconst 2, 1) := by decide +kernel
theorem dL_law_372 : decode cL_law 372 = .ok (.iadd, 1) := by decide +kernel
theorem dL_law_373 : decode cL_law 373 = .ok (.iaload, 1) := by decide +kernel
theorem dL_law_374 : decode cL_law 374 = .ok (.invokevirtual 52, 3) := by decide +kernel
theorem dL_law_377 : decode cL_law 377 = .ok (.aload_n 2, 1) := by decide +kernel
theorem dL_law_378 : decode cL_law 378 = .ok (.aload_n 0, 1) := by decide +kernel
theorem dL_law_379 : decode cL_law 379 = .ok (.iload_n 3, 1) := by decide +kernel
theorem dL_law_380 : decode cL_law 380 = .ok (.iconst 1, 1) := by decide +kernel
theorem dL_law_381 : decode cL_law 381 = .ok (.iadd, 1) := by decide +kernel
theorem dL_law_382 : decode cL_law 382 = .ok (.iaload, 1) := by decide +kernel
theorem dL_law_383 : decode cL_law 383 = .ok (.aload_n 0, 1) := by decide +kernel
theorem dL_law_384 : decode cL_law 384 = .ok (.iload_n 3, 1) := by decide +kernel
theorem dL_law_385 : decode cL_law 385 = .ok (.iconst 2, 1) := by decide +kernel
theorem dL_law_386 : decode cL_law 386 = .ok (.iadd, 1) := by decide +kernel
theorem dL_law_387 : decode cL_law 387 = .ok (.iaload, 1) := by decide +kernel
theorem dL_law_388 : decode cL_law 388 = .ok (.invokevirtual 55, 3) := by decide +kernel
theorem dL_law_391 : decode cL_law 391 = .ok (.if_icmp .eq 437, 3) := by decide +kernel
theorem dL_law_396 : decode cL_law 396 = .ok (.aload_n 1, 1) := by decide +kernel
theorem dL_law_397 : decode cL_law 397 = .ok (.aload_n 0, 1) := by decide +kernel
theorem dL_law_398 : decode cL_law 398 = .ok (.iload_n 3, 1) := by decide +kernel
theorem dL_law_399 : decode cL_law 399 = .ok (.iconst 1, 1) := by decide +kernel
theorem dL_law_400 : decode cL_law 400 = .ok (.iadd, 1) := by decide +kernel
theorem dL_law_401 : decode cL_law 401 = .ok (.iaload, 1) := by decide +kernel
theorem dL_law_402 : decode cL_law 402 = .ok (.aload_n 0, 1) := by decide +kernel
theorem dL_law_403 : decode cL_law 403 = .ok (.iload_n 3, 1) := by decide +kernel
theorem dL_law_404 : decode cL_law 404 = .ok (.iconst 2, 1) := by decide +kernel
theorem dL_law_405 : decode cL_law 405 = .ok (.iadd, 1) := by decide +kernel
theorem dL_law_406 : decode cL_law 406 = .ok (.iaload, 1) := by decide +kernel
theorem dL_law_407 : decode cL_law 407 = .ok (.invokevirtual 56, 3) := by decide +kernel
theorem dL_law_410 : decode cL_law 410 = .ok (.aload_n 2, 1) := by decide +kernel
theorem dL_law_411 : decode cL_law 411 = .ok (.aload_n 0, 1) := by decide +kernel
theorem dL_law_412 : decode cL_law 412 = .ok (.iload_n 3, 1) := by decide +kernel
theorem dL_law_413 : decode cL_law 413 = .ok (.iconst 1, 1) := by decide +kernel
theorem dL_law_414 : decode cL_law 414 = .ok (.iadd, 1) := by decide +kernel
theorem dL_law_415 : decode cL_law 415 = .ok (.iaload, 1) := by decide +kernel
theorem dL_law_416 : decode cL_law 416 = .ok (.aload_n 0, 1) := by decide +kernel
theorem dL_law_417 : decode cL_law 417 = .ok (.iload_n 3, 1) := by decide +kernel
theorem dL_law_418 : decode cL_law 418 = .ok (.iconst 2, 1) := by decide +kernel
theorem dL_law_419 : decode cL_law 419 = .ok (.iadd, 1) := by decide +kernel
theorem dL_law_420 : decode cL_law 420 = .ok (.iaload, 1) := by decide +kernel
theorem dL_law_421 : decode cL_law 421 = .ok (.invokevirtual 59, 3) := by decide +kernel
theorem dL_law_424 : decode cL_law 424 = .ok (.if_icmp .eq 404, 3) := by decide +kernel
theorem dL_law_429 : decode cL_law 429 = .ok (.aload_n 1, 1) := by decide +kernel
theorem dL_law_430 : decode cL_law 430 = .ok (.aload_n 0, 1) := by decide +kernel
theorem dL_law_431 : decode cL_law 431 = .ok (.iload_n 3, 1) := by decide +kernel
theorem dL_law_432 : decode cL_law 432 = .ok (.iconst 1, 1) := by decide +kernel
theorem dL_law_433 : decode cL_law 433 = .ok (.iadd, 1) := by decide +kernel
theorem dL_law_434 : decode cL_law 434 = .ok (.iaload, 1) := by decide +kernel
theorem dL_law_435 : decode cL_law 435 = .ok (.aload_n 0, 1) := by decide +kernel
theorem dL_law_436 : decode cL_law 436 = .ok (.iload_n 3, 1) := by decide +kernel
theorem dL_law_437 : decode cL_law 437 = .ok (.iconst 2, 1) := by decide +kernel
theorem dL_law_438 : decode cL_law 438 = .ok (.iadd, 1) := by decide +kernel
theorem dL_law_439 : decode cL_law 439 = .ok (.iaload, 1) := by decide +kernel
theorem dL_law_440 : decode cL_law 440 = .ok (.aload_n 0, 1) := by decide +kernel
theorem dL_law_441 : decode cL_law 441 = .ok (.iload_n 3, 1) := by decide +kernel
theorem dL_law_442 : decode cL_law 442 = .ok (.iconst 3, 1) := by decide +kernel
theorem dL_law_443 : decode cL_law 443 = .ok (.iadd, 1) := by decide +kernel
theorem dL_law_444 : decode cL_law 444 = .ok (.iaload, 1) := by decide +kernel
theorem dL_law_445 : decode cL_law 445 = .ok (.invokevirtual 60, 3) := by decide +kernel
theorem dL_law_448 : decode cL_law 448 = .ok (.aload_n 2, 1) := by decide +kernel
theorem dL_law_449 : decode cL_law 449 = .ok (.aload_n 0, 1) := by decide +kernel
theorem dL_law_450 : decode cL_law 450 = .ok (.iload_n 3, 1) := by decide +kernel
theorem dL_law_451 : decode cL_law 451 = .ok (.iconst 1, 1) := by decide +kernel
theorem dL_law_452 : decode cL_law 452 = .ok (.iadd, 1) := by decide +kernel
theorem dL_law_453 : decode cL_law 453 = .ok (.iaload, 1) := by decide +kernel
theorem dL_law_454 : decode cL_law 454 = .ok (.aload_n 0, 1) := by decide +kernel
theorem dL_law_455 : decode cL_law 455 = .ok (.iload_n 3, 1) := by decide +kernel
theorem dL_law_456 : decode cL_law 456 = .ok (.iconst 2, 1) := by decide +kernel
theorem dL_law_457 : decode cL_law 457 = .ok (.iadd, 1) := by decide +kernel
theorem dL_law_458 : decode cL_law 458 = .ok (.iaload, 1) := by decide +kernel
theorem dL_law_459 : decode cL_law 459 = .ok (.aload_n 0, 1) := by decide +kernel
theorem dL_law_460 : decode cL_law 460 = .ok (.iload_n 3, 1) := by decide +kernel
theorem dL_law_461 : decode cL_law 461 = .ok (.iconst 3, 1) := by decide +kernel
theorem dL_law_462 : decode cL_law 462 = .ok (.iadd, 1) := by decide +kernel
theorem dL_law_463 : decode cL_law 463 = .ok (.iaload, 1) := by decide +kernel
theorem dL_law_464 : decode cL_law 464 = .ok (.invokevirtual 64, 3) := by decide +kernel
theorem dL_law_467 : decode cL_law 467 = .ok (.if_icmp .eq 361, 3) := by decide +kernel
theorem dL_law_472 : decode cL_law 472 = .ok (.aload_n 1, 1) := by decide +kernel
theorem dL_law_473 : decode cL_law 473 = .ok (.aload_n 0, 1) := by decide +kernel
theorem dL_law_474 : decode cL_law 474 = .ok (.iload_n 3, 1) := by decide +kernel
theorem dL_law_475 : decode cL_law 475 = .ok (.iconst 1, 1) := by decide +kernel
theorem dL_law_476 : decode cL_law 476 = .ok (.iadd, 1) := by decide +kernel
theorem dL_law_477 : decode cL_law 477 = .ok (.iaload, 1) := by decide +kernel
theorem dL_law_478 : decode cL_law 478 = .ok (.invokevirtual 65, 3) := by decide +kernel
theorem dL_law_481 : decode cL_law 481 = .ok (.aload_n 2, 1) := by decide +kernel
theorem dL_law_482 : decode cL_law 482 = .ok (.aload_n 0, 1) := by decide +kernel
theorem dL_law_483 : decode cL_law 483 = .ok (.iload_n 3, 1) := by decide +kernel
theorem dL_law_484 : decode cL_law 484 = .ok (.iconst 1, 1) := by decide +kernel
theorem dL_law_485 : decode cL_law 485 = .ok (.iadd, 1) := by decide +kernel
theorem dL_law_486 : decode cL_law 486 = .ok (.iaload, 1) := by decide +kernel
theorem dL_law_487 : decode cL_law 487 = .ok (.invokevirtual 68, 3) := by decide +kernel
theorem dL_law_490 : decode cL_law 490 = .ok (.if_icmp .eq 338, 3) := by decide +kernel
theorem dL_law_495 : decode cL_law 495 = .ok (.aload_n 1, 1) := by decide +kernel
theorem dL_law_496 : decode cL_law 496 = .ok (.aload_n 0, 1) := by decide +kernel
theorem dL_law_497 : decode cL_law 497 = .ok (.iload_n 3, 1) := by decide +kernel
theorem dL_law_498 : decode cL_law 498 = .ok (.iconst 1, 1) := by decide +kernel
theorem dL_law_499 : decode cL_law 499 = .ok (.iadd, 1) := by decide +kernel
theorem dL_law_500 : decode cL_law 500 = .ok (.iaload, 1) := by decide +kernel
theorem dL_law_501 : decode cL_law 501 = .ok (.aload_n 0, 1) := by decide +kernel
theorem dL_law_502 : decode cL_law 502 = .ok (.iload_n 3, 1) := by decide +kernel
theorem dL_law_503 : decode cL_law 503 = .ok (.iconst 2, 1) := by decide +kernel
theorem dL_law_504 : decode cL_law 504 = .ok (.iadd, 1) := by decide +kernel
theorem dL_law_505 : decode cL_law 505 = .ok (.iaload, 1) := by decide +kernel
theorem dL_law_506 : decode cL_law 506 = .ok (.aload_n 0, 1) := by decide +kernel
theorem dL_law_507 : decode cL_law 507 = .ok (.iload_n 3, 1) := by decide +kernel
theorem dL_law_508 : decode cL_law 508 = .ok (.iconst 3, 1) := by decide +kernel
theorem dL_law_509 : decode cL_law 509 = .ok (.iadd, 1) := by decide +kernel
theorem dL_law_510 : decode cL_law 510 = .ok (.iaload, 1) := by decide +kernel
theorem dL_law_511 : decode cL_law 511 = .ok (.invokevirtual 69, 3) := by decide +kernel
theorem dL_law_514 : decode cL_law 514 = .ok (.aload_n 2, 1) := by decide +kernel
theorem dL_law_515 : decode cL_law 515 = .ok (.aload_n 0, 1) := by decide +kernel
theorem dL_law_516 : decode cL_law 516 = .ok (.iload_n 3, 1) := by decide +kernel
theorem dL_law_517 : decode cL_law 517 = .ok (.iconst 1, 1) := by decide +kernel
theorem dL_law_518 : decode cL_law 518 = .ok (.iadd, 1) := by decide +kernel
theorem dL_law_519 : decode cL_law 519 = .ok (.iaload, 1) := by decide +kernel
theorem dL_law_520 : decode cL_law 520 = .ok (.aload_n 0, 1) := by decide +kernel
theorem dL_law_521 : decode cL_law 521 = .ok (.iload_n 3, 1) := by decide +kernel
theorem dL_law_522 : decode cL_law 522 = .ok (.iconst 2, 1) := by decide +kernel
theorem dL_law_523 : decode cL_law 523 = .ok (.iadd, 1) := by decide +kernel
theorem dL_law_524 : decode cL_law 524 = .ok (.iaload, 1) := by decide +kernel
theorem dL_law_525 : decode cL_law 525 = .ok (.aload_n 0, 1) := by decide +kernel
theorem dL_law_526 : decode cL_law 526 = .ok (.iload_n 3, 1) := by decide +kernel
theorem dL_law_527 : decode cL_law 527 = .ok (.iconst 3, 1) := by decide +kernel
theorem dL_law_528 : decode cL_law 528 = .ok (.iadd, 1) := by decide +kernel
theorem dL_law_529 : decode cL_law 529 = .ok (.iaload, 1) := by decide +kernel
theorem dL_law_530 : decode cL_law 530 = .ok (.invokevirtual 72, 3) := by decide +kernel
theorem dL_law_533 : decode cL_law 533 = .ok (.if_icmp .eq 295, 3) := by decide +kernel
theorem dL_law_538 : decode cL_law 538 = .ok (.aload_n 1, 1) := by decide +kernel
theorem dL_law_539 : decode cL_law 539 = .ok (.aload_n 0, 1) := by decide +kernel
theorem dL_law_540 : decode cL_law 540 = .ok (.iload_n 3, 1) := by decide +kernel
theorem dL_law_541 : decode cL_law 541 = .ok (.iconst 1, 1) := by decide +kernel
theorem dL_law_542 : decode cL_law 542 = .ok (.iadd, 1) := by decide +kernel
theorem dL_law_543 : decode cL_law 543 = .ok (.iaload, 1) := by decide +kernel
theorem dL_law_544 : decode cL_law 544 = .ok (.invokevirtual 73, 3) := by decide +kernel
theorem dL_law_547 : decode cL_law 547 = .ok (.aload_n 2, 1) := by decide +kernel
theorem dL_law_548 : decode cL_law 548 = .ok (.aload_n 0, 1) := by decide +kernel
theorem dL_law_549 : decode cL_law 549 = .ok (.iload_n 3, 1) := by decide +kernel
theorem dL_law_550 : decode cL_law 550 = .ok (.iconst 1, 1) := by decide +kernel
theorem dL_law_551 : decode cL_law 551 = .ok (.iadd, 1) := by decide +kernel
theorem dL_law_552 : decode cL_law 552 = .ok (.iaload, 1) := by decide +kernel
theorem dL_law_553 : decode cL_law 553 = .ok (.invokevirtual 76, 3) := by decide +kernel
theorem dL_law_556 : decode cL_law 556 = .ok (.if_icmp .eq 272, 3) := by decide +kernel
theorem dL_law_561 : decode cL_law 561 = .ok (.aload_n 1, 1) := by decide +kernel
theorem dL_law_562 : decode cL_law 562 = .ok (.aload_n 0, 1) := by decide +kernel
theorem dL_law_563 : decode cL_law 563 = .ok (.iload_n 3, 1) := by decide +kernel
theorem dL_law_564 : decode cL_law 564 = .ok (.iconst 1, 1) := by decide +kernel
theorem dL_law_565 : decode cL_law 565 = .ok (.iadd, 1) := by decide +kernel
theorem dL_law_566 : decode cL_law 566 = .ok (.iaload, 1) := by decide +kernel
theorem dL_law_567 : decode cL_law 567 = .ok (.invokevirtual 77, 3) := by decide +kernel
theorem dL_law_570 : decode cL_law 570 = .ok (.aload_n 2, 1) := by decide +kernel
theorem dL_law_571 : decode cL_law 571 = .ok (.aload_n 0, 1) := by decide +kernel
theorem dL_law_572 : decode cL_law 572 = .ok (.iload_n 3, 1) := by decide +kernel
theorem dL_law_573 : decode cL_law 573 = .ok (.iconst 1, 1) := by decide +kernel
theorem dL_law_574 : decode cL_law 574 = .ok (.iadd, 1) := by decide +kernel
theorem dL_law_575 : decode cL_law 575 = .ok (.iaload, 1) := by decide +kernel
theorem dL_law_576 : decode cL_law 576 = .ok (.invokevirtual 80, 3) := by decide +kernel
theorem dL_law_579 : decode cL_law 579 = .ok (.if_icmp .eq 249, 3) := by decide +kernel
theorem dL_law_584 : decode cL_law 584 = .ok (.aload_n 1, 1) := by decide +kernel
theorem dL_law_585 : decode cL_law 585 = .ok (.invokevirtual 81, 3) := by decide +kernel
theorem dL_law_588 : decode cL_law 588 = .ok (.aload_n 2, 1) := by decide +kernel
theorem dL_law_589 : decode cL_law 589 = .ok (.invokevirtual 84, 3) := by decide +kernel
theorem dL_law_592 : decode cL_law 592 = .ok (.if_icmp .eq 236, 3) := by decide +kernel
theorem dL_law_597 : decode cL_law 597 = .ok (.aload_n 1, 1) := by decide +kernel
theorem dL_law_598 : decode cL_law 598 = .ok (.invokevirtual 85, 3) := by decide +kernel
theorem dL_law_601 : decode cL_law 601 = .ok (.aload_n 2, 1) := by decide +kernel
theorem dL_law_602 : decode cL_law 602 = .ok (.invokevirtual 88, 3) := by decide +kernel
theorem dL_law_605 : decode cL_law 605 = .ok (.if_icmp .eq 223, 3) := by decide +kernel
theorem dL_law_610 : decode cL_law 610 = .ok (.aload_n 1, 1) := by decide +kernel
theorem dL_law_611 : decode cL_law 611 = .ok (.aload_n 0, 1) := by decide +kernel
theorem dL_law_612 : decode cL_law 612 = .ok (.iload_n 3, 1) := by decide +kernel
theorem dL_law_613 : decode cL_law 613 = .ok (.iconst 1, 1) := by decide +kernel
theorem dL_law_614 : decode cL_law 614 = .ok (.iadd, 1) := by decide +kernel
theorem dL_law_615 : decode cL_law 615 = .ok (.iaload, 1) := by decide +kernel
theorem dL_law_616 : decode cL_law 616 = .ok (.aload_n 0, 1) := by decide +kernel
theorem dL_law_617 : decode cL_law 617 = .ok (.iload_n 3, 1) := by decide +kernel
theorem dL_law_618 : decode cL_law 618 = .ok (.iconst 2, 1) := by decide +kernel
theorem dL_law_619 : decode cL_law 619 = .ok (.iadd, 1) := by decide +kernel
theorem dL_law_620 : decode cL_law 620 = .ok (.iaload, 1) := by decide +kernel
theorem dL_law_621 : decode cL_law 621 = .ok (.invokevirtual 89, 3) := by decide +kernel
theorem dL_law_624 : decode cL_law 624 = .ok (.aload_n 2, 1) := by decide +kernel
theorem dL_law_625 : decode cL_law 625 = .ok (.aload_n 0, 1) := by decide +kernel
theorem dL_law_626 : decode cL_law 626 = .ok (.iload_n 3, 1) := by decide +kernel
theorem dL_law_627 : decode cL_law 627 = .ok (.iconst 1, 1) := by decide +kernel
theorem dL_law_628 : decode cL_law 628 = .ok (.iadd, 1) := by decide +kernel
theorem dL_law_629 : decode cL_law 629 = .ok (.iaload, 1) := by decide +kernel
theorem dL_law_630 : decode cL_law 630 = .ok (.aload_n 0, 1) := by decide +kernel
theorem dL_law_631 : decode cL_law 631 = .ok (.iload_n 3, 1) := by decide +kernel
theorem dL_law_632 : decode cL_law 632 = .ok (.iconst 2, 1) := by decide +kernel
theorem dL_law_633 : decode cL_law 633 = .ok (.iadd, 1) := by decide +kernel
theorem dL_law_634 : decode cL_law 634 = .ok (.iaload, 1) := by decide +kernel
theorem dL_law_635 : decode cL_law 635 = .ok (.invokevirtual 92, 3) := by decide +kernel
theorem dL_law_638 : decode cL_law 638 = .ok (.if_icmp .eq 190, 3) := by decide +kernel
theorem dL_law_643 : decode cL_law 643 = .ok (.aload_n 1, 1) := by decide +kernel
theorem dL_law_644 : decode cL_law 644 = .ok (.aload_n 0, 1) := by decide +kernel
theorem dL_law_645 : decode cL_law 645 = .ok (.iload_n 3, 1) := by decide +kernel
theorem dL_law_646 : decode cL_law 646 = .ok (.iconst 1, 1) := by decide +kernel
theorem dL_law_647 : decode cL_law 647 = .ok (.iadd, 1) := by decide +kernel
theorem dL_law_648 : decode cL_law 648 = .ok (.iaload, 1) := by decide +kernel
theorem dL_law_649 : decode cL_law 649 = .ok (.invokevirtual 93, 3) := by decide +kernel
theorem dL_law_652 : decode cL_law 652 = .ok (.aload_n 2, 1) := by decide +kernel
theorem dL_law_653 : decode cL_law 653 = .ok (.aload_n 0, 1) := by decide +kernel
theorem dL_law_654 : decode cL_law 654 = .ok (.iload_n 3, 1) := by decide +kernel
theorem dL_law_655 : decode cL_law 655 = .ok (.iconst 1, 1) := by decide +kernel
theorem dL_law_656 : decode cL_law 656 = .ok (.iadd, 1) := by decide +kernel
theorem dL_law_657 : decode cL_law 657 = .ok (.iaload, 1) := by decide +kernel
theorem dL_law_658 : decode cL_law 658 = .ok (.invokevirtual 96, 3) := by decide +kernel
theorem dL_law_661 : decode cL_law 661 = .ok (.if_icmp .eq 167, 3) := by decide +kernel
theorem dL_law_666 : decode cL_law 666 = .ok (.aload_n 1, 1) := by decide +kernel
theorem dL_law_667 : decode cL_law 667 = .ok (.aload_n 0, 1) := by decide +kernel
theorem dL_law_668 : decode cL_law 668 = .ok (.iload_n 3, 1) := by decide +kernel
theorem dL_law_669 : decode cL_law 669 = .ok (.iconst 1, 1) := by decide +kernel
theorem dL_law_670 : decode cL_law 670 = .ok (.iadd, 1) := by decide +kernel
theorem dL_law_671 : decode cL_law 671 = .ok (.iaload, 1) := by decide +kernel
theorem dL_law_672 : decode cL_law 672 = .ok (.aload_n 0, 1) := by decide +kernel
theorem dL_law_673 : decode cL_law 673 = .ok (.iload_n 3, 1) := by decide +kernel
theorem dL_law_674 : decode cL_law 674 = .ok (.iconst 2, 1) := by decide +kernel
theorem dL_law_675 : decode cL_law 675 = .ok (.iadd, 1) := by decide +kernel
theorem dL_law_676 : decode cL_law 676 = .ok (.iaload, 1) := by decide +kernel
theorem dL_law_677 : decode cL_law 677 = .ok (.aload_n 0, 1) := by decide +kernel
theorem dL_law_678 : decode cL_law 678 = .ok (.iload_n 3, 1) := by decide +kernel
theorem dL_law_679 : decode cL_law 679 = .ok (.iconst 3, 1) := by decide +kernel
theorem dL_law_680 : decode cL_law 680 = .ok (.iadd, 1) := by decide +kernel
theorem dL_law_681 : decode cL_law 681 = .ok (.iaload, 1) := by decide +kernel
theorem dL_law_682 : decode cL_law 682 = .ok (.invokevirtual 97, 3) := by decide +kernel
theorem dL_law_685 : decode cL_law 685 = .ok (.aload_n 2, 1) := by decide +kernel
theorem dL_law_686 : decode cL_law 686 = .ok (.aload_n 0, 1) := by decide +kernel
theorem dL_law_687 : decode cL_law 687 = .ok (.iload_n 3, 1) := by decide +kernel
theorem dL_law_688 : decode cL_law 688 = .ok (.iconst 1, 1) := by decide +kernel
theorem dL_law_689 : decode cL_law 689 = .ok (.iadd, 1) := by decide +kernel
theorem dL_law_690 : decode cL_law 690 = .ok (.iaload, 1) := by decide +kernel
theorem dL_law_691 : decode cL_law 691 = .ok (.aload_n 0, 1) := by decide +kernel
theorem dL_law_692 : decode cL_law 692 = .ok (.iload_n 3, 1) := by decide +kernel
theorem dL_law_693 : decode cL_law 693 = .ok (.iconst 2, 1) := by decide +kernel
theorem dL_law_694 : decode cL_law 694 = .ok (.iadd, 1) := by decide +kernel
theorem dL_law_695 : decode cL_law 695 = .ok (.iaload, 1) := by decide +kernel
theorem dL_law_696 : decode cL_law 696 = .ok (.aload_n 0, 1) := by decide +kernel
theorem dL_law_697 : decode cL_law 697 = .ok (.iload_n 3, 1) := by decide +kernel
theorem dL_law_698 : decode cL_law 698 = .ok (.iconst 3, 1) := by decide +kernel
theorem dL_law_699 : decode cL_law 699 = .ok (.iadd, 1) := by decide +kernel
theorem dL_law_700 : decode cL_law 700 = .ok (.iaload, 1) := by decide +kernel
theorem dL_law_701 : decode cL_law 701 = .ok (.invokevirtual 100, 3) := by decide +kernel
theorem dL_law_704 : decode cL_law 704 = .ok (.if_icmp .eq 124, 3) := by decide +kernel
theorem dL_law_709 : decode cL_law 709 = .ok (.aload_n 1, 1) := by decide +kernel
theorem dL_law_710 : decode cL_law 710 = .ok (.invokevirtual 101, 3) := by decide +kernel
theorem dL_law_713 : decode cL_law 713 = .ok (.aload_n 2, 1) := by decide +kernel
theorem dL_law_714 : decode cL_law 714 = .ok (.invokevirtual 104, 3) := by decide +kernel
theorem dL_law_717 : decode cL_law 717 = .ok (.if_icmp .eq 111, 3) := by decide +kernel
theorem dL_law_722 : decode cL_law 722 = .ok (.aload_n 1, 1) := by decide +kernel
theorem dL_law_723 : decode cL_law 723 = .ok (.aload_n 0, 1) := by decide +kernel
theorem dL_law_724 : decode cL_law 724 = .ok (.iload_n 3, 1) := by decide +kernel
theorem dL_law_725 : decode cL_law 725 = .ok (.iconst 1, 1) := by decide +kernel
theorem dL_law_726 : decode cL_law 726 = .ok (.iadd, 1) := by decide +kernel
theorem dL_law_727 : decode cL_law 727 = .ok (.iaload, 1) := by decide +kernel
theorem dL_law_728 : decode cL_law 728 = .ok (.aload_n 0, 1) := by decide +kernel
theorem dL_law_729 : decode cL_law 729 = .ok (.iload_n 3, 1) := by decide +kernel
theorem dL_law_730 : decode cL_law 730 = .ok (.iconst 2, 1) := by decide +kernel
theorem dL_law_731 : decode cL_law 731 = .ok (.iadd, 1) := by decide +kernel
theorem dL_law_732 : decode cL_law 732 = .ok (.iaload, 1) := by decide +kernel
theorem dL_law_733 : decode cL_law 733 = .ok (.aload_n 0, 1) := by decide +kernel
theorem dL_law_734 : decode cL_law 734 = .ok (.iload_n 3, 1) := by decide +kernel
theorem dL_law_735 : decode cL_law 735 = .ok (.iconst 3, 1) := by decide +kernel
theorem dL_law_736 : decode cL_law 736 = .ok (.iadd, 1) := by decide +kernel
theorem dL_law_737 : decode cL_law 737 = .ok (.iaload, 1) := by decide +kernel
theorem dL_law_738 : decode cL_law 738 = .ok (.invokevirtual 105, 3) := by decide +kernel
theorem dL_law_741 : decode cL_law 741 = .ok (.aload_n 2, 1) := by decide +kernel
theorem dL_law_742 : decode cL_law 742 = .ok (.aload_n 0, 1) := by decide +kernel
theorem dL_law_743 : decode cL_law 743 = .ok (.iload_n 3, 1) := by decide +kernel
theorem dL_law_744 : decode cL_law 744 = .ok (.iconst 1, 1) := by decide +kernel
theorem dL_law_745 : decode cL_law 745 = .ok (.iadd, 1) := by decide +kernel
theorem dL_law_746 : decode cL_law 746 = .ok (.iaload, 1) := by decide +kernel
theorem dL_law_747 : decode cL_law 747 = .ok (.aload_n 0, 1) := by decide +kernel
theorem dL_law_748 : decode cL_law 748 = .ok (.iload_n 3, 1) := by decide +kernel
theorem dL_law_749 : decode cL_law 749 = .ok (.iconst 2, 1) := by decide +kernel
theorem dL_law_750 : decode cL_law 750 = .ok (.iadd, 1) := by decide +kernel
theorem dL_law_751 : decode cL_law 751 = .ok (.iaload, 1) := by decide +kernel
theorem dL_law_752 : decode cL_law 752 = .ok (.aload_n 0, 1) := by decide +kernel
theorem dL_law_753 : decode cL_law 753 = .ok (.iload_n 3, 1) := by decide +kernel
theorem dL_law_754 : decode cL_law 754 = .ok (.iconst 3, 1) := by decide +kernel
theorem dL_law_755 : decode cL_law 755 = .ok (.iadd, 1) := by decide +kernel
theorem dL_law_756 : decode cL_law 756 = .ok (.iaload, 1) := by decide +kernel
theorem dL_law_757 : decode cL_law 757 = .ok (.invokevirtual 108, 3) := by decide +kernel
theorem dL_law_760 : decode cL_law 760 = .ok (.if_icmp .eq 68, 3) := by decide +kernel
theorem dL_law_765 : decode cL_law 765 = .ok (.aload_n 1, 1) := by decide +kernel
theorem dL_law_766 : decode cL_law 766 = .ok (.invokevirtual 109, 3) := by decide +kernel
theorem dL_law_769 : decode cL_law 769 = .ok (.aload_n 2, 1) := by decide +kernel
theorem dL_law_770 : decode cL_law 770 = .ok (.invokevirtual 112, 3) := by decide +kernel
theorem dL_law_773 : decode cL_law 773 = .ok (.if_icmp .eq 55, 3) := by decide +kernel
theorem dL_law_778 : decode cL_law 778 = .ok (.aload_n 1, 1) := by decide +kernel
theorem dL_law_779 : decode cL_law 779 = .ok (.invokevirtual 113, 3) := by decide +kernel
theorem dL_law_782 : decode cL_law 782 = .ok (.aload_n 2, 1) := by decide +kernel
theorem dL_law_783 : decode cL_law 783 = .ok (.invokevirtual 116, 3) := by decide +kernel
theorem dL_law_786 : decode cL_law 786 = .ok (.if_icmp .eq 42, 3) := by decide +kernel
theorem dL_law_791 : decode cL_law 791 = .ok (.aload_n 1, 1) := by decide +kernel
theorem dL_law_792 : decode cL_law 792 = .ok (.aload_n 0, 1) := by decide +kernel
theorem dL_law_793 : decode cL_law 793 = .ok (.iload_n 3, 1) := by decide +kernel
theorem dL_law_794 : decode cL_law 794 = .ok (.iconst 1, 1) := by decide +kernel
theorem dL_law_795 : decode cL_law 795 = .ok (.iadd, 1) := by decide +kernel
theorem dL_law_796 : decode cL_law 796 = .ok (.iaload, 1) := by decide +kernel
theorem dL_law_797 : decode cL_law 797 = .ok (.invokevirtual 117, 3) := by decide +kernel
theorem dL_law_800 : decode cL_law 800 = .ok (.aload_n 2, 1) := by decide +kernel
theorem dL_law_801 : decode cL_law 801 = .ok (.aload_n 0, 1) := by decide +kernel
theorem dL_law_802 : decode cL_law 802 = .ok (.iload_n 3, 1) := by decide +kernel
theorem dL_law_803 : decode cL_law 803 = .ok (.iconst 1, 1) := by decide +kernel
theorem dL_law_804 : decode cL_law 804 = .ok (.iadd, 1) := by decide +kernel
theorem dL_law_805 : decode cL_law 805 = .ok (.iaload, 1) := by decide +kernel
theorem dL_law_806 : decode cL_law 806 = .ok (.invokevirtual 120, 3) := by decide +kernel
theorem dL_law_809 : decode cL_law 809 = .ok (.if_icmp .eq 19, 3) := by decide +kernel
theorem dL_law_814 : decode cL_law 814 = .ok (.aload_n 1, 1) := by decide +kernel
theorem dL_law_815 : decode cL_law 815 = .ok (.invokevirtual 121, 3) := by decide +kernel
theorem dL_law_818 : decode cL_law 818 = .ok (.aload_n 2, 1) := by decide +kernel
theorem dL_law_819 : decode cL_law 819 = .ok (.invokevirtual 125, 3) := by decide +kernel
theorem dL_law_822 : decode cL_law 822 = .ok (.lcmp, 1) := by decide +kernel
theorem dL_law_823 : decode cL_law 823 = .ok (.ifCond .eq 5, 3) := by decide +kernel
theorem dL_law_828 : decode cL_law 828 = .ok (.iinc 3 4, 3) := by decide +kernel
theorem dL_law_831 : decode cL_law 831 = .ok (.goto (-813), 3) := by decide +kernel
theorem dL_law_834 : decode cL_law 834 = .ok (.iconst 1, 1) := by decide +kernel
theorem dL_law_835 : decode cL_law 835 = .ok (.ireturn, 1) := by decide +kernel
set_option maxHeartbeats 40000000 in
set_option maxRecDepth 100000 in
theorem whole_start {p : Program} {e : Env} {s : State} {m : MethodId} {below : List Frame} {meth : Method} {c : Code} (l : Launch) {b L : Nat} {xs : Nat → Int32} (hL : L ≤ 4) (C0 : lw_At p s m meth c b L xs) : W p l e room_1 s m #[Value.ref b] below meth c s.heap [] 0 0 (lw_Z below #[Value.ref b] s) (entryFrame m ([Value.ref b] : List Value).toArray 4) := by
  obtain ⟨hx, hb, hr, hml, hown, hts, hX, hbl, hlocks, hgv⟩ := C0
  have htb := wk_hts hts
  have hown : s.vm.findClass RL = some m.cls := hown
  obtain ⟨A, hAe⟩ : ∃ A : Nat → Prop, A = fun q : Nat => s.heap.size ≤ q := ⟨_, rfl⟩
  have hA : ∀ q : Nat, s.heap.size ≤ q → A q := fun q h => by rw [hAe]; exact h
  have hbA : ¬ A b := by rw [hAe]; exact Nat.not_le.mpr hbl
  obtain ⟨c0, i0, hKn0⟩ := u_known (C := RX0) (T := TX0) (N := 0) (n := 0) htb inX0 (htb _ tw_357)
  obtain ⟨c1, i1, hKn1⟩ := u_known (C := RX1) (T := TX1) (N := 0) (n := 0) htb inX1 (htb _ tw_343)
  obtain ⟨c2, i2, hKn2⟩ := u_known (C := RX2) (T := TX2) (N := 6) (n := 6) htb inX2 (htb _ tw_103)
  obtain ⟨c3, i3, hKn3⟩ := u_known (C := RX3) (T := TX3) (N := 0) (n := 0) htb inX3 (htb _ tw_336)
  obtain ⟨c4, i4, hKn4⟩ := u_known (C := RX4) (T := TX4) (N := 4) (n := 4) htb inX4 (htb _ tw_147)
  obtain ⟨c5, i5, hKn5⟩ := u_known (C := RX5) (T := TX5) (N := 0) (n := 0) htb inX5 (htb _ tw_350)
  obtain ⟨c6, i6, hKn6⟩ := u_known (C := RX6) (T := TX6) (N := 2) (n := 2) htb inX6 (htb _ tw_87)
  obtain ⟨c7, i7, hKn7⟩ := u_known (C := RX7) (T := TX7) (N := 0) (n := 0) htb inX7 (htb _ tw_364)
  obtain ⟨c8, i8, hKn8⟩ := u_known (C := RX8) (T := TX8) (N := 5) (n := 5) htb inX8 (htb _ tw_109)
  obtain ⟨c9, i9, hKn9⟩ := u_known (C := RX9) (T := TX9) (N := 8) (n := 8) htb inX9 (htb _ tw_216)
  obtain ⟨c10, i10, hKn10⟩ := u_known (C := RX10) (T := TX10) (N := 3) (n := 3) htb inX10 (htb _ tw_196)
  obtain ⟨c11, i11, hKn11⟩ := u_known (C := RX11) (T := TX11) (N := 10) (n := 10) htb inX11 (htb _ tw_79)
  obtain ⟨c12, i12, hKn12⟩ := u_known (C := RX12) (T := TX12) (N := 44) (n := 44) htb inX12 (htb _ tw_758)
  obtain ⟨D, hKc⟩ : ∃ D : va_G, ∀ (k : Nat) (q : vw_C), classes[k]? = some q → u_Kn s q.1 q.2.1 q.2.2 (D.1 k) (D.2 k) := by
    refine ⟨(fun k => [c0, c1, c2, c3, c4, c5, c6, c7, c8, c9, c10, c11, c12].getD k c0, fun k => [i0, i1, i2, i3, i4, i5, i6, i7, i8, i9, i10, i11, i12].getD k i0), ?_⟩
    intro k q hq
    match k, hq with
    | 0, hq => cases hq; exact hKn0
    | 1, hq => cases hq; exact hKn1
    | 2, hq => cases hq; exact hKn2
    | 3, hq => cases hq; exact hKn3
    | 4, hq => cases hq; exact hKn4
    | 5, hq => cases hq; exact hKn5
    | 6, hq => cases hq; exact hKn6
    | 7, hq => cases hq; exact hKn7
    | 8, hq => cases hq; exact hKn8
    | 9, hq => cases hq; exact hKn9
    | 10, hq => cases hq; exact hKn10
    | 11, hq => cases hq; exact hKn11
    | 12, hq => cases hq; exact hKn12
    | k + 13, hq => simp [classes] at hq
  obtain ⟨cy, kA, comp, hy1, hy2, hy3⟩ := Cond.arrayClass_spec (htb _ tw_101)
  have hK : va_K D classes [(cy, .int)] s := ⟨hKc, fun k q h => by
    have hz : k < 1 := (List.getElem?_eq_some_iff.mp h).1
    rw [show k = 0 by omega] at h
    cases h
    exact ⟨fun n z => ⟨fun k h => (by cases h), kA, hy2, comp, hy3⟩, hy1⟩⟩
  have hS : va_S A s.heap s.heap [] := va_S.rf
  have hP : va_P D classes [] s.heap := fun k q h => by simp at h
  have hD : va_D A [] := ⟨fun i j p q h => by simp at h, fun k q h => by simp at h⟩
  have hl := lv_entry ([.ref b]) (n := 4) (Nat.le_of_ble_eq_true rfl)
  rw [lg_entry_eq]
  generalize (lg_sl ([.ref b]) ++ List.replicate (4 - (lg_sl ([.ref b])).length) Slot.unset).toArray = ls at hl ⊢
  have hl : lv_has ls 4 [(0, .ref b)] := hl
  refine va_new (ci := 11) (fs := [.null, .null, .null, .null, .null, .null, .null, .int 0, .int 0, .int 0]) (C := RX11) (T := TX11) (N := 10) hx hb htb inX11 tyX11 tyX11_ok hown (htb _ tw_78) (htb _ tw_79) (htb _ tw_64) hK hP hD hS hA rfl (fun j hj => by rcases (show j = 0 ∨ j = 1 ∨ j = 2 ∨ j = 3 ∨ j = 4 ∨ j = 5 ∨ j = 6 ∨ j = 7 ∨ j = 8 ∨ j = 9 by omega) with rfl | rfl | rfl | rfl | rfl | rfl | rfl | rfl | rfl | rfl <;> rfl) (Nat.le_of_ble_eq_true rfl) (Nat.le_of_ble_eq_true rfl) dL_law_0 (fun q_1 H hP hD hS => ?_)
  refine W.widen (k := 1) (n := 10) (by decide) (by decide) ?_
  have hP : va_P D classes [(q_1, .inr (11, [.null, .null, .null, .null, .null, .null, .null, .int 0, .int 0, .int 0]))] H := hP
  have hD : va_D A [(q_1, .inr (11, [.null, .null, .null, .null, .null, .null, .null, .int 0, .int 0, .int 0]))] := hD
  refine lv_dup hx hb dL_law_3 rfl ?_
  refine wk_vI (As := []) (rest := [.ref q_1]) (wc := [(q_1, .inr (11, [.null, .null, .null, .null, .null, .null, .null, .int 0, .int 0, .int 0]))]) (wr := []) (n := 0) (R := _) ⟨hx, hb, hml, hown, htb⟩ (c_X11_init l D cy q_1) tw_82 tw_80 tw_81 tw_64 rfl rfl rfl (by decide +kernel) ⟨Nat.le_of_ble_eq_true rfl, Nat.le_of_ble_eq_true rfl⟩ hK hP hD hS hA [0] [] rfl rfl rfl rfl (by decide) rfl hl.1 rfl (Nat.le_of_ble_eq_true rfl) dL_law_4 ⟨Nat.le_of_ble_eq_true rfl, Nat.le_of_ble_eq_true rfl⟩ (fun u_3 H locs hw_4 hP hD hS => ?_)
  refine W.widen (k := 41) (n := 341) (by decide) (by decide) ?_
  have hP : va_P D classes [(q_1, .inr (11, [.ref (u_3 0), .ref (u_3 2), .ref (u_3 4), .ref (u_3 19), .ref (u_3 34), .ref (u_3 35), .null, .int 0, .int 0, .int 0])), ((u_3 0), .inr (6, [.ref (u_3 1), .int 0])), ((u_3 1), .inl (cy, 44, .inl (fun _ => 0))), ((u_3 2), .inr (6, [.ref (u_3 3), .int 0])), ((u_3 3), .inl (cy, 44, .inl (fun _ => 0))), ((u_3 4), .inr (2, [.ref (u_3 5), .ref (u_3 10), .ref (u_3 15), .int 0, .int 0, .int 0])), ((u_3 5), .inr (8, [.ref (u_3 6), .ref (u_3 7), .ref (u_3 8), .ref (u_3 9), .int 0])), ((u_3 6), .inl (cy, 8, .inl (fun _ => 0))), ((u_3 7), .inl (cy, 8, .inl (fun _ => 0))), ((u_3 8), .inl (cy, 8, .inl (fun _ => 0))), ((u_3 9), .inl (cy, 8, .inl (fun _ => 0))), ((u_3 10), .inr (8, [.ref (u_3 11), .ref (u_3 12), .ref (u_3 13), .ref (u_3 14), .int 0])), ((u_3 11), .inl (cy, 8, .inl (fun _ => 0))), ((u_3 12), .inl (cy, 8, .inl (fun _ => 0))), ((u_3 13), .inl (cy, 8, .inl (fun _ => 0))), ((u_3 14), .inl (cy, 8, .inl (fun _ => 0))), ((u_3 15), .inr (4, [.ref (u_3 16), .ref (u_3 17), .ref (u_3 18), .int 0])), ((u_3 16), .inl (cy, 6, .inl (fun _ => 0))), ((u_3 17), .inl (cy, 6, .inl (fun _ => 0))), ((u_3 18), .inl (cy, 6, .inl (fun _ => 0))), ((u_3 19), .inr (2, [.ref (u_3 20), .ref (u_3 25), .ref (u_3 30), .int 0, .int 0, .int 0])), ((u_3 20), .inr (8, [.ref (u_3 21), .ref (u_3 22), .ref (u_3 23), .ref (u_3 24), .int 0])), ((u_3 21), .inl (cy, 8, .inl (fun _ => 0))), ((u_3 22), .inl (cy, 8, .inl (fun _ => 0))), ((u_3 23), .inl (cy, 8, .inl (fun _ => 0))), ((u_3 24), .inl (cy, 8, .inl (fun _ => 0))), ((u_3 25), .inr (8, [.ref (u_3 26), .ref (u_3 27), .ref (u_3 28), .ref (u_3 29), .int 0])), ((u_3 26), .inl (cy, 8, .inl (fun _ => 0))), ((u_3 27), .inl (cy, 8, .inl (fun _ => 0))), ((u_3 28), .inl (cy, 8, .inl (fun _ => 0))), ((u_3 29), .inl (cy, 8, .inl (fun _ => 0))), ((u_3 30), .inr (4, [.ref (u_3 31), .ref (u_3 32), .ref (u_3 33), .int 0])), ((u_3 31), .inl (cy, 6, .inl (fun _ => 0))), ((u_3 32), .inl (cy, 6, .inl (fun _ => 0))), ((u_3 33), .inl (cy, 6, .inl (fun _ => 0))), ((u_3 34), .inr (10, [.int 0, .int 0, .int 0])), ((u_3 35), .inr (9, [.ref (u_3 36), .ref (u_3 37), .ref (u_3 38), .ref (u_3 39), .int 0, .int 0, .int 0, .int 0])), ((u_3 36), .inr (10, [.int 0, .int 0, .int 0])), ((u_3 37), .inl (cy, 8, .inl (fun _ => 0))), ((u_3 38), .inl (cy, 8, .inl (fun _ => 0))), ((u_3 39), .inl (cy, 5, .inl (fun _ => 0)))] H := hP
  have hD : va_D A [(q_1, .inr (11, [.ref (u_3 0), .ref (u_3 2), .ref (u_3 4), .ref (u_3 19), .ref (u_3 34), .ref (u_3 35), .null, .int 0, .int 0, .int 0])), ((u_3 0), .inr (6, [.ref (u_3 1), .int 0])), ((u_3 1), .inl (cy, 44, .inl (fun _ => 0))), ((u_3 2), .inr (6, [.ref (u_3 3), .int 0])), ((u_3 3), .inl (cy, 44, .inl (fun _ => 0))), ((u_3 4), .inr (2, [.ref (u_3 5), .ref (u_3 10), .ref (u_3 15), .int 0, .int 0, .int 0])), ((u_3 5), .inr (8, [.ref (u_3 6), .ref (u_3 7), .ref (u_3 8), .ref (u_3 9), .int 0])), ((u_3 6), .inl (cy, 8, .inl (fun _ => 0))), ((u_3 7), .inl (cy, 8, .inl (fun _ => 0))), ((u_3 8), .inl (cy, 8, .inl (fun _ => 0))), ((u_3 9), .inl (cy, 8, .inl (fun _ => 0))), ((u_3 10), .inr (8, [.ref (u_3 11), .ref (u_3 12), .ref (u_3 13), .ref (u_3 14), .int 0])), ((u_3 11), .inl (cy, 8, .inl (fun _ => 0))), ((u_3 12), .inl (cy, 8, .inl (fun _ => 0))), ((u_3 13), .inl (cy, 8, .inl (fun _ => 0))), ((u_3 14), .inl (cy, 8, .inl (fun _ => 0))), ((u_3 15), .inr (4, [.ref (u_3 16), .ref (u_3 17), .ref (u_3 18), .int 0])), ((u_3 16), .inl (cy, 6, .inl (fun _ => 0))), ((u_3 17), .inl (cy, 6, .inl (fun _ => 0))), ((u_3 18), .inl (cy, 6, .inl (fun _ => 0))), ((u_3 19), .inr (2, [.ref (u_3 20), .ref (u_3 25), .ref (u_3 30), .int 0, .int 0, .int 0])), ((u_3 20), .inr (8, [.ref (u_3 21), .ref (u_3 22), .ref (u_3 23), .ref (u_3 24), .int 0])), ((u_3 21), .inl (cy, 8, .inl (fun _ => 0))), ((u_3 22), .inl (cy, 8, .inl (fun _ => 0))), ((u_3 23), .inl (cy, 8, .inl (fun _ => 0))), ((u_3 24), .inl (cy, 8, .inl (fun _ => 0))), ((u_3 25), .inr (8, [.ref (u_3 26), .ref (u_3 27), .ref (u_3 28), .ref (u_3 29), .int 0])), ((u_3 26), .inl (cy, 8, .inl (fun _ => 0))), ((u_3 27), .inl (cy, 8, .inl (fun _ => 0))), ((u_3 28), .inl (cy, 8, .inl (fun _ => 0))), ((u_3 29), .inl (cy, 8, .inl (fun _ => 0))), ((u_3 30), .inr (4, [.ref (u_3 31), .ref (u_3 32), .ref (u_3 33), .int 0])), ((u_3 31), .inl (cy, 6, .inl (fun _ => 0))), ((u_3 32), .inl (cy, 6, .inl (fun _ => 0))), ((u_3 33), .inl (cy, 6, .inl (fun _ => 0))), ((u_3 34), .inr (10, [.int 0, .int 0, .int 0])), ((u_3 35), .inr (9, [.ref (u_3 36), .ref (u_3 37), .ref (u_3 38), .ref (u_3 39), .int 0, .int 0, .int 0, .int 0])), ((u_3 36), .inr (10, [.int 0, .int 0, .int 0])), ((u_3 37), .inl (cy, 8, .inl (fun _ => 0))), ((u_3 38), .inl (cy, 8, .inl (fun _ => 0))), ((u_3 39), .inl (cy, 5, .inl (fun _ => 0)))] := hD
  refine lv_astore_n (lv' := [(1, .ref q_1), (0, .ref b)]) hx hb dL_law_7 rfl hl (by decide) rfl (fun ls hl => ?_)
  refine va_new (ci := 12) (fs := [.null, .int 0, .int 0, .int 0, .int 0, .int 0, .int 0, .int 0, .null, .null, .null, .null, .int 0, .null, .null, .null, .null, .int 0, .int 0, .int 0, .int 0, .null, .null, .int 0, .null, .null, .int 0, .int 0, .int 0, .int 0, .int 0, .int 0, .int 0, .int 0, .null, .null, .null, .null, .null, .null, .null, .null, .null, .long 0]) (C := RX12) (T := TX12) (N := 44) hx hb htb inX12 tyX12 tyX12_ok hown (htb _ tw_757) (htb _ tw_758) (htb _ tw_71) hK hP hD hS hA rfl (fun j hj => by rcases (show j = 0 ∨ j = 1 ∨ j = 2 ∨ j = 3 ∨ j = 4 ∨ j = 5 ∨ j = 6 ∨ j = 7 ∨ j = 8 ∨ j = 9 ∨ j = 10 ∨ j = 11 ∨ j = 12 ∨ j = 13 ∨ j = 14 ∨ j = 15 ∨ j = 16 ∨ j = 17 ∨ j = 18 ∨ j = 19 ∨ j = 20 ∨ j = 21 ∨ j = 22 ∨ j = 23 ∨ j = 24 ∨ j = 25 ∨ j = 26 ∨ j = 27 ∨ j = 28 ∨ j = 29 ∨ j = 30 ∨ j = 31 ∨ j = 32 ∨ j = 33 ∨ j = 34 ∨ j = 35 ∨ j = 36 ∨ j = 37 ∨ j = 38 ∨ j = 39 ∨ j = 40 ∨ j = 41 ∨ j = 42 ∨ j = 43 by omega) with rfl | rfl | rfl | rfl | rfl | rfl | rfl | rfl | rfl | rfl | rfl | rfl | rfl | rfl | rfl | rfl | rfl | rfl | rfl | rfl | rfl | rfl | rfl | rfl | rfl | rfl | rfl | rfl | rfl | rfl | rfl | rfl | rfl | rfl | rfl | rfl | rfl | rfl | rfl | rfl | rfl | rfl | rfl | rfl <;> rfl) (Nat.le_of_ble_eq_true rfl) (Nat.le_of_ble_eq_true rfl) dL_law_8 (fun q_5 H hP hD hS => ?_)
  refine W.widen (k := 42) (n := 385) (by decide) (by decide) ?_
  have hP : va_P D classes [(q_1, .inr (11, [.ref (u_3 0), .ref (u_3 2), .ref (u_3 4), .ref (u_3 19), .ref (u_3 34), .ref (u_3 35), .null, .int 0, .int 0, .int 0])), ((u_3 0), .inr (6, [.ref (u_3 1), .int 0])), ((u_3 1), .inl (cy, 44, .inl (fun _ => 0))), ((u_3 2), .inr (6, [.ref (u_3 3), .int 0])), ((u_3 3), .inl (cy, 44, .inl (fun _ => 0))), ((u_3 4), .inr (2, [.ref (u_3 5), .ref (u_3 10), .ref (u_3 15), .int 0, .int 0, .int 0])), ((u_3 5), .inr (8, [.ref (u_3 6), .ref (u_3 7), .ref (u_3 8), .ref (u_3 9), .int 0])), ((u_3 6), .inl (cy, 8, .inl (fun _ => 0))), ((u_3 7), .inl (cy, 8, .inl (fun _ => 0))), ((u_3 8), .inl (cy, 8, .inl (fun _ => 0))), ((u_3 9), .inl (cy, 8, .inl (fun _ => 0))), ((u_3 10), .inr (8, [.ref (u_3 11), .ref (u_3 12), .ref (u_3 13), .ref (u_3 14), .int 0])), ((u_3 11), .inl (cy, 8, .inl (fun _ => 0))), ((u_3 12), .inl (cy, 8, .inl (fun _ => 0))), ((u_3 13), .inl (cy, 8, .inl (fun _ => 0))), ((u_3 14), .inl (cy, 8, .inl (fun _ => 0))), ((u_3 15), .inr (4, [.ref (u_3 16), .ref (u_3 17), .ref (u_3 18), .int 0])), ((u_3 16), .inl (cy, 6, .inl (fun _ => 0))), ((u_3 17), .inl (cy, 6, .inl (fun _ => 0))), ((u_3 18), .inl (cy, 6, .inl (fun _ => 0))), ((u_3 19), .inr (2, [.ref (u_3 20), .ref (u_3 25), .ref (u_3 30), .int 0, .int 0, .int 0])), ((u_3 20), .inr (8, [.ref (u_3 21), .ref (u_3 22), .ref (u_3 23), .ref (u_3 24), .int 0])), ((u_3 21), .inl (cy, 8, .inl (fun _ => 0))), ((u_3 22), .inl (cy, 8, .inl (fun _ => 0))), ((u_3 23), .inl (cy, 8, .inl (fun _ => 0))), ((u_3 24), .inl (cy, 8, .inl (fun _ => 0))), ((u_3 25), .inr (8, [.ref (u_3 26), .ref (u_3 27), .ref (u_3 28), .ref (u_3 29), .int 0])), ((u_3 26), .inl (cy, 8, .inl (fun _ => 0))), ((u_3 27), .inl (cy, 8, .inl (fun _ => 0))), ((u_3 28), .inl (cy, 8, .inl (fun _ => 0))), ((u_3 29), .inl (cy, 8, .inl (fun _ => 0))), ((u_3 30), .inr (4, [.ref (u_3 31), .ref (u_3 32), .ref (u_3 33), .int 0])), ((u_3 31), .inl (cy, 6, .inl (fun _ => 0))), ((u_3 32), .inl (cy, 6, .inl (fun _ => 0))), ((u_3 33), .inl (cy, 6, .inl (fun _ => 0))), ((u_3 34), .inr (10, [.int 0, .int 0, .int 0])), ((u_3 35), .inr (9, [.ref (u_3 36), .ref (u_3 37), .ref (u_3 38), .ref (u_3 39), .int 0, .int 0, .int 0, .int 0])), ((u_3 36), .inr (10, [.int 0, .int 0, .int 0])), ((u_3 37), .inl (cy, 8, .inl (fun _ => 0))), ((u_3 38), .inl (cy, 8, .inl (fun _ => 0))), ((u_3 39), .inl (cy, 5, .inl (fun _ => 0))), (q_5, .inr (12, [.null, .int 0, .int 0, .int 0, .int 0, .int 0, .int 0, .int 0, .null, .null, .null, .null, .int 0, .null, .null, .null, .null, .int 0, .int 0, .int 0, .int 0, .null, .null, .int 0, .null, .null, .int 0, .int 0, .int 0, .int 0, .int 0, .int 0, .int 0, .int 0, .null, .null, .null, .null, .null, .null, .null, .null, .null, .long 0]))] H := hP
  have hD : va_D A [(q_1, .inr (11, [.ref (u_3 0), .ref (u_3 2), .ref (u_3 4), .ref (u_3 19), .ref (u_3 34), .ref (u_3 35), .null, .int 0, .int 0, .int 0])), ((u_3 0), .inr (6, [.ref (u_3 1), .int 0])), ((u_3 1), .inl (cy, 44, .inl (fun _ => 0))), ((u_3 2), .inr (6, [.ref (u_3 3), .int 0])), ((u_3 3), .inl (cy, 44, .inl (fun _ => 0))), ((u_3 4), .inr (2, [.ref (u_3 5), .ref (u_3 10), .ref (u_3 15), .int 0, .int 0, .int 0])), ((u_3 5), .inr (8, [.ref (u_3 6), .ref (u_3 7), .ref (u_3 8), .ref (u_3 9), .int 0])), ((u_3 6), .inl (cy, 8, .inl (fun _ => 0))), ((u_3 7), .inl (cy, 8, .inl (fun _ => 0))), ((u_3 8), .inl (cy, 8, .inl (fun _ => 0))), ((u_3 9), .inl (cy, 8, .inl (fun _ => 0))), ((u_3 10), .inr (8, [.ref (u_3 11), .ref (u_3 12), .ref (u_3 13), .ref (u_3 14), .int 0])), ((u_3 11), .inl (cy, 8, .inl (fun _ => 0))), ((u_3 12), .inl (cy, 8, .inl (fun _ => 0))), ((u_3 13), .inl (cy, 8, .inl (fun _ => 0))), ((u_3 14), .inl (cy, 8, .inl (fun _ => 0))), ((u_3 15), .inr (4, [.ref (u_3 16), .ref (u_3 17), .ref (u_3 18), .int 0])), ((u_3 16), .inl (cy, 6, .inl (fun _ => 0))), ((u_3 17), .inl (cy, 6, .inl (fun _ => 0))), ((u_3 18), .inl (cy, 6, .inl (fun _ => 0))), ((u_3 19), .inr (2, [.ref (u_3 20), .ref (u_3 25), .ref (u_3 30), .int 0, .int 0, .int 0])), ((u_3 20), .inr (8, [.ref (u_3 21), .ref (u_3 22), .ref (u_3 23), .ref (u_3 24), .int 0])), ((u_3 21), .inl (cy, 8, .inl (fun _ => 0))), ((u_3 22), .inl (cy, 8, .inl (fun _ => 0))), ((u_3 23), .inl (cy, 8, .inl (fun _ => 0))), ((u_3 24), .inl (cy, 8, .inl (fun _ => 0))), ((u_3 25), .inr (8, [.ref (u_3 26), .ref (u_3 27), .ref (u_3 28), .ref (u_3 29), .int 0])), ((u_3 26), .inl (cy, 8, .inl (fun _ => 0))), ((u_3 27), .inl (cy, 8, .inl (fun _ => 0))), ((u_3 28), .inl (cy, 8, .inl (fun _ => 0))), ((u_3 29), .inl (cy, 8, .inl (fun _ => 0))), ((u_3 30), .inr (4, [.ref (u_3 31), .ref (u_3 32), .ref (u_3 33), .int 0])), ((u_3 31), .inl (cy, 6, .inl (fun _ => 0))), ((u_3 32), .inl (cy, 6, .inl (fun _ => 0))), ((u_3 33), .inl (cy, 6, .inl (fun _ => 0))), ((u_3 34), .inr (10, [.int 0, .int 0, .int 0])), ((u_3 35), .inr (9, [.ref (u_3 36), .ref (u_3 37), .ref (u_3 38), .ref (u_3 39), .int 0, .int 0, .int 0, .int 0])), ((u_3 36), .inr (10, [.int 0, .int 0, .int 0])), ((u_3 37), .inl (cy, 8, .inl (fun _ => 0))), ((u_3 38), .inl (cy, 8, .inl (fun _ => 0))), ((u_3 39), .inl (cy, 5, .inl (fun _ => 0))), (q_5, .inr (12, [.null, .int 0, .int 0, .int 0, .int 0, .int 0, .int 0, .int 0, .null, .null, .null, .null, .int 0, .null, .null, .null, .null, .int 0, .int 0, .int 0, .int 0, .null, .null, .int 0, .null, .null, .int 0, .int 0, .int 0, .int 0, .int 0, .int 0, .int 0, .int 0, .null, .null, .null, .null, .null, .null, .null, .null, .null, .long 0]))] := hD
  refine lv_dup hx hb dL_law_11 rfl ?_
  refine wk_vI (As := []) (rest := [.ref q_5]) (wc := [(q_5, .inr (12, [.null, .int 0, .int 0, .int 0, .int 0, .int 0, .int 0, .int 0, .null, .null, .null, .null, .int 0, .null, .null, .null, .null, .int 0, .int 0, .int 0, .int 0, .null, .null, .int 0, .null, .null, .int 0, .int 0, .int 0, .int 0, .int 0, .int 0, .int 0, .int 0, .null, .null, .null, .null, .null, .null, .null, .null, .null, .long 0]))]) (wr := [(q_1, .inr (11, [.ref (u_3 0), .ref (u_3 2), .ref (u_3 4), .ref (u_3 19), .ref (u_3 34), .ref (u_3 35), .null, .int 0, .int 0, .int 0])), ((u_3 0), .inr (6, [.ref (u_3 1), .int 0])), ((u_3 1), .inl (cy, 44, .inl (fun _ => 0))), ((u_3 2), .inr (6, [.ref (u_3 3), .int 0])), ((u_3 3), .inl (cy, 44, .inl (fun _ => 0))), ((u_3 4), .inr (2, [.ref (u_3 5), .ref (u_3 10), .ref (u_3 15), .int 0, .int 0, .int 0])), ((u_3 5), .inr (8, [.ref (u_3 6), .ref (u_3 7), .ref (u_3 8), .ref (u_3 9), .int 0])), ((u_3 6), .inl (cy, 8, .inl (fun _ => 0))), ((u_3 7), .inl (cy, 8, .inl (fun _ => 0))), ((u_3 8), .inl (cy, 8, .inl (fun _ => 0))), ((u_3 9), .inl (cy, 8, .inl (fun _ => 0))), ((u_3 10), .inr (8, [.ref (u_3 11), .ref (u_3 12), .ref (u_3 13), .ref (u_3 14), .int 0])), ((u_3 11), .inl (cy, 8, .inl (fun _ => 0))), ((u_3 12), .inl (cy, 8, .inl (fun _ => 0))), ((u_3 13), .inl (cy, 8, .inl (fun _ => 0))), ((u_3 14), .inl (cy, 8, .inl (fun _ => 0))), ((u_3 15), .inr (4, [.ref (u_3 16), .ref (u_3 17), .ref (u_3 18), .int 0])), ((u_3 16), .inl (cy, 6, .inl (fun _ => 0))), ((u_3 17), .inl (cy, 6, .inl (fun _ => 0))), ((u_3 18), .inl (cy, 6, .inl (fun _ => 0))), ((u_3 19), .inr (2, [.ref (u_3 20), .ref (u_3 25), .ref (u_3 30), .int 0, .int 0, .int 0])), ((u_3 20), .inr (8, [.ref (u_3 21), .ref (u_3 22), .ref (u_3 23), .ref (u_3 24), .int 0])), ((u_3 21), .inl (cy, 8, .inl (fun _ => 0))), ((u_3 22), .inl (cy, 8, .inl (fun _ => 0))), ((u_3 23), .inl (cy, 8, .inl (fun _ => 0))), ((u_3 24), .inl (cy, 8, .inl (fun _ => 0))), ((u_3 25), .inr (8, [.ref (u_3 26), .ref (u_3 27), .ref (u_3 28), .ref (u_3 29), .int 0])), ((u_3 26), .inl (cy, 8, .inl (fun _ => 0))), ((u_3 27), .inl (cy, 8, .inl (fun _ => 0))), ((u_3 28), .inl (cy, 8, .inl (fun _ => 0))), ((u_3 29), .inl (cy, 8, .inl (fun _ => 0))), ((u_3 30), .inr (4, [.ref (u_3 31), .ref (u_3 32), .ref (u_3 33), .int 0])), ((u_3 31), .inl (cy, 6, .inl (fun _ => 0))), ((u_3 32), .inl (cy, 6, .inl (fun _ => 0))), ((u_3 33), .inl (cy, 6, .inl (fun _ => 0))), ((u_3 34), .inr (10, [.int 0, .int 0, .int 0])), ((u_3 35), .inr (9, [.ref (u_3 36), .ref (u_3 37), .ref (u_3 38), .ref (u_3 39), .int 0, .int 0, .int 0, .int 0])), ((u_3 36), .inr (10, [.int 0, .int 0, .int 0])), ((u_3 37), .inl (cy, 8, .inl (fun _ => 0))), ((u_3 38), .inl (cy, 8, .inl (fun _ => 0))), ((u_3 39), .inl (cy, 5, .inl (fun _ => 0)))]) (n := 0) (R := _) ⟨hx, hb, hml, hown, htb⟩ (c_X12_init l D cy q_5) tw_761 tw_759 tw_760 tw_71 rfl rfl rfl (by decide +kernel) ⟨Nat.le_of_ble_eq_true rfl, Nat.le_of_ble_eq_true rfl⟩ hK hP hD hS hA [41] [0, 1, 2, 3, 4, 5, 6, 7, 8, 9, 10, 11, 12, 13, 14, 15, 16, 17, 18, 19, 20, 21, 22, 23, 24, 25, 26, 27, 28, 29, 30, 31, 32, 33, 34, 35, 36, 37, 38, 39, 40] rfl rfl rfl rfl (by decide) rfl hl.1 rfl (Nat.le_of_ble_eq_true rfl) dL_law_12 ⟨Nat.le_of_ble_eq_true rfl, Nat.le_of_ble_eq_true rfl⟩ (fun u_7 H locs hw_8 hP hD hS => ?_)
  refine W.widen (k := 64) (n := 614) (by decide) (by decide) ?_
  have hP : va_P D classes [(q_1, .inr (11, [.ref (u_3 0), .ref (u_3 2), .ref (u_3 4), .ref (u_3 19), .ref (u_3 34), .ref (u_3 35), .null, .int 0, .int 0, .int 0])), ((u_3 0), .inr (6, [.ref (u_3 1), .int 0])), ((u_3 1), .inl (cy, 44, .inl (fun _ => 0))), ((u_3 2), .inr (6, [.ref (u_3 3), .int 0])), ((u_3 3), .inl (cy, 44, .inl (fun _ => 0))), ((u_3 4), .inr (2, [.ref (u_3 5), .ref (u_3 10), .ref (u_3 15), .int 0, .int 0, .int 0])), ((u_3 5), .inr (8, [.ref (u_3 6), .ref (u_3 7), .ref (u_3 8), .ref (u_3 9), .int 0])), ((u_3 6), .inl (cy, 8, .inl (fun _ => 0))), ((u_3 7), .inl (cy, 8, .inl (fun _ => 0))), ((u_3 8), .inl (cy, 8, .inl (fun _ => 0))), ((u_3 9), .inl (cy, 8, .inl (fun _ => 0))), ((u_3 10), .inr (8, [.ref (u_3 11), .ref (u_3 12), .ref (u_3 13), .ref (u_3 14), .int 0])), ((u_3 11), .inl (cy, 8, .inl (fun _ => 0))), ((u_3 12), .inl (cy, 8, .inl (fun _ => 0))), ((u_3 13), .inl (cy, 8, .inl (fun _ => 0))), ((u_3 14), .inl (cy, 8, .inl (fun _ => 0))), ((u_3 15), .inr (4, [.ref (u_3 16), .ref (u_3 17), .ref (u_3 18), .int 0])), ((u_3 16), .inl (cy, 6, .inl (fun _ => 0))), ((u_3 17), .inl (cy, 6, .inl (fun _ => 0))), ((u_3 18), .inl (cy, 6, .inl (fun _ => 0))), ((u_3 19), .inr (2, [.ref (u_3 20), .ref (u_3 25), .ref (u_3 30), .int 0, .int 0, .int 0])), ((u_3 20), .inr (8, [.ref (u_3 21), .ref (u_3 22), .ref (u_3 23), .ref (u_3 24), .int 0])), ((u_3 21), .inl (cy, 8, .inl (fun _ => 0))), ((u_3 22), .inl (cy, 8, .inl (fun _ => 0))), ((u_3 23), .inl (cy, 8, .inl (fun _ => 0))), ((u_3 24), .inl (cy, 8, .inl (fun _ => 0))), ((u_3 25), .inr (8, [.ref (u_3 26), .ref (u_3 27), .ref (u_3 28), .ref (u_3 29), .int 0])), ((u_3 26), .inl (cy, 8, .inl (fun _ => 0))), ((u_3 27), .inl (cy, 8, .inl (fun _ => 0))), ((u_3 28), .inl (cy, 8, .inl (fun _ => 0))), ((u_3 29), .inl (cy, 8, .inl (fun _ => 0))), ((u_3 30), .inr (4, [.ref (u_3 31), .ref (u_3 32), .ref (u_3 33), .int 0])), ((u_3 31), .inl (cy, 6, .inl (fun _ => 0))), ((u_3 32), .inl (cy, 6, .inl (fun _ => 0))), ((u_3 33), .inl (cy, 6, .inl (fun _ => 0))), ((u_3 34), .inr (10, [.int 0, .int 0, .int 0])), ((u_3 35), .inr (9, [.ref (u_3 36), .ref (u_3 37), .ref (u_3 38), .ref (u_3 39), .int 0, .int 0, .int 0, .int 0])), ((u_3 36), .inr (10, [.int 0, .int 0, .int 0])), ((u_3 37), .inl (cy, 8, .inl (fun _ => 0))), ((u_3 38), .inl (cy, 8, .inl (fun _ => 0))), ((u_3 39), .inl (cy, 5, .inl (fun _ => 0))), (q_5, .inr (12, [.ref (u_7 0), .int 0, .int 0, .int 0, .int 0, .int 0, .int 0, .int 0, .ref (u_7 1), .ref (u_7 2), .ref (u_7 3), .ref (u_7 4), .int 0, .ref (u_7 5), .ref (u_7 6), .ref (u_7 7), .ref (u_7 8), .int 0, .int 0, .int 0, .int 0, .ref (u_7 9), .ref (u_7 10), .int 0, .ref (u_7 11), .ref (u_7 12), .int 0, .int (-1), .int 0, .int 0, .int 0, .int 0, .int 0, .int 0, .ref (u_7 13), .ref (u_7 14), .ref (u_7 15), .ref (u_7 16), .ref (u_7 17), .ref (u_7 18), .ref (u_7 19), .ref (u_7 20), .ref (u_7 21), .long 0])), ((u_7 0), .inl (cy, 44, .inl (fun _ => 0))), ((u_7 1), .inl (cy, 8, .inl (fun _ => 0))), ((u_7 2), .inl (cy, 8, .inl (fun _ => 0))), ((u_7 3), .inl (cy, 8, .inl (fun _ => 0))), ((u_7 4), .inl (cy, 8, .inl (fun _ => 0))), ((u_7 5), .inl (cy, 8, .inl (fun _ => 0))), ((u_7 6), .inl (cy, 8, .inl (fun _ => 0))), ((u_7 7), .inl (cy, 8, .inl (fun _ => 0))), ((u_7 8), .inl (cy, 8, .inl (fun _ => 0))), ((u_7 9), .inl (cy, 8, .inl (fun _ => 0))), ((u_7 10), .inl (cy, 8, .inl (fun _ => 0))), ((u_7 11), .inl (cy, 18, .inl (fun _ => 0))), ((u_7 12), .inl (cy, 5, .inl (fun _ => 0))), ((u_7 13), .inl (cy, 8, .inl (fun _ => 0))), ((u_7 14), .inl (cy, 8, .inl (fun _ => 0))), ((u_7 15), .inl (cy, 8, .inl (fun _ => 0))), ((u_7 16), .inl (cy, 8, .inl (fun _ => 0))), ((u_7 17), .inl (cy, 8, .inl (fun _ => 0))), ((u_7 18), .inl (cy, 8, .inl (fun _ => 0))), ((u_7 19), .inl (cy, 8, .inl (fun _ => 0))), ((u_7 20), .inl (cy, 8, .inl (fun _ => 0))), ((u_7 21), .inl (cy, 18, .inl (fun _ => 0)))] H := hP
  have hD : va_D A [(q_1, .inr (11, [.ref (u_3 0), .ref (u_3 2), .ref (u_3 4), .ref (u_3 19), .ref (u_3 34), .ref (u_3 35), .null, .int 0, .int 0, .int 0])), ((u_3 0), .inr (6, [.ref (u_3 1), .int 0])), ((u_3 1), .inl (cy, 44, .inl (fun _ => 0))), ((u_3 2), .inr (6, [.ref (u_3 3), .int 0])), ((u_3 3), .inl (cy, 44, .inl (fun _ => 0))), ((u_3 4), .inr (2, [.ref (u_3 5), .ref (u_3 10), .ref (u_3 15), .int 0, .int 0, .int 0])), ((u_3 5), .inr (8, [.ref (u_3 6), .ref (u_3 7), .ref (u_3 8), .ref (u_3 9), .int 0])), ((u_3 6), .inl (cy, 8, .inl (fun _ => 0))), ((u_3 7), .inl (cy, 8, .inl (fun _ => 0))), ((u_3 8), .inl (cy, 8, .inl (fun _ => 0))), ((u_3 9), .inl (cy, 8, .inl (fun _ => 0))), ((u_3 10), .inr (8, [.ref (u_3 11), .ref (u_3 12), .ref (u_3 13), .ref (u_3 14), .int 0])), ((u_3 11), .inl (cy, 8, .inl (fun _ => 0))), ((u_3 12), .inl (cy, 8, .inl (fun _ => 0))), ((u_3 13), .inl (cy, 8, .inl (fun _ => 0))), ((u_3 14), .inl (cy, 8, .inl (fun _ => 0))), ((u_3 15), .inr (4, [.ref (u_3 16), .ref (u_3 17), .ref (u_3 18), .int 0])), ((u_3 16), .inl (cy, 6, .inl (fun _ => 0))), ((u_3 17), .inl (cy, 6, .inl (fun _ => 0))), ((u_3 18), .inl (cy, 6, .inl (fun _ => 0))), ((u_3 19), .inr (2, [.ref (u_3 20), .ref (u_3 25), .ref (u_3 30), .int 0, .int 0, .int 0])), ((u_3 20), .inr (8, [.ref (u_3 21), .ref (u_3 22), .ref (u_3 23), .ref (u_3 24), .int 0])), ((u_3 21), .inl (cy, 8, .inl (fun _ => 0))), ((u_3 22), .inl (cy, 8, .inl (fun _ => 0))), ((u_3 23), .inl (cy, 8, .inl (fun _ => 0))), ((u_3 24), .inl (cy, 8, .inl (fun _ => 0))), ((u_3 25), .inr (8, [.ref (u_3 26), .ref (u_3 27), .ref (u_3 28), .ref (u_3 29), .int 0])), ((u_3 26), .inl (cy, 8, .inl (fun _ => 0))), ((u_3 27), .inl (cy, 8, .inl (fun _ => 0))), ((u_3 28), .inl (cy, 8, .inl (fun _ => 0))), ((u_3 29), .inl (cy, 8, .inl (fun _ => 0))), ((u_3 30), .inr (4, [.ref (u_3 31), .ref (u_3 32), .ref (u_3 33), .int 0])), ((u_3 31), .inl (cy, 6, .inl (fun _ => 0))), ((u_3 32), .inl (cy, 6, .inl (fun _ => 0))), ((u_3 33), .inl (cy, 6, .inl (fun _ => 0))), ((u_3 34), .inr (10, [.int 0, .int 0, .int 0])), ((u_3 35), .inr (9, [.ref (u_3 36), .ref (u_3 37), .ref (u_3 38), .ref (u_3 39), .int 0, .int 0, .int 0, .int 0])), ((u_3 36), .inr (10, [.int 0, .int 0, .int 0])), ((u_3 37), .inl (cy, 8, .inl (fun _ => 0))), ((u_3 38), .inl (cy, 8, .inl (fun _ => 0))), ((u_3 39), .inl (cy, 5, .inl (fun _ => 0))), (q_5, .inr (12, [.ref (u_7 0), .int 0, .int 0, .int 0, .int 0, .int 0, .int 0, .int 0, .ref (u_7 1), .ref (u_7 2), .ref (u_7 3), .ref (u_7 4), .int 0, .ref (u_7 5), .ref (u_7 6), .ref (u_7 7), .ref (u_7 8), .int 0, .int 0, .int 0, .int 0, .ref (u_7 9), .ref (u_7 10), .int 0, .ref (u_7 11), .ref (u_7 12), .int 0, .int (-1), .int 0, .int 0, .int 0, .int 0, .int 0, .int 0, .ref (u_7 13), .ref (u_7 14), .ref (u_7 15), .ref (u_7 16), .ref (u_7 17), .ref (u_7 18), .ref (u_7 19), .ref (u_7 20), .ref (u_7 21), .long 0])), ((u_7 0), .inl (cy, 44, .inl (fun _ => 0))), ((u_7 1), .inl (cy, 8, .inl (fun _ => 0))), ((u_7 2), .inl (cy, 8, .inl (fun _ => 0))), ((u_7 3), .inl (cy, 8, .inl (fun _ => 0))), ((u_7 4), .inl (cy, 8, .inl (fun _ => 0))), ((u_7 5), .inl (cy, 8, .inl (fun _ => 0))), ((u_7 6), .inl (cy, 8, .inl (fun _ => 0))), ((u_7 7), .inl (cy, 8, .inl (fun _ => 0))), ((u_7 8), .inl (cy, 8, .inl (fun _ => 0))), ((u_7 9), .inl (cy, 8, .inl (fun _ => 0))), ((u_7 10), .inl (cy, 8, .inl (fun _ => 0))), ((u_7 11), .inl (cy, 18, .inl (fun _ => 0))), ((u_7 12), .inl (cy, 5, .inl (fun _ => 0))), ((u_7 13), .inl (cy, 8, .inl (fun _ => 0))), ((u_7 14), .inl (cy, 8, .inl (fun _ => 0))), ((u_7 15), .inl (cy, 8, .inl (fun _ => 0))), ((u_7 16), .inl (cy, 8, .inl (fun _ => 0))), ((u_7 17), .inl (cy, 8, .inl (fun _ => 0))), ((u_7 18), .inl (cy, 8, .inl (fun _ => 0))), ((u_7 19), .inl (cy, 8, .inl (fun _ => 0))), ((u_7 20), .inl (cy, 8, .inl (fun _ => 0))), ((u_7 21), .inl (cy, 18, .inl (fun _ => 0)))] := hD
  refine lv_astore_n (lv' := [(2, .ref q_5), (1, .ref q_1), (0, .ref b)]) hx hb dL_law_15 rfl hl (by decide) rfl (fun ls hl => ?_)
  refine lv_iconst (v := 0) hx hb dL_law_16 (by decide) ?_
  refine lv_istore_n (lv' := [(3, .int 0), (2, .ref q_5), (1, .ref q_1), (0, .ref b)]) hx hb dL_law_17 rfl hl (by decide) rfl (fun ls hl => ?_)
  have hP : va_P D classes [(q_1, .inr (11, [.ref (u_3 0), .ref (u_3 2), .ref (u_3 4), .ref (u_3 19), .ref (u_3 34), .ref (u_3 35), .null, .int 0, .int 0, .int 0])), ((u_3 0), .inr (6, [.ref (u_3 1), .int 0])), ((u_3 1), .inl (cy, 44, .inl (fun _ => 0))), ((u_3 4), .inr (2, [.ref (u_3 5), .ref (u_3 10), .ref (u_3 15), .int 0, .int 0, .int 0])), ((u_3 5), .inr (8, [.ref (u_3 6), .ref (u_3 7), .ref (u_3 8), .ref (u_3 9), .int 0])), ((u_3 10), .inr (8, [.ref (u_3 11), .ref (u_3 12), .ref (u_3 13), .ref (u_3 14), .int 0])), ((u_3 15), .inr (4, [.ref (u_3 16), .ref (u_3 17), .ref (u_3 18), .int 0])), (q_5, .inr (12, [.ref (u_7 0), .int 0, .int 0, .int 0, .int 0, .int 0, .int 0, .int 0, .ref (u_7 1), .ref (u_7 2), .ref (u_7 3), .ref (u_7 4), .int 0, .ref (u_7 5), .ref (u_7 6), .ref (u_7 7), .ref (u_7 8), .int 0, .int 0, .int 0, .int 0, .ref (u_7 9), .ref (u_7 10), .int 0, .ref (u_7 11), .ref (u_7 12), .int 0, .int (-1), .int 0, .int 0, .int 0, .int 0, .int 0, .int 0, .ref (u_7 13), .ref (u_7 14), .ref (u_7 15), .ref (u_7 16), .ref (u_7 17), .ref (u_7 18), .ref (u_7 19), .ref (u_7 20), .ref (u_7 21), .long 0])), ((u_7 0), .inl (cy, 44, .inl (fun _ => 0)))] H := wk_sub9 (is := [0, 1, 2, 5, 6, 11, 16, 41, 42]) hP rfl
  have hD : va_D A [(q_1, .inr (11, [.ref (u_3 0), .ref (u_3 2), .ref (u_3 4), .ref (u_3 19), .ref (u_3 34), .ref (u_3 35), .null, .int 0, .int 0, .int 0])), ((u_3 0), .inr (6, [.ref (u_3 1), .int 0])), ((u_3 1), .inl (cy, 44, .inl (fun _ => 0))), ((u_3 4), .inr (2, [.ref (u_3 5), .ref (u_3 10), .ref (u_3 15), .int 0, .int 0, .int 0])), ((u_3 5), .inr (8, [.ref (u_3 6), .ref (u_3 7), .ref (u_3 8), .ref (u_3 9), .int 0])), ((u_3 10), .inr (8, [.ref (u_3 11), .ref (u_3 12), .ref (u_3 13), .ref (u_3 14), .int 0])), ((u_3 15), .inr (4, [.ref (u_3 16), .ref (u_3 17), .ref (u_3 18), .int 0])), (q_5, .inr (12, [.ref (u_7 0), .int 0, .int 0, .int 0, .int 0, .int 0, .int 0, .int 0, .ref (u_7 1), .ref (u_7 2), .ref (u_7 3), .ref (u_7 4), .int 0, .ref (u_7 5), .ref (u_7 6), .ref (u_7 7), .ref (u_7 8), .int 0, .int 0, .int 0, .int 0, .ref (u_7 9), .ref (u_7 10), .int 0, .ref (u_7 11), .ref (u_7 12), .int 0, .int (-1), .int 0, .int 0, .int 0, .int 0, .int 0, .int 0, .ref (u_7 13), .ref (u_7 14), .ref (u_7 15), .ref (u_7 16), .ref (u_7 17), .ref (u_7 18), .ref (u_7 19), .ref (u_7 20), .ref (u_7 21), .long 0])), ((u_7 0), .inl (cy, 44, .inl (fun _ => 0)))] := hD.sub [0, 1, 2, 5, 6, 11, 16, 41, 42] rfl rfl
  rcases (show L = 0 ∨ L = 1 ∨ L = 2 ∨ L = 3 ∨ L = 4 by omega) with rfl | rfl | rfl | rfl | rfl
  · refine lv_iload_n hx hb dL_law_18 rfl (lv_at hl 0 rfl) ?_
    refine lv_aload_n hx hb dL_law_19 rfl (lv_at hl 3 rfl) ?_
    refine va_slen hx hb hX hbl hbA hS dL_law_20 ?_
    refine wk_toi (y := 0) rfl ?_
    refine lv_iconst (v := 4) hx hb dL_law_21 (by decide) ?_
    refine lv_isub hx hb dL_law_22 ?_
    refine wk_toi (show ((0 - 4) : Int32) = (-4) by decide) ?_
    refine lv_icmp_gt (tgt := 834) hx hb dL_law_23 (by decide) (fun _ => ?_) (fun c_9 => absurd (by decide) c_9)
    refine lv_iconst (v := 1) hx hb dL_law_834 (by decide) ?_
    refine va_forget (fun q hq => by have h9 := hS.2.2 q hq; rw [hAe] at h9; exact h9) ?_
    refine W.widen (k := 600000) (n := 7302250) (by decide) (by decide) ?_
    exact lw_ret hx hb hr hlocks dL_law_835
  · refine lv_iload_n hx hb dL_law_18 rfl (lv_at hl 0 rfl) ?_
    refine lv_aload_n hx hb dL_law_19 rfl (lv_at hl 3 rfl) ?_
    refine va_slen hx hb hX hbl hbA hS dL_law_20 ?_
    refine wk_toi (y := 1) rfl ?_
    refine lv_iconst (v := 4) hx hb dL_law_21 (by decide) ?_
    refine lv_isub hx hb dL_law_22 ?_
    refine wk_toi (show ((1 - 4) : Int32) = (-3) by decide) ?_
    refine lv_icmp_gt (tgt := 834) hx hb dL_law_23 (by decide) (fun _ => ?_) (fun c_10 => absurd (by decide) c_10)
    refine lv_iconst (v := 1) hx hb dL_law_834 (by decide) ?_
    refine va_forget (fun q hq => by have h9 := hS.2.2 q hq; rw [hAe] at h9; exact h9) ?_
    refine W.widen (k := 600000) (n := 7302250) (by decide) (by decide) ?_
    exact lw_ret hx hb hr hlocks dL_law_835
  · refine lv_iload_n hx hb dL_law_18 rfl (lv_at hl 0 rfl) ?_
    refine lv_aload_n hx hb dL_law_19 rfl (lv_at hl 3 rfl) ?_
    refine va_slen hx hb hX hbl hbA hS dL_law_20 ?_
    refine wk_toi (y := 2) rfl ?_
    refine lv_iconst (v := 4) hx hb dL_law_21 (by decide) ?_
    refine lv_isub hx hb dL_law_22 ?_
    refine wk_toi (show ((2 - 4) : Int32) = (-2) by decide) ?_
    refine lv_icmp_gt (tgt := 834) hx hb dL_law_23 (by decide) (fun _ => ?_) (fun c_11 => absurd (by decide) c_11)
    refine lv_iconst (v := 1) hx hb dL_law_834 (by decide) ?_
    refine va_forget (fun q hq => by have h9 := hS.2.2 q hq; rw [hAe] at h9; exact h9) ?_
    refine W.widen (k := 600000) (n := 7302250) (by decide) (by decide) ?_
    exact lw_ret hx hb hr hlocks dL_law_835
  · refine lv_iload_n hx hb dL_law_18 rfl (lv_at hl 0 rfl) ?_
    refine lv_aload_n hx hb dL_law_19 rfl (lv_at hl 3 rfl) ?_
    refine va_slen hx hb hX hbl hbA hS dL_law_20 ?_
    refine wk_toi (y := 3) rfl ?_
    refine lv_iconst (v := 4) hx hb dL_law_21 (by decide) ?_
    refine lv_isub hx hb dL_law_22 ?_
    refine wk_toi (show ((3 - 4) : Int32) = (-1) by decide) ?_
    refine lv_icmp_gt (tgt := 834) hx hb dL_law_23 (by decide) (fun _ => ?_) (fun c_12 => absurd (by decide) c_12)
    refine lv_iconst (v := 1) hx hb dL_law_834 (by decide) ?_
    refine va_forget (fun q hq => by have h9 := hS.2.2 q hq; rw [hAe] at h9; exact h9) ?_
    refine W.widen (k := 600000) (n := 7302250) (by decide) (by decide) ?_
    exact lw_ret hx hb hr hlocks dL_law_835
  · refine lv_iload_n hx hb dL_law_18 rfl (lv_at hl 0 rfl) ?_
    refine lv_aload_n hx hb dL_law_19 rfl (lv_at hl 3 rfl) ?_
    refine va_slen hx hb hX hbl hbA hS dL_law_20 ?_
    refine wk_toi (y := 4) rfl ?_
    refine lv_iconst (v := 4) hx hb dL_law_21 (by decide) ?_
    refine lv_isub hx hb dL_law_22 ?_
    refine wk_toi (show ((4 - 4) : Int32) = 0 by decide) ?_
    refine lv_icmp_gt (tgt := 834) hx hb dL_law_23 (by decide) (fun c_13 => absurd c_13 (by decide)) (fun _ => ?_)
    refine lv_aload_n hx hb dL_law_26 rfl (lv_at hl 3 rfl) ?_
    refine lv_iload_n hx hb dL_law_27 rfl (lv_at hl 0 rfl) ?_
    refine va_sld hx hb hX hbl hbA hS (show vp_in 0 4 by unfold vp_in; decide) dL_law_28 ?_
    refine wk_toi (y := xs 0) rfl ?_
    refine lv_bipush (v := 31) hx hb dL_law_29 (by decide) ?_
    refine lv_iand hx hb dL_law_31 ?_
    obtain ⟨j, hj, ej⟩ := wk_and31 (xs 0)
    refine wk_toi ej ?_
    rcases (show j = 0 ∨ j = 1 ∨ j = 2 ∨ j = 3 ∨ j = 4 ∨ j = 5 ∨ j = 6 ∨ j = 7 ∨ j = 8 ∨ j = 9 ∨ j = 10 ∨ j = 11 ∨ j = 12 ∨ j = 13 ∨ j = 14 ∨ j = 15 ∨ j = 16 ∨ j = 17 ∨ j = 18 ∨ j = 19 ∨ j = 20 ∨ j = 21 ∨ j = 22 ∨ j = 23 ∨ j = 24 ∨ j = 25 ∨ j = 26 ∨ j = 27 ∨ j = 28 ∨ j = 29 ∨ j = 30 ∨ j = 31 by omega) with rfl | rfl | rfl | rfl | rfl | rfl | rfl | rfl | rfl | rfl | rfl | rfl | rfl | rfl | rfl | rfl | rfl | rfl | rfl | rfl | rfl | rfl | rfl | rfl | rfl | rfl | rfl | rfl | rfl | rfl | rfl | rfl
    · refine wk_toi (show nI 0 = 0 from rfl) ?_
      refine lv_tableIn (off := 124) (tgt := 156) hx hb dL_law_32 (by decide) (by decide) (by decide) (by decide) ?_
      refine lv_aload_n hx hb dL_law_156 rfl (lv_at hl 2 rfl) ?_
      refine lv_aload_n hx hb dL_law_157 rfl (lv_at hl 3 rfl) ?_
      refine lv_iload_n hx hb dL_law_158 rfl (lv_at hl 0 rfl) ?_
      refine lv_iconst (v := 1) hx hb dL_law_159 (by decide) ?_
      refine lv_iadd hx hb dL_law_160 ?_
      refine wk_toi (show ((0 + 1) : Int32) = 1 by decide) ?_
      refine va_sld hx hb hX hbl hbA hS (show vp_in 1 4 by unfold vp_in; decide) dL_law_161 ?_
      refine wk_toi (y := xs 1) rfl ?_
      refine wk_iV (As := [.int (xs 1)]) (rest := []) (wc := [(q_1, .inr (11, [.ref (u_3 0), .ref (u_3 2), .ref (u_3 4), .ref (u_3 19), .ref (u_3 34), .ref (u_3 35), .null, .int 0, .int 0, .int 0])), ((u_3 0), .inr (6, [.ref (u_3 1), .int 0])), ((u_3 1), .inl (cy, 44, .inl (fun _ => 0)))]) (wr := [((u_3 4), .inr (2, [.ref (u_3 5), .ref (u_3 10), .ref (u_3 15), .int 0, .int 0, .int 0])), ((u_3 5), .inr (8, [.ref (u_3 6), .ref (u_3 7), .ref (u_3 8), .ref (u_3 9), .int 0])), ((u_3 10), .inr (8, [.ref (u_3 11), .ref (u_3 12), .ref (u_3 13), .ref (u_3 14), .int 0])), ((u_3 15), .inr (4, [.ref (u_3 16), .ref (u_3 17), .ref (u_3 18), .int 0])), (q_5, .inr (12, [.ref (u_7 0), .int 0, .int 0, .int 0, .int 0, .int 0, .int 0, .int 0, .ref (u_7 1), .ref (u_7 2), .ref (u_7 3), .ref (u_7 4), .int 0, .ref (u_7 5), .ref (u_7 6), .ref (u_7 7), .ref (u_7 8), .int 0, .int 0, .int 0, .int 0, .ref (u_7 9), .ref (u_7 10), .int 0, .ref (u_7 11), .ref (u_7 12), .int 0, .int (-1), .int 0, .int 0, .int 0, .int 0, .int 0, .int 0, .ref (u_7 13), .ref (u_7 14), .ref (u_7 15), .ref (u_7 16), .ref (u_7 17), .ref (u_7 18), .ref (u_7 19), .ref (u_7 20), .ref (u_7 21), .long 0])), ((u_7 0), .inl (cy, 44, .inl (fun _ => 0)))]) (n := 1) (R := _) ⟨hx, hb, hml, hown, htb⟩ (c_X11_letter l D cy q_1 (u_3 0) (u_3 2) (u_3 4) (u_3 19) (u_3 34) (u_3 35) (u_3 1) (xs 1) ) tw_286 tw_283 tw_284 tw_285 tw_64 rfl rfl (by decide +kernel) ⟨Nat.le_of_ble_eq_true rfl, Nat.le_of_ble_eq_true rfl⟩ hK hP hD hS hA [0, 1, 2] [3, 4, 5, 6, 7, 8] rfl rfl rfl rfl (by decide) 0 (ci := 11) rfl rfl rfl hl.1 rfl (Nat.le_of_ble_eq_true rfl) dL_law_162 ⟨Nat.le_of_ble_eq_true rfl, Nat.le_of_ble_eq_true rfl⟩ (fun r_14 u_15 H locs hw_16 hP hD hS => ?_)
      refine W.widen (k := 64) (n := 614) (by decide) (by decide) ?_
      have hw_16 : r_14 = if (1 ≤ (xs 1).toInt ∧ (xs 1).toInt ≤ 126) then 1 else (-102) := hw_16
      subst hw_16
      have hP : va_P D classes [((u_3 4), .inr (2, [.ref (u_3 5), .ref (u_3 10), .ref (u_3 15), .int 0, .int 0, .int 0])), ((u_3 5), .inr (8, [.ref (u_3 6), .ref (u_3 7), .ref (u_3 8), .ref (u_3 9), .int 0])), ((u_3 10), .inr (8, [.ref (u_3 11), .ref (u_3 12), .ref (u_3 13), .ref (u_3 14), .int 0])), ((u_3 15), .inr (4, [.ref (u_3 16), .ref (u_3 17), .ref (u_3 18), .int 0])), (q_5, .inr (12, [.ref (u_7 0), .int 0, .int 0, .int 0, .int 0, .int 0, .int 0, .int 0, .ref (u_7 1), .ref (u_7 2), .ref (u_7 3), .ref (u_7 4), .int 0, .ref (u_7 5), .ref (u_7 6), .ref (u_7 7), .ref (u_7 8), .int 0, .int 0, .int 0, .int 0, .ref (u_7 9), .ref (u_7 10), .int 0, .ref (u_7 11), .ref (u_7 12), .int 0, .int (-1), .int 0, .int 0, .int 0, .int 0, .int 0, .int 0, .ref (u_7 13), .ref (u_7 14), .ref (u_7 15), .ref (u_7 16), .ref (u_7 17), .ref (u_7 18), .ref (u_7 19), .ref (u_7 20), .ref (u_7 21), .long 0])), ((u_7 0), .inl (cy, 44, .inl (fun _ => 0)))] H := hP
      have hD : va_D A [((u_3 4), .inr (2, [.ref (u_3 5), .ref (u_3 10), .ref (u_3 15), .int 0, .int 0, .int 0])), ((u_3 5), .inr (8, [.ref (u_3 6), .ref (u_3 7), .ref (u_3 8), .ref (u_3 9), .int 0])), ((u_3 10), .inr (8, [.ref (u_3 11), .ref (u_3 12), .ref (u_3 13), .ref (u_3 14), .int 0])), ((u_3 15), .inr (4, [.ref (u_3 16), .ref (u_3 17), .ref (u_3 18), .int 0])), (q_5, .inr (12, [.ref (u_7 0), .int 0, .int 0, .int 0, .int 0, .int 0, .int 0, .int 0, .ref (u_7 1), .ref (u_7 2), .ref (u_7 3), .ref (u_7 4), .int 0, .ref (u_7 5), .ref (u_7 6), .ref (u_7 7), .ref (u_7 8), .int 0, .int 0, .int 0, .int 0, .ref (u_7 9), .ref (u_7 10), .int 0, .ref (u_7 11), .ref (u_7 12), .int 0, .int (-1), .int 0, .int 0, .int 0, .int 0, .int 0, .int 0, .ref (u_7 13), .ref (u_7 14), .ref (u_7 15), .ref (u_7 16), .ref (u_7 17), .ref (u_7 18), .ref (u_7 19), .ref (u_7 20), .ref (u_7 21), .long 0])), ((u_7 0), .inl (cy, 44, .inl (fun _ => 0)))] := hD
      refine lv_aload_n hx hb dL_law_165 rfl (lv_at hl 1 rfl) ?_
      refine lv_aload_n hx hb dL_law_166 rfl (lv_at hl 3 rfl) ?_
      refine lv_iload_n hx hb dL_law_167 rfl (lv_at hl 0 rfl) ?_
      refine lv_iconst (v := 1) hx hb dL_law_168 (by decide) ?_
      refine lv_iadd hx hb dL_law_169 ?_
      refine wk_toi (show ((0 + 1) : Int32) = 1 by decide) ?_
      refine va_sld hx hb hX hbl hbA hS (show vp_in 1 4 by unfold vp_in; decide) dL_law_170 ?_
      refine wk_toi (y := xs 1) rfl ?_
      refine wk_iV (As := [.int (xs 1)]) (rest := [.int (if (1 ≤ (xs 1).toInt ∧ (xs 1).toInt ≤ 126) then 1 else (-102))]) (wc := [(q_5, .inr (12, [.ref (u_7 0), .int 0, .int 0, .int 0, .int 0, .int 0, .int 0, .int 0, .ref (u_7 1), .ref (u_7 2), .ref (u_7 3), .ref (u_7 4), .int 0, .ref (u_7 5), .ref (u_7 6), .ref (u_7 7), .ref (u_7 8), .int 0, .int 0, .int 0, .int 0, .ref (u_7 9), .ref (u_7 10), .int 0, .ref (u_7 11), .ref (u_7 12), .int 0, .int (-1), .int 0, .int 0, .int 0, .int 0, .int 0, .int 0, .ref (u_7 13), .ref (u_7 14), .ref (u_7 15), .ref (u_7 16), .ref (u_7 17), .ref (u_7 18), .ref (u_7 19), .ref (u_7 20), .ref (u_7 21), .long 0])), ((u_7 0), .inl (cy, 44, .inl (fun _ => 0)))]) (wr := [((u_3 4), .inr (2, [.ref (u_3 5), .ref (u_3 10), .ref (u_3 15), .int 0, .int 0, .int 0])), ((u_3 5), .inr (8, [.ref (u_3 6), .ref (u_3 7), .ref (u_3 8), .ref (u_3 9), .int 0])), ((u_3 10), .inr (8, [.ref (u_3 11), .ref (u_3 12), .ref (u_3 13), .ref (u_3 14), .int 0])), ((u_3 15), .inr (4, [.ref (u_3 16), .ref (u_3 17), .ref (u_3 18), .int 0]))]) (n := 1) (R := _) ⟨hx, hb, hml, hown, htb⟩ (c_X12_letter l D cy q_5 (u_7 0) (u_7 1) (u_7 2) (u_7 3) (u_7 4) (u_7 5) (u_7 6) (u_7 7) (u_7 8) (u_7 9) (u_7 10) (u_7 11) (u_7 12) (u_7 13) (u_7 14) (u_7 15) (u_7 16) (u_7 17) (u_7 18) (u_7 19) (u_7 20) (u_7 21) (xs 1) 0) tw_899 tw_896 tw_897 tw_898 tw_71 rfl rfl (by decide +kernel) ⟨Nat.le_of_ble_eq_true rfl, Nat.le_of_ble_eq_true rfl⟩ hK hP hD hS hA [4, 5] [0, 1, 2, 3] rfl rfl rfl rfl (by decide) 0 (ci := 12) rfl rfl rfl hl.1 rfl (Nat.le_of_ble_eq_true rfl) dL_law_171 ⟨Nat.le_of_ble_eq_true rfl, Nat.le_of_ble_eq_true rfl⟩ (fun r_17 u_18 H locs hw_19 hP hD hS => ?_)
      refine W.widen (k := 64) (n := 614) (by decide) (by decide) ?_
      have hw_19 : r_17 = if (1 ≤ (xs 1).toInt ∧ (xs 1).toInt ≤ 126) then 1 else (-102) := hw_19
      subst hw_19
      have hP : va_P D classes [((u_3 4), .inr (2, [.ref (u_3 5), .ref (u_3 10), .ref (u_3 15), .int 0, .int 0, .int 0])), ((u_3 5), .inr (8, [.ref (u_3 6), .ref (u_3 7), .ref (u_3 8), .ref (u_3 9), .int 0])), ((u_3 10), .inr (8, [.ref (u_3 11), .ref (u_3 12), .ref (u_3 13), .ref (u_3 14), .int 0])), ((u_3 15), .inr (4, [.ref (u_3 16), .ref (u_3 17), .ref (u_3 18), .int 0]))] H := hP
      have hD : va_D A [((u_3 4), .inr (2, [.ref (u_3 5), .ref (u_3 10), .ref (u_3 15), .int 0, .int 0, .int 0])), ((u_3 5), .inr (8, [.ref (u_3 6), .ref (u_3 7), .ref (u_3 8), .ref (u_3 9), .int 0])), ((u_3 10), .inr (8, [.ref (u_3 11), .ref (u_3 12), .ref (u_3 13), .ref (u_3 14), .int 0])), ((u_3 15), .inr (4, [.ref (u_3 16), .ref (u_3 17), .ref (u_3 18), .int 0]))] := hD
      refine lv_icmp_eq (tgt := 828) hx hb dL_law_174 (by decide) (fun c_20 => ?_) (fun c_20 => absurd rfl c_20)
      refine lv_iinc (v := 4) (lv' := [(3, .int 4), (2, .ref q_5), (1, .ref q_1), (0, .ref b)]) hx hb dL_law_828 hl (k := 0) rfl (by decide) (by decide) rfl (fun ls hl => ?_)
      refine lv_goto (tgt := 18) hx hb dL_law_831 (by decide) ?_
      refine lv_iload_n hx hb dL_law_18 rfl (lv_at hl 0 rfl) ?_
      refine lv_aload_n hx hb dL_law_19 rfl (lv_at hl 3 rfl) ?_
      refine va_slen hx hb hX hbl hbA hS dL_law_20 ?_
      refine wk_toi (y := 4) rfl ?_
      refine lv_iconst (v := 4) hx hb dL_law_21 (by decide) ?_
      refine lv_isub hx hb dL_law_22 ?_
      refine wk_toi (show ((4 - 4) : Int32) = 0 by decide) ?_
      refine lv_icmp_gt (tgt := 834) hx hb dL_law_23 (by decide) (fun _ => ?_) (fun c_21 => absurd (by decide) c_21)
      refine lv_iconst (v := 1) hx hb dL_law_834 (by decide) ?_
      refine va_forget (fun q hq => by have h9 := hS.2.2 q hq; rw [hAe] at h9; exact h9) ?_
      refine W.widen (k := 600000) (n := 7302250) (by decide) (by decide) ?_
      exact lw_ret hx hb hr hlocks dL_law_835
    · refine wk_toi (show nI 1 = 1 from rfl) ?_
      refine lv_tableIn (off := 147) (tgt := 179) hx hb dL_law_32 (by decide) (by decide) (by decide) (by decide) ?_
      refine lv_aload_n hx hb dL_law_179 rfl (lv_at hl 2 rfl) ?_
      refine wk_iV (As := []) (rest := []) (wc := [(q_1, .inr (11, [.ref (u_3 0), .ref (u_3 2), .ref (u_3 4), .ref (u_3 19), .ref (u_3 34), .ref (u_3 35), .null, .int 0, .int 0, .int 0])), ((u_3 0), .inr (6, [.ref (u_3 1), .int 0]))]) (wr := [((u_3 1), .inl (cy, 44, .inl (fun _ => 0))), ((u_3 4), .inr (2, [.ref (u_3 5), .ref (u_3 10), .ref (u_3 15), .int 0, .int 0, .int 0])), ((u_3 5), .inr (8, [.ref (u_3 6), .ref (u_3 7), .ref (u_3 8), .ref (u_3 9), .int 0])), ((u_3 10), .inr (8, [.ref (u_3 11), .ref (u_3 12), .ref (u_3 13), .ref (u_3 14), .int 0])), ((u_3 15), .inr (4, [.ref (u_3 16), .ref (u_3 17), .ref (u_3 18), .int 0])), (q_5, .inr (12, [.ref (u_7 0), .int 0, .int 0, .int 0, .int 0, .int 0, .int 0, .int 0, .ref (u_7 1), .ref (u_7 2), .ref (u_7 3), .ref (u_7 4), .int 0, .ref (u_7 5), .ref (u_7 6), .ref (u_7 7), .ref (u_7 8), .int 0, .int 0, .int 0, .int 0, .ref (u_7 9), .ref (u_7 10), .int 0, .ref (u_7 11), .ref (u_7 12), .int 0, .int (-1), .int 0, .int 0, .int 0, .int 0, .int 0, .int 0, .ref (u_7 13), .ref (u_7 14), .ref (u_7 15), .ref (u_7 16), .ref (u_7 17), .ref (u_7 18), .ref (u_7 19), .ref (u_7 20), .ref (u_7 21), .long 0])), ((u_7 0), .inl (cy, 44, .inl (fun _ => 0)))]) (n := 0) (R := _) ⟨hx, hb, hml, hown, htb⟩ (c_X11_blank l D cy q_1 (u_3 0) (u_3 2) (u_3 4) (u_3 19) (u_3 34) (u_3 35) (u_3 1)  ) tw_294 tw_291 tw_292 tw_293 tw_64 rfl rfl (by decide +kernel) ⟨Nat.le_of_ble_eq_true rfl, Nat.le_of_ble_eq_true rfl⟩ hK hP hD hS hA [0, 1] [2, 3, 4, 5, 6, 7, 8] rfl rfl rfl rfl (by decide) 0 (ci := 11) rfl rfl rfl hl.1 rfl (Nat.le_of_ble_eq_true rfl) dL_law_180 ⟨Nat.le_of_ble_eq_true rfl, Nat.le_of_ble_eq_true rfl⟩ (fun r_22 u_23 H locs hw_24 hP hD hS => ?_)
      refine W.widen (k := 64) (n := 614) (by decide) (by decide) ?_
      have hw_24 : r_22 = 0 := hw_24
      subst hw_24
      have hP : va_P D classes [((u_3 1), .inl (cy, 44, .inl (fun _ => 0))), ((u_3 4), .inr (2, [.ref (u_3 5), .ref (u_3 10), .ref (u_3 15), .int 0, .int 0, .int 0])), ((u_3 5), .inr (8, [.ref (u_3 6), .ref (u_3 7), .ref (u_3 8), .ref (u_3 9), .int 0])), ((u_3 10), .inr (8, [.ref (u_3 11), .ref (u_3 12), .ref (u_3 13), .ref (u_3 14), .int 0])), ((u_3 15), .inr (4, [.ref (u_3 16), .ref (u_3 17), .ref (u_3 18), .int 0])), (q_5, .inr (12, [.ref (u_7 0), .int 0, .int 0, .int 0, .int 0, .int 0, .int 0, .int 0, .ref (u_7 1), .ref (u_7 2), .ref (u_7 3), .ref (u_7 4), .int 0, .ref (u_7 5), .ref (u_7 6), .ref (u_7 7), .ref (u_7 8), .int 0, .int 0, .int 0, .int 0, .ref (u_7 9), .ref (u_7 10), .int 0, .ref (u_7 11), .ref (u_7 12), .int 0, .int (-1), .int 0, .int 0, .int 0, .int 0, .int 0, .int 0, .ref (u_7 13), .ref (u_7 14), .ref (u_7 15), .ref (u_7 16), .ref (u_7 17), .ref (u_7 18), .ref (u_7 19), .ref (u_7 20), .ref (u_7 21), .long 0])), ((u_7 0), .inl (cy, 44, .inl (fun _ => 0)))] H := hP
      have hD : va_D A [((u_3 1), .inl (cy, 44, .inl (fun _ => 0))), ((u_3 4), .inr (2, [.ref (u_3 5), .ref (u_3 10), .ref (u_3 15), .int 0, .int 0, .int 0])), ((u_3 5), .inr (8, [.ref (u_3 6), .ref (u_3 7), .ref (u_3 8), .ref (u_3 9), .int 0])), ((u_3 10), .inr (8, [.ref (u_3 11), .ref (u_3 12), .ref (u_3 13), .ref (u_3 14), .int 0])), ((u_3 15), .inr (4, [.ref (u_3 16), .ref (u_3 17), .ref (u_3 18), .int 0])), (q_5, .inr (12, [.ref (u_7 0), .int 0, .int 0, .int 0, .int 0, .int 0, .int 0, .int 0, .ref (u_7 1), .ref (u_7 2), .ref (u_7 3), .ref (u_7 4), .int 0, .ref (u_7 5), .ref (u_7 6), .ref (u_7 7), .ref (u_7 8), .int 0, .int 0, .int 0, .int 0, .ref (u_7 9), .ref (u_7 10), .int 0, .ref (u_7 11), .ref (u_7 12), .int 0, .int (-1), .int 0, .int 0, .int 0, .int 0, .int 0, .int 0, .ref (u_7 13), .ref (u_7 14), .ref (u_7 15), .ref (u_7 16), .ref (u_7 17), .ref (u_7 18), .ref (u_7 19), .ref (u_7 20), .ref (u_7 21), .long 0])), ((u_7 0), .inl (cy, 44, .inl (fun _ => 0)))] := hD
      refine lv_aload_n hx hb dL_law_183 rfl (lv_at hl 1 rfl) ?_
      refine wk_iV (As := []) (rest := [.int 0]) (wc := [(q_5, .inr (12, [.ref (u_7 0), .int 0, .int 0, .int 0, .int 0, .int 0, .int 0, .int 0, .ref (u_7 1), .ref (u_7 2), .ref (u_7 3), .ref (u_7 4), .int 0, .ref (u_7 5), .ref (u_7 6), .ref (u_7 7), .ref (u_7 8), .int 0, .int 0, .int 0, .int 0, .ref (u_7 9), .ref (u_7 10), .int 0, .ref (u_7 11), .ref (u_7 12), .int 0, .int (-1), .int 0, .int 0, .int 0, .int 0, .int 0, .int 0, .ref (u_7 13), .ref (u_7 14), .ref (u_7 15), .ref (u_7 16), .ref (u_7 17), .ref (u_7 18), .ref (u_7 19), .ref (u_7 20), .ref (u_7 21), .long 0]))]) (wr := [((u_3 1), .inl (cy, 44, .inl (fun _ => 0))), ((u_3 4), .inr (2, [.ref (u_3 5), .ref (u_3 10), .ref (u_3 15), .int 0, .int 0, .int 0])), ((u_3 5), .inr (8, [.ref (u_3 6), .ref (u_3 7), .ref (u_3 8), .ref (u_3 9), .int 0])), ((u_3 10), .inr (8, [.ref (u_3 11), .ref (u_3 12), .ref (u_3 13), .ref (u_3 14), .int 0])), ((u_3 15), .inr (4, [.ref (u_3 16), .ref (u_3 17), .ref (u_3 18), .int 0])), ((u_7 0), .inl (cy, 44, .inl (fun _ => 0)))]) (n := 0) (R := _) ⟨hx, hb, hml, hown, htb⟩ (c_X12_blank l D cy q_5 (u_7 0) (u_7 1) (u_7 2) (u_7 3) (u_7 4) (u_7 5) (u_7 6) (u_7 7) (u_7 8) (u_7 9) (u_7 10) (u_7 11) (u_7 12) (u_7 13) (u_7 14) (u_7 15) (u_7 16) (u_7 17) (u_7 18) (u_7 19) (u_7 20) (u_7 21)  0) tw_907 tw_904 tw_905 tw_906 tw_71 rfl rfl (by decide +kernel) ⟨Nat.le_of_ble_eq_true rfl, Nat.le_of_ble_eq_true rfl⟩ hK hP hD hS hA [5] [0, 1, 2, 3, 4, 6] rfl rfl rfl rfl (by decide) 0 (ci := 12) rfl rfl rfl hl.1 rfl (Nat.le_of_ble_eq_true rfl) dL_law_184 ⟨Nat.le_of_ble_eq_true rfl, Nat.le_of_ble_eq_true rfl⟩ (fun r_25 u_26 H locs hw_27 hP hD hS => ?_)
      refine W.widen (k := 64) (n := 614) (by decide) (by decide) ?_
      have hw_27 : r_25 = 0 := hw_27
      subst hw_27
      have hP : va_P D classes [((u_3 1), .inl (cy, 44, .inl (fun _ => 0))), ((u_3 4), .inr (2, [.ref (u_3 5), .ref (u_3 10), .ref (u_3 15), .int 0, .int 0, .int 0])), ((u_3 5), .inr (8, [.ref (u_3 6), .ref (u_3 7), .ref (u_3 8), .ref (u_3 9), .int 0])), ((u_3 10), .inr (8, [.ref (u_3 11), .ref (u_3 12), .ref (u_3 13), .ref (u_3 14), .int 0])), ((u_3 15), .inr (4, [.ref (u_3 16), .ref (u_3 17), .ref (u_3 18), .int 0])), ((u_7 0), .inl (cy, 44, .inl (fun _ => 0)))] H := hP
      have hD : va_D A [((u_3 1), .inl (cy, 44, .inl (fun _ => 0))), ((u_3 4), .inr (2, [.ref (u_3 5), .ref (u_3 10), .ref (u_3 15), .int 0, .int 0, .int 0])), ((u_3 5), .inr (8, [.ref (u_3 6), .ref (u_3 7), .ref (u_3 8), .ref (u_3 9), .int 0])), ((u_3 10), .inr (8, [.ref (u_3 11), .ref (u_3 12), .ref (u_3 13), .ref (u_3 14), .int 0])), ((u_3 15), .inr (4, [.ref (u_3 16), .ref (u_3 17), .ref (u_3 18), .int 0])), ((u_7 0), .inl (cy, 44, .inl (fun _ => 0)))] := hD
      refine lv_icmp_eq (tgt := 828) hx hb dL_law_187 (by decide) (fun c_28 => ?_) (fun c_28 => absurd rfl c_28)
      refine lv_iinc (v := 4) (lv' := [(3, .int 4), (2, .ref q_5), (1, .ref q_1), (0, .ref b)]) hx hb dL_law_828 hl (k := 0) rfl (by decide) (by decide) rfl (fun ls hl => ?_)
      refine lv_goto (tgt := 18) hx hb dL_law_831 (by decide) ?_
      refine lv_iload_n hx hb dL_law_18 rfl (lv_at hl 0 rfl) ?_
      refine lv_aload_n hx hb dL_law_19 rfl (lv_at hl 3 rfl) ?_
      refine va_slen hx hb hX hbl hbA hS dL_law_20 ?_
      refine wk_toi (y := 4) rfl ?_
      refine lv_iconst (v := 4) hx hb dL_law_21 (by decide) ?_
      refine lv_isub hx hb dL_law_22 ?_
      refine wk_toi (show ((4 - 4) : Int32) = 0 by decide) ?_
      refine lv_icmp_gt (tgt := 834) hx hb dL_law_23 (by decide) (fun _ => ?_) (fun c_29 => absurd (by decide) c_29)
      refine lv_iconst (v := 1) hx hb dL_law_834 (by decide) ?_
      refine va_forget (fun q hq => by have h9 := hS.2.2 q hq; rw [hAe] at h9; exact h9) ?_
      refine W.widen (k := 600000) (n := 7302250) (by decide) (by decide) ?_
      exact lw_ret hx hb hr hlocks dL_law_835
    · refine wk_toi (show nI 2 = 2 from rfl) ?_
      refine lv_tableIn (off := 160) (tgt := 192) hx hb dL_law_32 (by decide) (by decide) (by decide) (by decide) ?_
      refine lv_aload_n hx hb dL_law_192 rfl (lv_at hl 2 rfl) ?_
      refine wk_iV (As := []) (rest := []) (wc := [(q_1, .inr (11, [.ref (u_3 0), .ref (u_3 2), .ref (u_3 4), .ref (u_3 19), .ref (u_3 34), .ref (u_3 35), .null, .int 0, .int 0, .int 0])), ((u_3 0), .inr (6, [.ref (u_3 1), .int 0]))]) (wr := [((u_3 1), .inl (cy, 44, .inl (fun _ => 0))), ((u_3 4), .inr (2, [.ref (u_3 5), .ref (u_3 10), .ref (u_3 15), .int 0, .int 0, .int 0])), ((u_3 5), .inr (8, [.ref (u_3 6), .ref (u_3 7), .ref (u_3 8), .ref (u_3 9), .int 0])), ((u_3 10), .inr (8, [.ref (u_3 11), .ref (u_3 12), .ref (u_3 13), .ref (u_3 14), .int 0])), ((u_3 15), .inr (4, [.ref (u_3 16), .ref (u_3 17), .ref (u_3 18), .int 0])), (q_5, .inr (12, [.ref (u_7 0), .int 0, .int 0, .int 0, .int 0, .int 0, .int 0, .int 0, .ref (u_7 1), .ref (u_7 2), .ref (u_7 3), .ref (u_7 4), .int 0, .ref (u_7 5), .ref (u_7 6), .ref (u_7 7), .ref (u_7 8), .int 0, .int 0, .int 0, .int 0, .ref (u_7 9), .ref (u_7 10), .int 0, .ref (u_7 11), .ref (u_7 12), .int 0, .int (-1), .int 0, .int 0, .int 0, .int 0, .int 0, .int 0, .ref (u_7 13), .ref (u_7 14), .ref (u_7 15), .ref (u_7 16), .ref (u_7 17), .ref (u_7 18), .ref (u_7 19), .ref (u_7 20), .ref (u_7 21), .long 0])), ((u_7 0), .inl (cy, 44, .inl (fun _ => 0)))]) (n := 0) (R := _) ⟨hx, hb, hml, hown, htb⟩ (c_X11_fault l D cy q_1 (u_3 0) (u_3 2) (u_3 4) (u_3 19) (u_3 34) (u_3 35) (u_3 1)  ) tw_302 tw_299 tw_300 tw_301 tw_64 rfl rfl (by decide +kernel) ⟨Nat.le_of_ble_eq_true rfl, Nat.le_of_ble_eq_true rfl⟩ hK hP hD hS hA [0, 1] [2, 3, 4, 5, 6, 7, 8] rfl rfl rfl rfl (by decide) 0 (ci := 11) rfl rfl rfl hl.1 rfl (Nat.le_of_ble_eq_true rfl) dL_law_193 ⟨Nat.le_of_ble_eq_true rfl, Nat.le_of_ble_eq_true rfl⟩ (fun r_30 u_31 H locs hw_32 hP hD hS => ?_)
      refine W.widen (k := 64) (n := 614) (by decide) (by decide) ?_
      have hw_32 : r_30 = 0 := hw_32
      subst hw_32
      have hP : va_P D classes [((u_3 1), .inl (cy, 44, .inl (fun _ => 0))), ((u_3 4), .inr (2, [.ref (u_3 5), .ref (u_3 10), .ref (u_3 15), .int 0, .int 0, .int 0])), ((u_3 5), .inr (8, [.ref (u_3 6), .ref (u_3 7), .ref (u_3 8), .ref (u_3 9), .int 0])), ((u_3 10), .inr (8, [.ref (u_3 11), .ref (u_3 12), .ref (u_3 13), .ref (u_3 14), .int 0])), ((u_3 15), .inr (4, [.ref (u_3 16), .ref (u_3 17), .ref (u_3 18), .int 0])), (q_5, .inr (12, [.ref (u_7 0), .int 0, .int 0, .int 0, .int 0, .int 0, .int 0, .int 0, .ref (u_7 1), .ref (u_7 2), .ref (u_7 3), .ref (u_7 4), .int 0, .ref (u_7 5), .ref (u_7 6), .ref (u_7 7), .ref (u_7 8), .int 0, .int 0, .int 0, .int 0, .ref (u_7 9), .ref (u_7 10), .int 0, .ref (u_7 11), .ref (u_7 12), .int 0, .int (-1), .int 0, .int 0, .int 0, .int 0, .int 0, .int 0, .ref (u_7 13), .ref (u_7 14), .ref (u_7 15), .ref (u_7 16), .ref (u_7 17), .ref (u_7 18), .ref (u_7 19), .ref (u_7 20), .ref (u_7 21), .long 0])), ((u_7 0), .inl (cy, 44, .inl (fun _ => 0))), (q_1, .inr (11, [.ref (u_3 0), .ref (u_3 2), .ref (u_3 4), .ref (u_3 19), .ref (u_3 34), .ref (u_3 35), .null, .int 0, .int 0, .int 0])), ((u_3 0), .inr (6, [.ref (u_3 1), .int 0]))] H := hP
      have hD : va_D A [((u_3 1), .inl (cy, 44, .inl (fun _ => 0))), ((u_3 4), .inr (2, [.ref (u_3 5), .ref (u_3 10), .ref (u_3 15), .int 0, .int 0, .int 0])), ((u_3 5), .inr (8, [.ref (u_3 6), .ref (u_3 7), .ref (u_3 8), .ref (u_3 9), .int 0])), ((u_3 10), .inr (8, [.ref (u_3 11), .ref (u_3 12), .ref (u_3 13), .ref (u_3 14), .int 0])), ((u_3 15), .inr (4, [.ref (u_3 16), .ref (u_3 17), .ref (u_3 18), .int 0])), (q_5, .inr (12, [.ref (u_7 0), .int 0, .int 0, .int 0, .int 0, .int 0, .int 0, .int 0, .ref (u_7 1), .ref (u_7 2), .ref (u_7 3), .ref (u_7 4), .int 0, .ref (u_7 5), .ref (u_7 6), .ref (u_7 7), .ref (u_7 8), .int 0, .int 0, .int 0, .int 0, .ref (u_7 9), .ref (u_7 10), .int 0, .ref (u_7 11), .ref (u_7 12), .int 0, .int (-1), .int 0, .int 0, .int 0, .int 0, .int 0, .int 0, .ref (u_7 13), .ref (u_7 14), .ref (u_7 15), .ref (u_7 16), .ref (u_7 17), .ref (u_7 18), .ref (u_7 19), .ref (u_7 20), .ref (u_7 21), .long 0])), ((u_7 0), .inl (cy, 44, .inl (fun _ => 0))), (q_1, .inr (11, [.ref (u_3 0), .ref (u_3 2), .ref (u_3 4), .ref (u_3 19), .ref (u_3 34), .ref (u_3 35), .null, .int 0, .int 0, .int 0])), ((u_3 0), .inr (6, [.ref (u_3 1), .int 0]))] := hD
      refine lv_aload_n hx hb dL_law_196 rfl (lv_at hl 1 rfl) ?_
      refine wk_iV (As := []) (rest := [.int 0]) (wc := [(q_5, .inr (12, [.ref (u_7 0), .int 0, .int 0, .int 0, .int 0, .int 0, .int 0, .int 0, .ref (u_7 1), .ref (u_7 2), .ref (u_7 3), .ref (u_7 4), .int 0, .ref (u_7 5), .ref (u_7 6), .ref (u_7 7), .ref (u_7 8), .int 0, .int 0, .int 0, .int 0, .ref (u_7 9), .ref (u_7 10), .int 0, .ref (u_7 11), .ref (u_7 12), .int 0, .int (-1), .int 0, .int 0, .int 0, .int 0, .int 0, .int 0, .ref (u_7 13), .ref (u_7 14), .ref (u_7 15), .ref (u_7 16), .ref (u_7 17), .ref (u_7 18), .ref (u_7 19), .ref (u_7 20), .ref (u_7 21), .long 0]))]) (wr := [((u_3 1), .inl (cy, 44, .inl (fun _ => 0))), ((u_3 4), .inr (2, [.ref (u_3 5), .ref (u_3 10), .ref (u_3 15), .int 0, .int 0, .int 0])), ((u_3 5), .inr (8, [.ref (u_3 6), .ref (u_3 7), .ref (u_3 8), .ref (u_3 9), .int 0])), ((u_3 10), .inr (8, [.ref (u_3 11), .ref (u_3 12), .ref (u_3 13), .ref (u_3 14), .int 0])), ((u_3 15), .inr (4, [.ref (u_3 16), .ref (u_3 17), .ref (u_3 18), .int 0])), ((u_7 0), .inl (cy, 44, .inl (fun _ => 0))), (q_1, .inr (11, [.ref (u_3 0), .ref (u_3 2), .ref (u_3 4), .ref (u_3 19), .ref (u_3 34), .ref (u_3 35), .null, .int 0, .int 0, .int 0])), ((u_3 0), .inr (6, [.ref (u_3 1), .int 0]))]) (n := 0) (R := _) ⟨hx, hb, hml, hown, htb⟩ (c_X12_fault l D cy q_5 (u_7 0) (u_7 1) (u_7 2) (u_7 3) (u_7 4) (u_7 5) (u_7 6) (u_7 7) (u_7 8) (u_7 9) (u_7 10) (u_7 11) (u_7 12) (u_7 13) (u_7 14) (u_7 15) (u_7 16) (u_7 17) (u_7 18) (u_7 19) (u_7 20) (u_7 21)  0) tw_911 tw_908 tw_909 tw_910 tw_71 rfl rfl (by decide +kernel) ⟨Nat.le_of_ble_eq_true rfl, Nat.le_of_ble_eq_true rfl⟩ hK hP hD hS hA [5] [0, 1, 2, 3, 4, 6, 7, 8] rfl rfl rfl rfl (by decide) 0 (ci := 12) rfl rfl rfl hl.1 rfl (Nat.le_of_ble_eq_true rfl) dL_law_197 ⟨Nat.le_of_ble_eq_true rfl, Nat.le_of_ble_eq_true rfl⟩ (fun r_33 u_34 H locs hw_35 hP hD hS => ?_)
      refine W.widen (k := 64) (n := 614) (by decide) (by decide) ?_
      have hw_35 : r_33 = 0 := hw_35
      subst hw_35
      have hP : va_P D classes [((u_3 1), .inl (cy, 44, .inl (fun _ => 0))), ((u_3 4), .inr (2, [.ref (u_3 5), .ref (u_3 10), .ref (u_3 15), .int 0, .int 0, .int 0])), ((u_3 5), .inr (8, [.ref (u_3 6), .ref (u_3 7), .ref (u_3 8), .ref (u_3 9), .int 0])), ((u_3 10), .inr (8, [.ref (u_3 11), .ref (u_3 12), .ref (u_3 13), .ref (u_3 14), .int 0])), ((u_3 15), .inr (4, [.ref (u_3 16), .ref (u_3 17), .ref (u_3 18), .int 0])), ((u_7 0), .inl (cy, 44, .inl (fun _ => 0))), (q_1, .inr (11, [.ref (u_3 0), .ref (u_3 2), .ref (u_3 4), .ref (u_3 19), .ref (u_3 34), .ref (u_3 35), .null, .int 0, .int 0, .int 0])), ((u_3 0), .inr (6, [.ref (u_3 1), .int 0])), (q_5, .inr (12, [.ref (u_7 0), .int 0, .int 0, .int 0, .int 0, .int 0, .int 0, .int 0, .ref (u_7 1), .ref (u_7 2), .ref (u_7 3), .ref (u_7 4), .int 0, .ref (u_7 5), .ref (u_7 6), .ref (u_7 7), .ref (u_7 8), .int 0, .int 0, .int 0, .int 0, .ref (u_7 9), .ref (u_7 10), .int 0, .ref (u_7 11), .ref (u_7 12), .int 0, .int (-1), .int 0, .int 0, .int 0, .int 0, .int 0, .int 0, .ref (u_7 13), .ref (u_7 14), .ref (u_7 15), .ref (u_7 16), .ref (u_7 17), .ref (u_7 18), .ref (u_7 19), .ref (u_7 20), .ref (u_7 21), .long 0]))] H := hP
      have hD : va_D A [((u_3 1), .inl (cy, 44, .inl (fun _ => 0))), ((u_3 4), .inr (2, [.ref (u_3 5), .ref (u_3 10), .ref (u_3 15), .int 0, .int 0, .int 0])), ((u_3 5), .inr (8, [.ref (u_3 6), .ref (u_3 7), .ref (u_3 8), .ref (u_3 9), .int 0])), ((u_3 10), .inr (8, [.ref (u_3 11), .ref (u_3 12), .ref (u_3 13), .ref (u_3 14), .int 0])), ((u_3 15), .inr (4, [.ref (u_3 16), .ref (u_3 17), .ref (u_3 18), .int 0])), ((u_7 0), .inl (cy, 44, .inl (fun _ => 0))), (q_1, .inr (11, [.ref (u_3 0), .ref (u_3 2), .ref (u_3 4), .ref (u_3 19), .ref (u_3 34), .ref (u_3 35), .null, .int 0, .int 0, .int 0])), ((u_3 0), .inr (6, [.ref (u_3 1), .int 0])), (q_5, .inr (12, [.ref (u_7 0), .int 0, .int 0, .int 0, .int 0, .int 0, .int 0, .int 0, .ref (u_7 1), .ref (u_7 2), .ref (u_7 3), .ref (u_7 4), .int 0, .ref (u_7 5), .ref (u_7 6), .ref (u_7 7), .ref (u_7 8), .int 0, .int 0, .int 0, .int 0, .ref (u_7 9), .ref (u_7 10), .int 0, .ref (u_7 11), .ref (u_7 12), .int 0, .int (-1), .int 0, .int 0, .int 0, .int 0, .int 0, .int 0, .ref (u_7 13), .ref (u_7 14), .ref (u_7 15), .ref (u_7 16), .ref (u_7 17), .ref (u_7 18), .ref (u_7 19), .ref (u_7 20), .ref (u_7 21), .long 0]))] := hD
      refine lv_icmp_eq (tgt := 828) hx hb dL_law_200 (by decide) (fun c_36 => ?_) (fun c_36 => absurd rfl c_36)
      refine lv_iinc (v := 4) (lv' := [(3, .int 4), (2, .ref q_5), (1, .ref q_1), (0, .ref b)]) hx hb dL_law_828 hl (k := 0) rfl (by decide) (by decide) rfl (fun ls hl => ?_)
      refine lv_goto (tgt := 18) hx hb dL_law_831 (by decide) ?_
      refine lv_iload_n hx hb dL_law_18 rfl (lv_at hl 0 rfl) ?_
      refine lv_aload_n hx hb dL_law_19 rfl (lv_at hl 3 rfl) ?_
      refine va_slen hx hb hX hbl hbA hS dL_law_20 ?_
      refine wk_toi (y := 4) rfl ?_
      refine lv_iconst (v := 4) hx hb dL_law_21 (by decide) ?_
      refine lv_isub hx hb dL_law_22 ?_
      refine wk_toi (show ((4 - 4) : Int32) = 0 by decide) ?_
      refine lv_icmp_gt (tgt := 834) hx hb dL_law_23 (by decide) (fun _ => ?_) (fun c_37 => absurd (by decide) c_37)
      refine lv_iconst (v := 1) hx hb dL_law_834 (by decide) ?_
      refine va_forget (fun q hq => by have h9 := hS.2.2 q hq; rw [hAe] at h9; exact h9) ?_
      refine W.widen (k := 600000) (n := 7302250) (by decide) (by decide) ?_
      exact lw_ret hx hb hr hlocks dL_law_835
    · refine wk_toi (show nI 3 = 3 from rfl) ?_
      refine lv_tableIn (off := 173) (tgt := 205) hx hb dL_law_32 (by decide) (by decide) (by decide) (by decide) ?_
      refine lv_aload_n hx hb dL_law_205 rfl (lv_at hl 2 rfl) ?_
      refine wk_iV (As := []) (rest := []) (wc := [(q_1, .inr (11, [.ref (u_3 0), .ref (u_3 2), .ref (u_3 4), .ref (u_3 19), .ref (u_3 34), .ref (u_3 35), .null, .int 0, .int 0, .int 0])), ((u_3 0), .inr (6, [.ref (u_3 1), .int 0]))]) (wr := [((u_3 1), .inl (cy, 44, .inl (fun _ => 0))), ((u_3 4), .inr (2, [.ref (u_3 5), .ref (u_3 10), .ref (u_3 15), .int 0, .int 0, .int 0])), ((u_3 5), .inr (8, [.ref (u_3 6), .ref (u_3 7), .ref (u_3 8), .ref (u_3 9), .int 0])), ((u_3 10), .inr (8, [.ref (u_3 11), .ref (u_3 12), .ref (u_3 13), .ref (u_3 14), .int 0])), ((u_3 15), .inr (4, [.ref (u_3 16), .ref (u_3 17), .ref (u_3 18), .int 0])), (q_5, .inr (12, [.ref (u_7 0), .int 0, .int 0, .int 0, .int 0, .int 0, .int 0, .int 0, .ref (u_7 1), .ref (u_7 2), .ref (u_7 3), .ref (u_7 4), .int 0, .ref (u_7 5), .ref (u_7 6), .ref (u_7 7), .ref (u_7 8), .int 0, .int 0, .int 0, .int 0, .ref (u_7 9), .ref (u_7 10), .int 0, .ref (u_7 11), .ref (u_7 12), .int 0, .int (-1), .int 0, .int 0, .int 0, .int 0, .int 0, .int 0, .ref (u_7 13), .ref (u_7 14), .ref (u_7 15), .ref (u_7 16), .ref (u_7 17), .ref (u_7 18), .ref (u_7 19), .ref (u_7 20), .ref (u_7 21), .long 0])), ((u_7 0), .inl (cy, 44, .inl (fun _ => 0)))]) (n := 0) (R := _) ⟨hx, hb, hml, hown, htb⟩ (c_X11_row l D cy q_1 (u_3 0) (u_3 2) (u_3 4) (u_3 19) (u_3 34) (u_3 35) (u_3 1)  ) tw_326 tw_323 tw_324 tw_325 tw_64 rfl rfl (by decide +kernel) ⟨Nat.le_of_ble_eq_true rfl, Nat.le_of_ble_eq_true rfl⟩ hK hP hD hS hA [0, 1] [2, 3, 4, 5, 6, 7, 8] rfl rfl rfl rfl (by decide) 0 (ci := 11) rfl rfl rfl hl.1 rfl (Nat.le_of_ble_eq_true rfl) dL_law_206 ⟨Nat.le_of_ble_eq_true rfl, Nat.le_of_ble_eq_true rfl⟩ (fun r_38 u_39 H locs hw_40 hP hD hS => ?_)
      refine W.widen (k := 64) (n := 614) (by decide) (by decide) ?_
      have hw_40 : r_38 = (-103) := hw_40
      subst hw_40
      have hP : va_P D classes [((u_3 1), .inl (cy, 44, .inl (fun _ => 0))), ((u_3 4), .inr (2, [.ref (u_3 5), .ref (u_3 10), .ref (u_3 15), .int 0, .int 0, .int 0])), ((u_3 5), .inr (8, [.ref (u_3 6), .ref (u_3 7), .ref (u_3 8), .ref (u_3 9), .int 0])), ((u_3 10), .inr (8, [.ref (u_3 11), .ref (u_3 12), .ref (u_3 13), .ref (u_3 14), .int 0])), ((u_3 15), .inr (4, [.ref (u_3 16), .ref (u_3 17), .ref (u_3 18), .int 0])), (q_5, .inr (12, [.ref (u_7 0), .int 0, .int 0, .int 0, .int 0, .int 0, .int 0, .int 0, .ref (u_7 1), .ref (u_7 2), .ref (u_7 3), .ref (u_7 4), .int 0, .ref (u_7 5), .ref (u_7 6), .ref (u_7 7), .ref (u_7 8), .int 0, .int 0, .int 0, .int 0, .ref (u_7 9), .ref (u_7 10), .int 0, .ref (u_7 11), .ref (u_7 12), .int 0, .int (-1), .int 0, .int 0, .int 0, .int 0, .int 0, .int 0, .ref (u_7 13), .ref (u_7 14), .ref (u_7 15), .ref (u_7 16), .ref (u_7 17), .ref (u_7 18), .ref (u_7 19), .ref (u_7 20), .ref (u_7 21), .long 0])), ((u_7 0), .inl (cy, 44, .inl (fun _ => 0))), (q_1, .inr (11, [.ref (u_3 0), .ref (u_3 2), .ref (u_3 4), .ref (u_3 19), .ref (u_3 34), .ref (u_3 35), .null, .int 0, .int 0, .int 0])), ((u_3 0), .inr (6, [.ref (u_3 1), .int 0]))] H := hP
      have hD : va_D A [((u_3 1), .inl (cy, 44, .inl (fun _ => 0))), ((u_3 4), .inr (2, [.ref (u_3 5), .ref (u_3 10), .ref (u_3 15), .int 0, .int 0, .int 0])), ((u_3 5), .inr (8, [.ref (u_3 6), .ref (u_3 7), .ref (u_3 8), .ref (u_3 9), .int 0])), ((u_3 10), .inr (8, [.ref (u_3 11), .ref (u_3 12), .ref (u_3 13), .ref (u_3 14), .int 0])), ((u_3 15), .inr (4, [.ref (u_3 16), .ref (u_3 17), .ref (u_3 18), .int 0])), (q_5, .inr (12, [.ref (u_7 0), .int 0, .int 0, .int 0, .int 0, .int 0, .int 0, .int 0, .ref (u_7 1), .ref (u_7 2), .ref (u_7 3), .ref (u_7 4), .int 0, .ref (u_7 5), .ref (u_7 6), .ref (u_7 7), .ref (u_7 8), .int 0, .int 0, .int 0, .int 0, .ref (u_7 9), .ref (u_7 10), .int 0, .ref (u_7 11), .ref (u_7 12), .int 0, .int (-1), .int 0, .int 0, .int 0, .int 0, .int 0, .int 0, .ref (u_7 13), .ref (u_7 14), .ref (u_7 15), .ref (u_7 16), .ref (u_7 17), .ref (u_7 18), .ref (u_7 19), .ref (u_7 20), .ref (u_7 21), .long 0])), ((u_7 0), .inl (cy, 44, .inl (fun _ => 0))), (q_1, .inr (11, [.ref (u_3 0), .ref (u_3 2), .ref (u_3 4), .ref (u_3 19), .ref (u_3 34), .ref (u_3 35), .null, .int 0, .int 0, .int 0])), ((u_3 0), .inr (6, [.ref (u_3 1), .int 0]))] := hD
      refine lv_aload_n hx hb dL_law_209 rfl (lv_at hl 1 rfl) ?_
      refine wk_iV (As := []) (rest := [.int (-103)]) (wc := [(q_5, .inr (12, [.ref (u_7 0), .int 0, .int 0, .int 0, .int 0, .int 0, .int 0, .int 0, .ref (u_7 1), .ref (u_7 2), .ref (u_7 3), .ref (u_7 4), .int 0, .ref (u_7 5), .ref (u_7 6), .ref (u_7 7), .ref (u_7 8), .int 0, .int 0, .int 0, .int 0, .ref (u_7 9), .ref (u_7 10), .int 0, .ref (u_7 11), .ref (u_7 12), .int 0, .int (-1), .int 0, .int 0, .int 0, .int 0, .int 0, .int 0, .ref (u_7 13), .ref (u_7 14), .ref (u_7 15), .ref (u_7 16), .ref (u_7 17), .ref (u_7 18), .ref (u_7 19), .ref (u_7 20), .ref (u_7 21), .long 0])), ((u_7 0), .inl (cy, 44, .inl (fun _ => 0)))]) (wr := [((u_3 1), .inl (cy, 44, .inl (fun _ => 0))), ((u_3 4), .inr (2, [.ref (u_3 5), .ref (u_3 10), .ref (u_3 15), .int 0, .int 0, .int 0])), ((u_3 5), .inr (8, [.ref (u_3 6), .ref (u_3 7), .ref (u_3 8), .ref (u_3 9), .int 0])), ((u_3 10), .inr (8, [.ref (u_3 11), .ref (u_3 12), .ref (u_3 13), .ref (u_3 14), .int 0])), ((u_3 15), .inr (4, [.ref (u_3 16), .ref (u_3 17), .ref (u_3 18), .int 0])), (q_1, .inr (11, [.ref (u_3 0), .ref (u_3 2), .ref (u_3 4), .ref (u_3 19), .ref (u_3 34), .ref (u_3 35), .null, .int 0, .int 0, .int 0])), ((u_3 0), .inr (6, [.ref (u_3 1), .int 0]))]) (n := 0) (R := _) ⟨hx, hb, hml, hown, htb⟩ (c_X12_row l D cy q_5 (u_7 0) (u_7 1) (u_7 2) (u_7 3) (u_7 4) (u_7 5) (u_7 6) (u_7 7) (u_7 8) (u_7 9) (u_7 10) (u_7 11) (u_7 12) (u_7 13) (u_7 14) (u_7 15) (u_7 16) (u_7 17) (u_7 18) (u_7 19) (u_7 20) (u_7 21)  0) tw_942 tw_939 tw_940 tw_941 tw_71 rfl rfl (by decide +kernel) ⟨Nat.le_of_ble_eq_true rfl, Nat.le_of_ble_eq_true rfl⟩ hK hP hD hS hA [5, 6] [0, 1, 2, 3, 4, 7, 8] rfl rfl rfl rfl (by decide) 0 (ci := 12) rfl rfl rfl hl.1 rfl (Nat.le_of_ble_eq_true rfl) dL_law_210 ⟨Nat.le_of_ble_eq_true rfl, Nat.le_of_ble_eq_true rfl⟩ (fun r_41 u_42 H locs hw_43 hP hD hS => ?_)
      refine W.widen (k := 64) (n := 614) (by decide) (by decide) ?_
      have hw_43 : r_41 = (-103) := hw_43
      subst hw_43
      have hP : va_P D classes [((u_3 1), .inl (cy, 44, .inl (fun _ => 0))), ((u_3 4), .inr (2, [.ref (u_3 5), .ref (u_3 10), .ref (u_3 15), .int 0, .int 0, .int 0])), ((u_3 5), .inr (8, [.ref (u_3 6), .ref (u_3 7), .ref (u_3 8), .ref (u_3 9), .int 0])), ((u_3 10), .inr (8, [.ref (u_3 11), .ref (u_3 12), .ref (u_3 13), .ref (u_3 14), .int 0])), ((u_3 15), .inr (4, [.ref (u_3 16), .ref (u_3 17), .ref (u_3 18), .int 0])), (q_1, .inr (11, [.ref (u_3 0), .ref (u_3 2), .ref (u_3 4), .ref (u_3 19), .ref (u_3 34), .ref (u_3 35), .null, .int 0, .int 0, .int 0])), ((u_3 0), .inr (6, [.ref (u_3 1), .int 0])), (q_5, .inr (12, [.ref (u_7 0), .int 0, .int 0, .int 0, .int 0, .int 0, .int 0, .int 0, .ref (u_7 1), .ref (u_7 2), .ref (u_7 3), .ref (u_7 4), .int 0, .ref (u_7 5), .ref (u_7 6), .ref (u_7 7), .ref (u_7 8), .int 0, .int 0, .int 0, .int 0, .ref (u_7 9), .ref (u_7 10), .int 0, .ref (u_7 11), .ref (u_7 12), .int 0, .int (-1), .int 0, .int 0, .int 0, .int 0, .int 0, .int 0, .ref (u_7 13), .ref (u_7 14), .ref (u_7 15), .ref (u_7 16), .ref (u_7 17), .ref (u_7 18), .ref (u_7 19), .ref (u_7 20), .ref (u_7 21), .long 0])), ((u_7 0), .inl (cy, 44, .inl (fun _ => 0)))] H := hP
      have hD : va_D A [((u_3 1), .inl (cy, 44, .inl (fun _ => 0))), ((u_3 4), .inr (2, [.ref (u_3 5), .ref (u_3 10), .ref (u_3 15), .int 0, .int 0, .int 0])), ((u_3 5), .inr (8, [.ref (u_3 6), .ref (u_3 7), .ref (u_3 8), .ref (u_3 9), .int 0])), ((u_3 10), .inr (8, [.ref (u_3 11), .ref (u_3 12), .ref (u_3 13), .ref (u_3 14), .int 0])), ((u_3 15), .inr (4, [.ref (u_3 16), .ref (u_3 17), .ref (u_3 18), .int 0])), (q_1, .inr (11, [.ref (u_3 0), .ref (u_3 2), .ref (u_3 4), .ref (u_3 19), .ref (u_3 34), .ref (u_3 35), .null, .int 0, .int 0, .int 0])), ((u_3 0), .inr (6, [.ref (u_3 1), .int 0])), (q_5, .inr (12, [.ref (u_7 0), .int 0, .int 0, .int 0, .int 0, .int 0, .int 0, .int 0, .ref (u_7 1), .ref (u_7 2), .ref (u_7 3), .ref (u_7 4), .int 0, .ref (u_7 5), .ref (u_7 6), .ref (u_7 7), .ref (u_7 8), .int 0, .int 0, .int 0, .int 0, .ref (u_7 9), .ref (u_7 10), .int 0, .ref (u_7 11), .ref (u_7 12), .int 0, .int (-1), .int 0, .int 0, .int 0, .int 0, .int 0, .int 0, .ref (u_7 13), .ref (u_7 14), .ref (u_7 15), .ref (u_7 16), .ref (u_7 17), .ref (u_7 18), .ref (u_7 19), .ref (u_7 20), .ref (u_7 21), .long 0])), ((u_7 0), .inl (cy, 44, .inl (fun _ => 0)))] := hD
      refine lv_icmp_eq (tgt := 828) hx hb dL_law_213 (by decide) (fun c_44 => ?_) (fun c_44 => absurd rfl c_44)
      refine lv_iinc (v := 4) (lv' := [(3, .int 4), (2, .ref q_5), (1, .ref q_1), (0, .ref b)]) hx hb dL_law_828 hl (k := 0) rfl (by decide) (by decide) rfl (fun ls hl => ?_)
      refine lv_goto (tgt := 18) hx hb dL_law_831 (by decide) ?_
      refine lv_iload_n hx hb dL_law_18 rfl (lv_at hl 0 rfl) ?_
      refine lv_aload_n hx hb dL_law_19 rfl (lv_at hl 3 rfl) ?_
      refine va_slen hx hb hX hbl hbA hS dL_law_20 ?_
      refine wk_toi (y := 4) rfl ?_
      refine lv_iconst (v := 4) hx hb dL_law_21 (by decide) ?_
      refine lv_isub hx hb dL_law_22 ?_
      refine wk_toi (show ((4 - 4) : Int32) = 0 by decide) ?_
      refine lv_icmp_gt (tgt := 834) hx hb dL_law_23 (by decide) (fun _ => ?_) (fun c_45 => absurd (by decide) c_45)
      refine lv_iconst (v := 1) hx hb dL_law_834 (by decide) ?_
      refine va_forget (fun q hq => by have h9 := hS.2.2 q hq; rw [hAe] at h9; exact h9) ?_
      refine W.widen (k := 600000) (n := 7302250) (by decide) (by decide) ?_
      exact lw_ret hx hb hr hlocks dL_law_835
    · refine wk_toi (show nI 4 = 4 from rfl) ?_
      refine lv_tableIn (off := 186) (tgt := 218) hx hb dL_law_32 (by decide) (by decide) (by decide) (by decide) ?_
      refine lv_aload_n hx hb dL_law_218 rfl (lv_at hl 2 rfl) ?_
      refine lv_aload_n hx hb dL_law_219 rfl (lv_at hl 3 rfl) ?_
      refine lv_iload_n hx hb dL_law_220 rfl (lv_at hl 0 rfl) ?_
      refine lv_iconst (v := 1) hx hb dL_law_221 (by decide) ?_
      refine lv_iadd hx hb dL_law_222 ?_
      refine wk_toi (show ((0 + 1) : Int32) = 1 by decide) ?_
      refine va_sld hx hb hX hbl hbA hS (show vp_in 1 4 by unfold vp_in; decide) dL_law_223 ?_
      refine wk_toi (y := xs 1) rfl ?_
      refine wk_iV (As := [.int (xs 1)]) (rest := []) (wc := [(q_1, .inr (11, [.ref (u_3 0), .ref (u_3 2), .ref (u_3 4), .ref (u_3 19), .ref (u_3 34), .ref (u_3 35), .null, .int 0, .int 0, .int 0]))]) (wr := [((u_3 0), .inr (6, [.ref (u_3 1), .int 0])), ((u_3 1), .inl (cy, 44, .inl (fun _ => 0))), ((u_3 4), .inr (2, [.ref (u_3 5), .ref (u_3 10), .ref (u_3 15), .int 0, .int 0, .int 0])), ((u_3 5), .inr (8, [.ref (u_3 6), .ref (u_3 7), .ref (u_3 8), .ref (u_3 9), .int 0])), ((u_3 10), .inr (8, [.ref (u_3 11), .ref (u_3 12), .ref (u_3 13), .ref (u_3 14), .int 0])), ((u_3 15), .inr (4, [.ref (u_3 16), .ref (u_3 17), .ref (u_3 18), .int 0])), (q_5, .inr (12, [.ref (u_7 0), .int 0, .int 0, .int 0, .int 0, .int 0, .int 0, .int 0, .ref (u_7 1), .ref (u_7 2), .ref (u_7 3), .ref (u_7 4), .int 0, .ref (u_7 5), .ref (u_7 6), .ref (u_7 7), .ref (u_7 8), .int 0, .int 0, .int 0, .int 0, .ref (u_7 9), .ref (u_7 10), .int 0, .ref (u_7 11), .ref (u_7 12), .int 0, .int (-1), .int 0, .int 0, .int 0, .int 0, .int 0, .int 0, .ref (u_7 13), .ref (u_7 14), .ref (u_7 15), .ref (u_7 16), .ref (u_7 17), .ref (u_7 18), .ref (u_7 19), .ref (u_7 20), .ref (u_7 21), .long 0])), ((u_7 0), .inl (cy, 44, .inl (fun _ => 0)))]) (n := 1) (R := _) ⟨hx, hb, hml, hown, htb⟩ (c_X11_tape l D cy q_1 (u_3 0) (u_3 2) (u_3 4) (u_3 19) (u_3 34) (u_3 35) (xs 1) ) tw_423 tw_420 tw_421 tw_422 tw_64 rfl rfl (by decide +kernel) ⟨Nat.le_of_ble_eq_true rfl, Nat.le_of_ble_eq_true rfl⟩ hK hP hD hS hA [0] [1, 2, 3, 4, 5, 6, 7, 8] rfl rfl rfl rfl (by decide) 0 (ci := 11) rfl rfl rfl hl.1 rfl (Nat.le_of_ble_eq_true rfl) dL_law_224 ⟨Nat.le_of_ble_eq_true rfl, Nat.le_of_ble_eq_true rfl⟩ (fun r_46 u_47 H locs hw_48 hP hD hS => ?_)
      refine W.widen (k := 64) (n := 614) (by decide) (by decide) ?_
      have hw_48 : r_46 = if (0 ≤ (xs 1).toInt ∧ (xs 1).toInt ≤ 50) then (-103) else (-102) := hw_48
      subst hw_48
      have hP : va_P D classes [((u_3 0), .inr (6, [.ref (u_3 1), .int 0])), ((u_3 1), .inl (cy, 44, .inl (fun _ => 0))), ((u_3 4), .inr (2, [.ref (u_3 5), .ref (u_3 10), .ref (u_3 15), .int 0, .int 0, .int 0])), ((u_3 5), .inr (8, [.ref (u_3 6), .ref (u_3 7), .ref (u_3 8), .ref (u_3 9), .int 0])), ((u_3 10), .inr (8, [.ref (u_3 11), .ref (u_3 12), .ref (u_3 13), .ref (u_3 14), .int 0])), ((u_3 15), .inr (4, [.ref (u_3 16), .ref (u_3 17), .ref (u_3 18), .int 0])), (q_5, .inr (12, [.ref (u_7 0), .int 0, .int 0, .int 0, .int 0, .int 0, .int 0, .int 0, .ref (u_7 1), .ref (u_7 2), .ref (u_7 3), .ref (u_7 4), .int 0, .ref (u_7 5), .ref (u_7 6), .ref (u_7 7), .ref (u_7 8), .int 0, .int 0, .int 0, .int 0, .ref (u_7 9), .ref (u_7 10), .int 0, .ref (u_7 11), .ref (u_7 12), .int 0, .int (-1), .int 0, .int 0, .int 0, .int 0, .int 0, .int 0, .ref (u_7 13), .ref (u_7 14), .ref (u_7 15), .ref (u_7 16), .ref (u_7 17), .ref (u_7 18), .ref (u_7 19), .ref (u_7 20), .ref (u_7 21), .long 0])), ((u_7 0), .inl (cy, 44, .inl (fun _ => 0))), (q_1, .inr (11, [.ref (u_3 0), .ref (u_3 2), .ref (u_3 4), .ref (u_3 19), .ref (u_3 34), .ref (u_3 35), .null, .int 0, .int 0, .int 0]))] H := hP
      have hD : va_D A [((u_3 0), .inr (6, [.ref (u_3 1), .int 0])), ((u_3 1), .inl (cy, 44, .inl (fun _ => 0))), ((u_3 4), .inr (2, [.ref (u_3 5), .ref (u_3 10), .ref (u_3 15), .int 0, .int 0, .int 0])), ((u_3 5), .inr (8, [.ref (u_3 6), .ref (u_3 7), .ref (u_3 8), .ref (u_3 9), .int 0])), ((u_3 10), .inr (8, [.ref (u_3 11), .ref (u_3 12), .ref (u_3 13), .ref (u_3 14), .int 0])), ((u_3 15), .inr (4, [.ref (u_3 16), .ref (u_3 17), .ref (u_3 18), .int 0])), (q_5, .inr (12, [.ref (u_7 0), .int 0, .int 0, .int 0, .int 0, .int 0, .int 0, .int 0, .ref (u_7 1), .ref (u_7 2), .ref (u_7 3), .ref (u_7 4), .int 0, .ref (u_7 5), .ref (u_7 6), .ref (u_7 7), .ref (u_7 8), .int 0, .int 0, .int 0, .int 0, .ref (u_7 9), .ref (u_7 10), .int 0, .ref (u_7 11), .ref (u_7 12), .int 0, .int (-1), .int 0, .int 0, .int 0, .int 0, .int 0, .int 0, .ref (u_7 13), .ref (u_7 14), .ref (u_7 15), .ref (u_7 16), .ref (u_7 17), .ref (u_7 18), .ref (u_7 19), .ref (u_7 20), .ref (u_7 21), .long 0])), ((u_7 0), .inl (cy, 44, .inl (fun _ => 0))), (q_1, .inr (11, [.ref (u_3 0), .ref (u_3 2), .ref (u_3 4), .ref (u_3 19), .ref (u_3 34), .ref (u_3 35), .null, .int 0, .int 0, .int 0]))] := hD
      refine lv_aload_n hx hb dL_law_227 rfl (lv_at hl 1 rfl) ?_
      refine lv_aload_n hx hb dL_law_228 rfl (lv_at hl 3 rfl) ?_
      refine lv_iload_n hx hb dL_law_229 rfl (lv_at hl 0 rfl) ?_
      refine lv_iconst (v := 1) hx hb dL_law_230 (by decide) ?_
      refine lv_iadd hx hb dL_law_231 ?_
      refine wk_toi (show ((0 + 1) : Int32) = 1 by decide) ?_
      refine va_sld hx hb hX hbl hbA hS (show vp_in 1 4 by unfold vp_in; decide) dL_law_232 ?_
      refine wk_toi (y := xs 1) rfl ?_
      refine wk_iV (As := [.int (xs 1)]) (rest := [.int (if (0 ≤ (xs 1).toInt ∧ (xs 1).toInt ≤ 50) then (-103) else (-102))]) (wc := [(q_5, .inr (12, [.ref (u_7 0), .int 0, .int 0, .int 0, .int 0, .int 0, .int 0, .int 0, .ref (u_7 1), .ref (u_7 2), .ref (u_7 3), .ref (u_7 4), .int 0, .ref (u_7 5), .ref (u_7 6), .ref (u_7 7), .ref (u_7 8), .int 0, .int 0, .int 0, .int 0, .ref (u_7 9), .ref (u_7 10), .int 0, .ref (u_7 11), .ref (u_7 12), .int 0, .int (-1), .int 0, .int 0, .int 0, .int 0, .int 0, .int 0, .ref (u_7 13), .ref (u_7 14), .ref (u_7 15), .ref (u_7 16), .ref (u_7 17), .ref (u_7 18), .ref (u_7 19), .ref (u_7 20), .ref (u_7 21), .long 0]))]) (wr := [((u_3 0), .inr (6, [.ref (u_3 1), .int 0])), ((u_3 1), .inl (cy, 44, .inl (fun _ => 0))), ((u_3 4), .inr (2, [.ref (u_3 5), .ref (u_3 10), .ref (u_3 15), .int 0, .int 0, .int 0])), ((u_3 5), .inr (8, [.ref (u_3 6), .ref (u_3 7), .ref (u_3 8), .ref (u_3 9), .int 0])), ((u_3 10), .inr (8, [.ref (u_3 11), .ref (u_3 12), .ref (u_3 13), .ref (u_3 14), .int 0])), ((u_3 15), .inr (4, [.ref (u_3 16), .ref (u_3 17), .ref (u_3 18), .int 0])), ((u_7 0), .inl (cy, 44, .inl (fun _ => 0))), (q_1, .inr (11, [.ref (u_3 0), .ref (u_3 2), .ref (u_3 4), .ref (u_3 19), .ref (u_3 34), .ref (u_3 35), .null, .int 0, .int 0, .int 0]))]) (n := 1) (R := _) ⟨hx, hb, hml, hown, htb⟩ (c_X12_tape l D cy q_5 (u_7 0) (u_7 1) (u_7 2) (u_7 3) (u_7 4) (u_7 5) (u_7 6) (u_7 7) (u_7 8) (u_7 9) (u_7 10) (u_7 11) (u_7 12) (u_7 13) (u_7 14) (u_7 15) (u_7 16) (u_7 17) (u_7 18) (u_7 19) (u_7 20) (u_7 21) (xs 1) 0) tw_1079 tw_1076 tw_1077 tw_1078 tw_71 rfl rfl (by decide +kernel) ⟨Nat.le_of_ble_eq_true rfl, Nat.le_of_ble_eq_true rfl⟩ hK hP hD hS hA [6] [0, 1, 2, 3, 4, 5, 7, 8] rfl rfl rfl rfl (by decide) 0 (ci := 12) rfl rfl rfl hl.1 rfl (Nat.le_of_ble_eq_true rfl) dL_law_233 ⟨Nat.le_of_ble_eq_true rfl, Nat.le_of_ble_eq_true rfl⟩ (fun r_49 u_50 H locs hw_51 hP hD hS => ?_)
      refine W.widen (k := 64) (n := 614) (by decide) (by decide) ?_
      have hw_51 : r_49 = if (0 ≤ (xs 1).toInt ∧ (xs 1).toInt ≤ 50) then (-103) else (-102) := hw_51
      subst hw_51
      have hP : va_P D classes [((u_3 0), .inr (6, [.ref (u_3 1), .int 0])), ((u_3 1), .inl (cy, 44, .inl (fun _ => 0))), ((u_3 4), .inr (2, [.ref (u_3 5), .ref (u_3 10), .ref (u_3 15), .int 0, .int 0, .int 0])), ((u_3 5), .inr (8, [.ref (u_3 6), .ref (u_3 7), .ref (u_3 8), .ref (u_3 9), .int 0])), ((u_3 10), .inr (8, [.ref (u_3 11), .ref (u_3 12), .ref (u_3 13), .ref (u_3 14), .int 0])), ((u_3 15), .inr (4, [.ref (u_3 16), .ref (u_3 17), .ref (u_3 18), .int 0])), ((u_7 0), .inl (cy, 44, .inl (fun _ => 0))), (q_1, .inr (11, [.ref (u_3 0), .ref (u_3 2), .ref (u_3 4), .ref (u_3 19), .ref (u_3 34), .ref (u_3 35), .null, .int 0, .int 0, .int 0])), (q_5, .inr (12, [.ref (u_7 0), .int 0, .int 0, .int 0, .int 0, .int 0, .int 0, .int 0, .ref (u_7 1), .ref (u_7 2), .ref (u_7 3), .ref (u_7 4), .int 0, .ref (u_7 5), .ref (u_7 6), .ref (u_7 7), .ref (u_7 8), .int 0, .int 0, .int 0, .int 0, .ref (u_7 9), .ref (u_7 10), .int 0, .ref (u_7 11), .ref (u_7 12), .int 0, .int (-1), .int 0, .int 0, .int 0, .int 0, .int 0, .int 0, .ref (u_7 13), .ref (u_7 14), .ref (u_7 15), .ref (u_7 16), .ref (u_7 17), .ref (u_7 18), .ref (u_7 19), .ref (u_7 20), .ref (u_7 21), .long 0]))] H := hP
      have hD : va_D A [((u_3 0), .inr (6, [.ref (u_3 1), .int 0])), ((u_3 1), .inl (cy, 44, .inl (fun _ => 0))), ((u_3 4), .inr (2, [.ref (u_3 5), .ref (u_3 10), .ref (u_3 15), .int 0, .int 0, .int 0])), ((u_3 5), .inr (8, [.ref (u_3 6), .ref (u_3 7), .ref (u_3 8), .ref (u_3 9), .int 0])), ((u_3 10), .inr (8, [.ref (u_3 11), .ref (u_3 12), .ref (u_3 13), .ref (u_3 14), .int 0])), ((u_3 15), .inr (4, [.ref (u_3 16), .ref (u_3 17), .ref (u_3 18), .int 0])), ((u_7 0), .inl (cy, 44, .inl (fun _ => 0))), (q_1, .inr (11, [.ref (u_3 0), .ref (u_3 2), .ref (u_3 4), .ref (u_3 19), .ref (u_3 34), .ref (u_3 35), .null, .int 0, .int 0, .int 0])), (q_5, .inr (12, [.ref (u_7 0), .int 0, .int 0, .int 0, .int 0, .int 0, .int 0, .int 0, .ref (u_7 1), .ref (u_7 2), .ref (u_7 3), .ref (u_7 4), .int 0, .ref (u_7 5), .ref (u_7 6), .ref (u_7 7), .ref (u_7 8), .int 0, .int 0, .int 0, .int 0, .ref (u_7 9), .ref (u_7 10), .int 0, .ref (u_7 11), .ref (u_7 12), .int 0, .int (-1), .int 0, .int 0, .int 0, .int 0, .int 0, .int 0, .ref (u_7 13), .ref (u_7 14), .ref (u_7 15), .ref (u_7 16), .ref (u_7 17), .ref (u_7 18), .ref (u_7 19), .ref (u_7 20), .ref (u_7 21), .long 0]))] := hD
      refine lv_icmp_eq (tgt := 828) hx hb dL_law_236 (by decide) (fun c_52 => ?_) (fun c_52 => absurd rfl c_52)
      refine lv_iinc (v := 4) (lv' := [(3, .int 4), (2, .ref q_5), (1, .ref q_1), (0, .ref b)]) hx hb dL_law_828 hl (k := 0) rfl (by decide) (by decide) rfl (fun ls hl => ?_)
      refine lv_goto (tgt := 18) hx hb dL_law_831 (by decide) ?_
      refine lv_iload_n hx hb dL_law_18 rfl (lv_at hl 0 rfl) ?_
      refine lv_aload_n hx hb dL_law_19 rfl (lv_at hl 3 rfl) ?_
      refine va_slen hx hb hX hbl hbA hS dL_law_20 ?_
      refine wk_toi (y := 4) rfl ?_
      refine lv_iconst (v := 4) hx hb dL_law_21 (by decide) ?_
      refine lv_isub hx hb dL_law_22 ?_
      refine wk_toi (show ((4 - 4) : Int32) = 0 by decide) ?_
      refine lv_icmp_gt (tgt := 834) hx hb dL_law_23 (by decide) (fun _ => ?_) (fun c_53 => absurd (by decide) c_53)
      refine lv_iconst (v := 1) hx hb dL_law_834 (by decide) ?_
      refine va_forget (fun q hq => by have h9 := hS.2.2 q hq; rw [hAe] at h9; exact h9) ?_
      refine W.widen (k := 600000) (n := 7302250) (by decide) (by decide) ?_
      exact lw_ret hx hb hr hlocks dL_law_835
    · refine wk_toi (show nI 5 = 5 from rfl) ?_
      refine lv_tableIn (off := 209) (tgt := 241) hx hb dL_law_32 (by decide) (by decide) (by decide) (by decide) ?_
      refine lv_aload_n hx hb dL_law_241 rfl (lv_at hl 2 rfl) ?_
      refine lv_aload_n hx hb dL_law_242 rfl (lv_at hl 3 rfl) ?_
      refine lv_iload_n hx hb dL_law_243 rfl (lv_at hl 0 rfl) ?_
      refine lv_iconst (v := 1) hx hb dL_law_244 (by decide) ?_
      refine lv_iadd hx hb dL_law_245 ?_
      refine wk_toi (show ((0 + 1) : Int32) = 1 by decide) ?_
      refine va_sld hx hb hX hbl hbA hS (show vp_in 1 4 by unfold vp_in; decide) dL_law_246 ?_
      refine wk_toi (y := xs 1) rfl ?_
      refine wk_iV (As := [.int (xs 1)]) (rest := []) (wc := [(q_1, .inr (11, [.ref (u_3 0), .ref (u_3 2), .ref (u_3 4), .ref (u_3 19), .ref (u_3 34), .ref (u_3 35), .null, .int 0, .int 0, .int 0]))]) (wr := [((u_3 0), .inr (6, [.ref (u_3 1), .int 0])), ((u_3 1), .inl (cy, 44, .inl (fun _ => 0))), ((u_3 4), .inr (2, [.ref (u_3 5), .ref (u_3 10), .ref (u_3 15), .int 0, .int 0, .int 0])), ((u_3 5), .inr (8, [.ref (u_3 6), .ref (u_3 7), .ref (u_3 8), .ref (u_3 9), .int 0])), ((u_3 10), .inr (8, [.ref (u_3 11), .ref (u_3 12), .ref (u_3 13), .ref (u_3 14), .int 0])), ((u_3 15), .inr (4, [.ref (u_3 16), .ref (u_3 17), .ref (u_3 18), .int 0])), (q_5, .inr (12, [.ref (u_7 0), .int 0, .int 0, .int 0, .int 0, .int 0, .int 0, .int 0, .ref (u_7 1), .ref (u_7 2), .ref (u_7 3), .ref (u_7 4), .int 0, .ref (u_7 5), .ref (u_7 6), .ref (u_7 7), .ref (u_7 8), .int 0, .int 0, .int 0, .int 0, .ref (u_7 9), .ref (u_7 10), .int 0, .ref (u_7 11), .ref (u_7 12), .int 0, .int (-1), .int 0, .int 0, .int 0, .int 0, .int 0, .int 0, .ref (u_7 13), .ref (u_7 14), .ref (u_7 15), .ref (u_7 16), .ref (u_7 17), .ref (u_7 18), .ref (u_7 19), .ref (u_7 20), .ref (u_7 21), .long 0])), ((u_7 0), .inl (cy, 44, .inl (fun _ => 0)))]) (n := 1) (R := _) ⟨hx, hb, hml, hown, htb⟩ (c_X11_as l D cy q_1 (u_3 0) (u_3 2) (u_3 4) (u_3 19) (u_3 34) (u_3 35) (xs 1) ) tw_465 tw_462 tw_463 tw_464 tw_64 rfl rfl (by decide +kernel) ⟨Nat.le_of_ble_eq_true rfl, Nat.le_of_ble_eq_true rfl⟩ hK hP hD hS hA [0] [1, 2, 3, 4, 5, 6, 7, 8] rfl rfl rfl rfl (by decide) 0 (ci := 11) rfl rfl rfl hl.1 rfl (Nat.le_of_ble_eq_true rfl) dL_law_247 ⟨Nat.le_of_ble_eq_true rfl, Nat.le_of_ble_eq_true rfl⟩ (fun r_54 u_55 H locs hw_56 hP hD hS => ?_)
      refine W.widen (k := 64) (n := 614) (by decide) (by decide) ?_
      have hw_56 : r_54 = if (0 ≤ (xs 1).toInt ∧ (xs 1).toInt ≤ 4) then (-103) else (-102) := hw_56
      subst hw_56
      have hP : va_P D classes [((u_3 0), .inr (6, [.ref (u_3 1), .int 0])), ((u_3 1), .inl (cy, 44, .inl (fun _ => 0))), ((u_3 4), .inr (2, [.ref (u_3 5), .ref (u_3 10), .ref (u_3 15), .int 0, .int 0, .int 0])), ((u_3 5), .inr (8, [.ref (u_3 6), .ref (u_3 7), .ref (u_3 8), .ref (u_3 9), .int 0])), ((u_3 10), .inr (8, [.ref (u_3 11), .ref (u_3 12), .ref (u_3 13), .ref (u_3 14), .int 0])), ((u_3 15), .inr (4, [.ref (u_3 16), .ref (u_3 17), .ref (u_3 18), .int 0])), (q_5, .inr (12, [.ref (u_7 0), .int 0, .int 0, .int 0, .int 0, .int 0, .int 0, .int 0, .ref (u_7 1), .ref (u_7 2), .ref (u_7 3), .ref (u_7 4), .int 0, .ref (u_7 5), .ref (u_7 6), .ref (u_7 7), .ref (u_7 8), .int 0, .int 0, .int 0, .int 0, .ref (u_7 9), .ref (u_7 10), .int 0, .ref (u_7 11), .ref (u_7 12), .int 0, .int (-1), .int 0, .int 0, .int 0, .int 0, .int 0, .int 0, .ref (u_7 13), .ref (u_7 14), .ref (u_7 15), .ref (u_7 16), .ref (u_7 17), .ref (u_7 18), .ref (u_7 19), .ref (u_7 20), .ref (u_7 21), .long 0])), ((u_7 0), .inl (cy, 44, .inl (fun _ => 0))), (q_1, .inr (11, [.ref (u_3 0), .ref (u_3 2), .ref (u_3 4), .ref (u_3 19), .ref (u_3 34), .ref (u_3 35), .null, .int 0, .int 0, .int 0]))] H := hP
      have hD : va_D A [((u_3 0), .inr (6, [.ref (u_3 1), .int 0])), ((u_3 1), .inl (cy, 44, .inl (fun _ => 0))), ((u_3 4), .inr (2, [.ref (u_3 5), .ref (u_3 10), .ref (u_3 15), .int 0, .int 0, .int 0])), ((u_3 5), .inr (8, [.ref (u_3 6), .ref (u_3 7), .ref (u_3 8), .ref (u_3 9), .int 0])), ((u_3 10), .inr (8, [.ref (u_3 11), .ref (u_3 12), .ref (u_3 13), .ref (u_3 14), .int 0])), ((u_3 15), .inr (4, [.ref (u_3 16), .ref (u_3 17), .ref (u_3 18), .int 0])), (q_5, .inr (12, [.ref (u_7 0), .int 0, .int 0, .int 0, .int 0, .int 0, .int 0, .int 0, .ref (u_7 1), .ref (u_7 2), .ref (u_7 3), .ref (u_7 4), .int 0, .ref (u_7 5), .ref (u_7 6), .ref (u_7 7), .ref (u_7 8), .int 0, .int 0, .int 0, .int 0, .ref (u_7 9), .ref (u_7 10), .int 0, .ref (u_7 11), .ref (u_7 12), .int 0, .int (-1), .int 0, .int 0, .int 0, .int 0, .int 0, .int 0, .ref (u_7 13), .ref (u_7 14), .ref (u_7 15), .ref (u_7 16), .ref (u_7 17), .ref (u_7 18), .ref (u_7 19), .ref (u_7 20), .ref (u_7 21), .long 0])), ((u_7 0), .inl (cy, 44, .inl (fun _ => 0))), (q_1, .inr (11, [.ref (u_3 0), .ref (u_3 2), .ref (u_3 4), .ref (u_3 19), .ref (u_3 34), .ref (u_3 35), .null, .int 0, .int 0, .int 0]))] := hD
      refine lv_aload_n hx hb dL_law_250 rfl (lv_at hl 1 rfl) ?_
      refine lv_aload_n hx hb dL_law_251 rfl (lv_at hl 3 rfl) ?_
      refine lv_iload_n hx hb dL_law_252 rfl (lv_at hl 0 rfl) ?_
      refine lv_iconst (v := 1) hx hb dL_law_253 (by decide) ?_
      refine lv_iadd hx hb dL_law_254 ?_
      refine wk_toi (show ((0 + 1) : Int32) = 1 by decide) ?_
      refine va_sld hx hb hX hbl hbA hS (show vp_in 1 4 by unfold vp_in; decide) dL_law_255 ?_
      refine wk_toi (y := xs 1) rfl ?_
      refine wk_iV (As := [.int (xs 1)]) (rest := [.int (if (0 ≤ (xs 1).toInt ∧ (xs 1).toInt ≤ 4) then (-103) else (-102))]) (wc := [(q_5, .inr (12, [.ref (u_7 0), .int 0, .int 0, .int 0, .int 0, .int 0, .int 0, .int 0, .ref (u_7 1), .ref (u_7 2), .ref (u_7 3), .ref (u_7 4), .int 0, .ref (u_7 5), .ref (u_7 6), .ref (u_7 7), .ref (u_7 8), .int 0, .int 0, .int 0, .int 0, .ref (u_7 9), .ref (u_7 10), .int 0, .ref (u_7 11), .ref (u_7 12), .int 0, .int (-1), .int 0, .int 0, .int 0, .int 0, .int 0, .int 0, .ref (u_7 13), .ref (u_7 14), .ref (u_7 15), .ref (u_7 16), .ref (u_7 17), .ref (u_7 18), .ref (u_7 19), .ref (u_7 20), .ref (u_7 21), .long 0]))]) (wr := [((u_3 0), .inr (6, [.ref (u_3 1), .int 0])), ((u_3 1), .inl (cy, 44, .inl (fun _ => 0))), ((u_3 4), .inr (2, [.ref (u_3 5), .ref (u_3 10), .ref (u_3 15), .int 0, .int 0, .int 0])), ((u_3 5), .inr (8, [.ref (u_3 6), .ref (u_3 7), .ref (u_3 8), .ref (u_3 9), .int 0])), ((u_3 10), .inr (8, [.ref (u_3 11), .ref (u_3 12), .ref (u_3 13), .ref (u_3 14), .int 0])), ((u_3 15), .inr (4, [.ref (u_3 16), .ref (u_3 17), .ref (u_3 18), .int 0])), ((u_7 0), .inl (cy, 44, .inl (fun _ => 0))), (q_1, .inr (11, [.ref (u_3 0), .ref (u_3 2), .ref (u_3 4), .ref (u_3 19), .ref (u_3 34), .ref (u_3 35), .null, .int 0, .int 0, .int 0]))]) (n := 1) (R := _) ⟨hx, hb, hml, hown, htb⟩ (c_X12_as l D cy q_5 (u_7 0) (u_7 1) (u_7 2) (u_7 3) (u_7 4) (u_7 5) (u_7 6) (u_7 7) (u_7 8) (u_7 9) (u_7 10) (u_7 11) (u_7 12) (u_7 13) (u_7 14) (u_7 15) (u_7 16) (u_7 17) (u_7 18) (u_7 19) (u_7 20) (u_7 21) (xs 1) 0) tw_1074 tw_1071 tw_1072 tw_1073 tw_71 rfl rfl (by decide +kernel) ⟨Nat.le_of_ble_eq_true rfl, Nat.le_of_ble_eq_true rfl⟩ hK hP hD hS hA [6] [0, 1, 2, 3, 4, 5, 7, 8] rfl rfl rfl rfl (by decide) 0 (ci := 12) rfl rfl rfl hl.1 rfl (Nat.le_of_ble_eq_true rfl) dL_law_256 ⟨Nat.le_of_ble_eq_true rfl, Nat.le_of_ble_eq_true rfl⟩ (fun r_57 u_58 H locs hw_59 hP hD hS => ?_)
      refine W.widen (k := 64) (n := 614) (by decide) (by decide) ?_
      have hw_59 : r_57 = if (0 ≤ (xs 1).toInt ∧ (xs 1).toInt ≤ 4) then (-103) else (-102) := hw_59
      subst hw_59
      have hP : va_P D classes [((u_3 0), .inr (6, [.ref (u_3 1), .int 0])), ((u_3 1), .inl (cy, 44, .inl (fun _ => 0))), ((u_3 4), .inr (2, [.ref (u_3 5), .ref (u_3 10), .ref (u_3 15), .int 0, .int 0, .int 0])), ((u_3 5), .inr (8, [.ref (u_3 6), .ref (u_3 7), .ref (u_3 8), .ref (u_3 9), .int 0])), ((u_3 10), .inr (8, [.ref (u_3 11), .ref (u_3 12), .ref (u_3 13), .ref (u_3 14), .int 0])), ((u_3 15), .inr (4, [.ref (u_3 16), .ref (u_3 17), .ref (u_3 18), .int 0])), ((u_7 0), .inl (cy, 44, .inl (fun _ => 0))), (q_1, .inr (11, [.ref (u_3 0), .ref (u_3 2), .ref (u_3 4), .ref (u_3 19), .ref (u_3 34), .ref (u_3 35), .null, .int 0, .int 0, .int 0])), (q_5, .inr (12, [.ref (u_7 0), .int 0, .int 0, .int 0, .int 0, .int 0, .int 0, .int 0, .ref (u_7 1), .ref (u_7 2), .ref (u_7 3), .ref (u_7 4), .int 0, .ref (u_7 5), .ref (u_7 6), .ref (u_7 7), .ref (u_7 8), .int 0, .int 0, .int 0, .int 0, .ref (u_7 9), .ref (u_7 10), .int 0, .ref (u_7 11), .ref (u_7 12), .int 0, .int (-1), .int 0, .int 0, .int 0, .int 0, .int 0, .int 0, .ref (u_7 13), .ref (u_7 14), .ref (u_7 15), .ref (u_7 16), .ref (u_7 17), .ref (u_7 18), .ref (u_7 19), .ref (u_7 20), .ref (u_7 21), .long 0]))] H := hP
      have hD : va_D A [((u_3 0), .inr (6, [.ref (u_3 1), .int 0])), ((u_3 1), .inl (cy, 44, .inl (fun _ => 0))), ((u_3 4), .inr (2, [.ref (u_3 5), .ref (u_3 10), .ref (u_3 15), .int 0, .int 0, .int 0])), ((u_3 5), .inr (8, [.ref (u_3 6), .ref (u_3 7), .ref (u_3 8), .ref (u_3 9), .int 0])), ((u_3 10), .inr (8, [.ref (u_3 11), .ref (u_3 12), .ref (u_3 13), .ref (u_3 14), .int 0])), ((u_3 15), .inr (4, [.ref (u_3 16), .ref (u_3 17), .ref (u_3 18), .int 0])), ((u_7 0), .inl (cy, 44, .inl (fun _ => 0))), (q_1, .inr (11, [.ref (u_3 0), .ref (u_3 2), .ref (u_3 4), .ref (u_3 19), .ref (u_3 34), .ref (u_3 35), .null, .int 0, .int 0, .int 0])), (q_5, .inr (12, [.ref (u_7 0), .int 0, .int 0, .int 0, .int 0, .int 0, .int 0, .int 0, .ref (u_7 1), .ref (u_7 2), .ref (u_7 3), .ref (u_7 4), .int 0, .ref (u_7 5), .ref (u_7 6), .ref (u_7 7), .ref (u_7 8), .int 0, .int 0, .int 0, .int 0, .ref (u_7 9), .ref (u_7 10), .int 0, .ref (u_7 11), .ref (u_7 12), .int 0, .int (-1), .int 0, .int 0, .int 0, .int 0, .int 0, .int 0, .ref (u_7 13), .ref (u_7 14), .ref (u_7 15), .ref (u_7 16), .ref (u_7 17), .ref (u_7 18), .ref (u_7 19), .ref (u_7 20), .ref (u_7 21), .long 0]))] := hD
      refine lv_icmp_eq (tgt := 828) hx hb dL_law_259 (by decide) (fun c_60 => ?_) (fun c_60 => absurd rfl c_60)
      refine lv_iinc (v := 4) (lv' := [(3, .int 4), (2, .ref q_5), (1, .ref q_1), (0, .ref b)]) hx hb dL_law_828 hl (k := 0) rfl (by decide) (by decide) rfl (fun ls hl => ?_)
      refine lv_goto (tgt := 18) hx hb dL_law_831 (by decide) ?_
      refine lv_iload_n hx hb dL_law_18 rfl (lv_at hl 0 rfl) ?_
      refine lv_aload_n hx hb dL_law_19 rfl (lv_at hl 3 rfl) ?_
      refine va_slen hx hb hX hbl hbA hS dL_law_20 ?_
      refine wk_toi (y := 4) rfl ?_
      refine lv_iconst (v := 4) hx hb dL_law_21 (by decide) ?_
      refine lv_isub hx hb dL_law_22 ?_
      refine wk_toi (show ((4 - 4) : Int32) = 0 by decide) ?_
      refine lv_icmp_gt (tgt := 834) hx hb dL_law_23 (by decide) (fun _ => ?_) (fun c_61 => absurd (by decide) c_61)
      refine lv_iconst (v := 1) hx hb dL_law_834 (by decide) ?_
      refine va_forget (fun q hq => by have h9 := hS.2.2 q hq; rw [hAe] at h9; exact h9) ?_
      refine W.widen (k := 600000) (n := 7302250) (by decide) (by decide) ?_
      exact lw_ret hx hb hr hlocks dL_law_835
    · refine wk_toi (show nI 6 = 6 from rfl) ?_
      refine lv_tableIn (off := 232) (tgt := 264) hx hb dL_law_32 (by decide) (by decide) (by decide) (by decide) ?_
      refine lv_aload_n hx hb dL_law_264 rfl (lv_at hl 2 rfl) ?_
      refine lv_aload_n hx hb dL_law_265 rfl (lv_at hl 3 rfl) ?_
      refine lv_iload_n hx hb dL_law_266 rfl (lv_at hl 0 rfl) ?_
      refine lv_iconst (v := 1) hx hb dL_law_267 (by decide) ?_
      refine lv_iadd hx hb dL_law_268 ?_
      refine wk_toi (show ((0 + 1) : Int32) = 1 by decide) ?_
      refine va_sld hx hb hX hbl hbA hS (show vp_in 1 4 by unfold vp_in; decide) dL_law_269 ?_
      refine wk_toi (y := xs 1) rfl ?_
      refine lv_aload_n hx hb dL_law_270 rfl (lv_at hl 3 rfl) ?_
      refine lv_iload_n hx hb dL_law_271 rfl (lv_at hl 0 rfl) ?_
      refine lv_iconst (v := 2) hx hb dL_law_272 (by decide) ?_
      refine lv_iadd hx hb dL_law_273 ?_
      refine wk_toi (show ((0 + 2) : Int32) = 2 by decide) ?_
      refine va_sld hx hb hX hbl hbA hS (show vp_in 2 4 by unfold vp_in; decide) dL_law_274 ?_
      refine wk_toi (y := xs 2) rfl ?_
      refine wk_iV (As := [.int (xs 1), .int (xs 2)]) (rest := []) (wc := [(q_1, .inr (11, [.ref (u_3 0), .ref (u_3 2), .ref (u_3 4), .ref (u_3 19), .ref (u_3 34), .ref (u_3 35), .null, .int 0, .int 0, .int 0])), ((u_3 4), .inr (2, [.ref (u_3 5), .ref (u_3 10), .ref (u_3 15), .int 0, .int 0, .int 0])), ((u_3 5), .inr (8, [.ref (u_3 6), .ref (u_3 7), .ref (u_3 8), .ref (u_3 9), .int 0]))]) (wr := [((u_3 0), .inr (6, [.ref (u_3 1), .int 0])), ((u_3 1), .inl (cy, 44, .inl (fun _ => 0))), ((u_3 10), .inr (8, [.ref (u_3 11), .ref (u_3 12), .ref (u_3 13), .ref (u_3 14), .int 0])), ((u_3 15), .inr (4, [.ref (u_3 16), .ref (u_3 17), .ref (u_3 18), .int 0])), (q_5, .inr (12, [.ref (u_7 0), .int 0, .int 0, .int 0, .int 0, .int 0, .int 0, .int 0, .ref (u_7 1), .ref (u_7 2), .ref (u_7 3), .ref (u_7 4), .int 0, .ref (u_7 5), .ref (u_7 6), .ref (u_7 7), .ref (u_7 8), .int 0, .int 0, .int 0, .int 0, .ref (u_7 9), .ref (u_7 10), .int 0, .ref (u_7 11), .ref (u_7 12), .int 0, .int (-1), .int 0, .int 0, .int 0, .int 0, .int 0, .int 0, .ref (u_7 13), .ref (u_7 14), .ref (u_7 15), .ref (u_7 16), .ref (u_7 17), .ref (u_7 18), .ref (u_7 19), .ref (u_7 20), .ref (u_7 21), .long 0])), ((u_7 0), .inl (cy, 44, .inl (fun _ => 0)))]) (n := 2) (R := _) ⟨hx, hb, hml, hown, htb⟩ (c_X11_key l D cy q_1 (u_3 0) (u_3 2) (u_3 4) (u_3 19) (u_3 34) (u_3 35) (u_3 5) (u_3 10) (u_3 15) (u_3 6) (u_3 7) (u_3 8) (u_3 9) (xs 1) (xs 2) ) tw_477 tw_474 tw_475 tw_476 tw_64 rfl rfl (by decide +kernel) ⟨Nat.le_of_ble_eq_true rfl, Nat.le_of_ble_eq_true rfl⟩ hK hP hD hS hA [0, 3, 4] [1, 2, 5, 6, 7, 8] rfl rfl rfl rfl (by decide) 0 (ci := 11) rfl rfl rfl hl.1 rfl (Nat.le_of_ble_eq_true rfl) dL_law_275 ⟨Nat.le_of_ble_eq_true rfl, Nat.le_of_ble_eq_true rfl⟩ (fun r_62 u_63 H locs hw_64 hP hD hS => ?_)
      refine W.widen (k := 64) (n := 614) (by decide) (by decide) ?_
      have hw_64 : r_62 = (-101) := hw_64
      subst hw_64
      have hP : va_P D classes [((u_3 0), .inr (6, [.ref (u_3 1), .int 0])), ((u_3 1), .inl (cy, 44, .inl (fun _ => 0))), ((u_3 10), .inr (8, [.ref (u_3 11), .ref (u_3 12), .ref (u_3 13), .ref (u_3 14), .int 0])), ((u_3 15), .inr (4, [.ref (u_3 16), .ref (u_3 17), .ref (u_3 18), .int 0])), (q_5, .inr (12, [.ref (u_7 0), .int 0, .int 0, .int 0, .int 0, .int 0, .int 0, .int 0, .ref (u_7 1), .ref (u_7 2), .ref (u_7 3), .ref (u_7 4), .int 0, .ref (u_7 5), .ref (u_7 6), .ref (u_7 7), .ref (u_7 8), .int 0, .int 0, .int 0, .int 0, .ref (u_7 9), .ref (u_7 10), .int 0, .ref (u_7 11), .ref (u_7 12), .int 0, .int (-1), .int 0, .int 0, .int 0, .int 0, .int 0, .int 0, .ref (u_7 13), .ref (u_7 14), .ref (u_7 15), .ref (u_7 16), .ref (u_7 17), .ref (u_7 18), .ref (u_7 19), .ref (u_7 20), .ref (u_7 21), .long 0])), ((u_7 0), .inl (cy, 44, .inl (fun _ => 0))), (q_1, .inr (11, [.ref (u_3 0), .ref (u_3 2), .ref (u_3 4), .ref (u_3 19), .ref (u_3 34), .ref (u_3 35), .null, .int 0, .int 0, .int 0])), ((u_3 4), .inr (2, [.ref (u_3 5), .ref (u_3 10), .ref (u_3 15), .int 0, .int 0, .int 0])), ((u_3 5), .inr (8, [.ref (u_3 6), .ref (u_3 7), .ref (u_3 8), .ref (u_3 9), .int 0]))] H := hP
      have hD : va_D A [((u_3 0), .inr (6, [.ref (u_3 1), .int 0])), ((u_3 1), .inl (cy, 44, .inl (fun _ => 0))), ((u_3 10), .inr (8, [.ref (u_3 11), .ref (u_3 12), .ref (u_3 13), .ref (u_3 14), .int 0])), ((u_3 15), .inr (4, [.ref (u_3 16), .ref (u_3 17), .ref (u_3 18), .int 0])), (q_5, .inr (12, [.ref (u_7 0), .int 0, .int 0, .int 0, .int 0, .int 0, .int 0, .int 0, .ref (u_7 1), .ref (u_7 2), .ref (u_7 3), .ref (u_7 4), .int 0, .ref (u_7 5), .ref (u_7 6), .ref (u_7 7), .ref (u_7 8), .int 0, .int 0, .int 0, .int 0, .ref (u_7 9), .ref (u_7 10), .int 0, .ref (u_7 11), .ref (u_7 12), .int 0, .int (-1), .int 0, .int 0, .int 0, .int 0, .int 0, .int 0, .ref (u_7 13), .ref (u_7 14), .ref (u_7 15), .ref (u_7 16), .ref (u_7 17), .ref (u_7 18), .ref (u_7 19), .ref (u_7 20), .ref (u_7 21), .long 0])), ((u_7 0), .inl (cy, 44, .inl (fun _ => 0))), (q_1, .inr (11, [.ref (u_3 0), .ref (u_3 2), .ref (u_3 4), .ref (u_3 19), .ref (u_3 34), .ref (u_3 35), .null, .int 0, .int 0, .int 0])), ((u_3 4), .inr (2, [.ref (u_3 5), .ref (u_3 10), .ref (u_3 15), .int 0, .int 0, .int 0])), ((u_3 5), .inr (8, [.ref (u_3 6), .ref (u_3 7), .ref (u_3 8), .ref (u_3 9), .int 0]))] := hD
      refine lv_aload_n hx hb dL_law_278 rfl (lv_at hl 1 rfl) ?_
      refine lv_aload_n hx hb dL_law_279 rfl (lv_at hl 3 rfl) ?_
      refine lv_iload_n hx hb dL_law_280 rfl (lv_at hl 0 rfl) ?_
      refine lv_iconst (v := 1) hx hb dL_law_281 (by decide) ?_
      refine lv_iadd hx hb dL_law_282 ?_
      refine wk_toi (show ((0 + 1) : Int32) = 1 by decide) ?_
      refine va_sld hx hb hX hbl hbA hS (show vp_in 1 4 by unfold vp_in; decide) dL_law_283 ?_
      refine wk_toi (y := xs 1) rfl ?_
      refine lv_aload_n hx hb dL_law_284 rfl (lv_at hl 3 rfl) ?_
      refine lv_iload_n hx hb dL_law_285 rfl (lv_at hl 0 rfl) ?_
      refine lv_iconst (v := 2) hx hb dL_law_286 (by decide) ?_
      refine lv_iadd hx hb dL_law_287 ?_
      refine wk_toi (show ((0 + 2) : Int32) = 2 by decide) ?_
      refine va_sld hx hb hX hbl hbA hS (show vp_in 2 4 by unfold vp_in; decide) dL_law_288 ?_
      refine wk_toi (y := xs 2) rfl ?_
      refine wk_iV (As := [.int (xs 1), .int (xs 2)]) (rest := [.int (-101)]) (wc := [(q_5, .inr (12, [.ref (u_7 0), .int 0, .int 0, .int 0, .int 0, .int 0, .int 0, .int 0, .ref (u_7 1), .ref (u_7 2), .ref (u_7 3), .ref (u_7 4), .int 0, .ref (u_7 5), .ref (u_7 6), .ref (u_7 7), .ref (u_7 8), .int 0, .int 0, .int 0, .int 0, .ref (u_7 9), .ref (u_7 10), .int 0, .ref (u_7 11), .ref (u_7 12), .int 0, .int (-1), .int 0, .int 0, .int 0, .int 0, .int 0, .int 0, .ref (u_7 13), .ref (u_7 14), .ref (u_7 15), .ref (u_7 16), .ref (u_7 17), .ref (u_7 18), .ref (u_7 19), .ref (u_7 20), .ref (u_7 21), .long 0]))]) (wr := [((u_3 0), .inr (6, [.ref (u_3 1), .int 0])), ((u_3 1), .inl (cy, 44, .inl (fun _ => 0))), ((u_3 10), .inr (8, [.ref (u_3 11), .ref (u_3 12), .ref (u_3 13), .ref (u_3 14), .int 0])), ((u_3 15), .inr (4, [.ref (u_3 16), .ref (u_3 17), .ref (u_3 18), .int 0])), ((u_7 0), .inl (cy, 44, .inl (fun _ => 0))), (q_1, .inr (11, [.ref (u_3 0), .ref (u_3 2), .ref (u_3 4), .ref (u_3 19), .ref (u_3 34), .ref (u_3 35), .null, .int 0, .int 0, .int 0])), ((u_3 4), .inr (2, [.ref (u_3 5), .ref (u_3 10), .ref (u_3 15), .int 0, .int 0, .int 0])), ((u_3 5), .inr (8, [.ref (u_3 6), .ref (u_3 7), .ref (u_3 8), .ref (u_3 9), .int 0]))]) (n := 2) (R := _) ⟨hx, hb, hml, hown, htb⟩ (c_X12_key l D cy q_5 (u_7 0) (u_7 1) (u_7 2) (u_7 3) (u_7 4) (u_7 5) (u_7 6) (u_7 7) (u_7 8) (u_7 9) (u_7 10) (u_7 11) (u_7 12) (u_7 13) (u_7 14) (u_7 15) (u_7 16) (u_7 17) (u_7 18) (u_7 19) (u_7 20) (u_7 21) (xs 1) (xs 2) 0) tw_1018 tw_1015 tw_1016 tw_1017 tw_71 rfl rfl (by decide +kernel) ⟨Nat.le_of_ble_eq_true rfl, Nat.le_of_ble_eq_true rfl⟩ hK hP hD hS hA [4] [0, 1, 2, 3, 5, 6, 7, 8] rfl rfl rfl rfl (by decide) 0 (ci := 12) rfl rfl rfl hl.1 rfl (Nat.le_of_ble_eq_true rfl) dL_law_289 ⟨Nat.le_of_ble_eq_true rfl, Nat.le_of_ble_eq_true rfl⟩ (fun r_65 u_66 H locs hw_67 hP hD hS => ?_)
      refine W.widen (k := 64) (n := 614) (by decide) (by decide) ?_
      have hw_67 : r_65 = (-101) := hw_67
      subst hw_67
      have hP : va_P D classes [((u_3 0), .inr (6, [.ref (u_3 1), .int 0])), ((u_3 1), .inl (cy, 44, .inl (fun _ => 0))), ((u_3 10), .inr (8, [.ref (u_3 11), .ref (u_3 12), .ref (u_3 13), .ref (u_3 14), .int 0])), ((u_3 15), .inr (4, [.ref (u_3 16), .ref (u_3 17), .ref (u_3 18), .int 0])), ((u_7 0), .inl (cy, 44, .inl (fun _ => 0))), (q_1, .inr (11, [.ref (u_3 0), .ref (u_3 2), .ref (u_3 4), .ref (u_3 19), .ref (u_3 34), .ref (u_3 35), .null, .int 0, .int 0, .int 0])), ((u_3 4), .inr (2, [.ref (u_3 5), .ref (u_3 10), .ref (u_3 15), .int 0, .int 0, .int 0])), ((u_3 5), .inr (8, [.ref (u_3 6), .ref (u_3 7), .ref (u_3 8), .ref (u_3 9), .int 0])), (q_5, .inr (12, [.ref (u_7 0), .int 0, .int 0, .int 0, .int 0, .int 0, .int 0, .int 0, .ref (u_7 1), .ref (u_7 2), .ref (u_7 3), .ref (u_7 4), .int 0, .ref (u_7 5), .ref (u_7 6), .ref (u_7 7), .ref (u_7 8), .int 0, .int 0, .int 0, .int 0, .ref (u_7 9), .ref (u_7 10), .int 0, .ref (u_7 11), .ref (u_7 12), .int 0, .int (-1), .int 0, .int 0, .int 0, .int 0, .int 0, .int 0, .ref (u_7 13), .ref (u_7 14), .ref (u_7 15), .ref (u_7 16), .ref (u_7 17), .ref (u_7 18), .ref (u_7 19), .ref (u_7 20), .ref (u_7 21), .long 0]))] H := hP
      have hD : va_D A [((u_3 0), .inr (6, [.ref (u_3 1), .int 0])), ((u_3 1), .inl (cy, 44, .inl (fun _ => 0))), ((u_3 10), .inr (8, [.ref (u_3 11), .ref (u_3 12), .ref (u_3 13), .ref (u_3 14), .int 0])), ((u_3 15), .inr (4, [.ref (u_3 16), .ref (u_3 17), .ref (u_3 18), .int 0])), ((u_7 0), .inl (cy, 44, .inl (fun _ => 0))), (q_1, .inr (11, [.ref (u_3 0), .ref (u_3 2), .ref (u_3 4), .ref (u_3 19), .ref (u_3 34), .ref (u_3 35), .null, .int 0, .int 0, .int 0])), ((u_3 4), .inr (2, [.ref (u_3 5), .ref (u_3 10), .ref (u_3 15), .int 0, .int 0, .int 0])), ((u_3 5), .inr (8, [.ref (u_3 6), .ref (u_3 7), .ref (u_3 8), .ref (u_3 9), .int 0])), (q_5, .inr (12, [.ref (u_7 0), .int 0, .int 0, .int 0, .int 0, .int 0, .int 0, .int 0, .ref (u_7 1), .ref (u_7 2), .ref (u_7 3), .ref (u_7 4), .int 0, .ref (u_7 5), .ref (u_7 6), .ref (u_7 7), .ref (u_7 8), .int 0, .int 0, .int 0, .int 0, .ref (u_7 9), .ref (u_7 10), .int 0, .ref (u_7 11), .ref (u_7 12), .int 0, .int (-1), .int 0, .int 0, .int 0, .int 0, .int 0, .int 0, .ref (u_7 13), .ref (u_7 14), .ref (u_7 15), .ref (u_7 16), .ref (u_7 17), .ref (u_7 18), .ref (u_7 19), .ref (u_7 20), .ref (u_7 21), .long 0]))] := hD
      refine lv_icmp_eq (tgt := 828) hx hb dL_law_292 (by decide) (fun c_68 => ?_) (fun c_68 => absurd rfl c_68)
      refine lv_iinc (v := 4) (lv' := [(3, .int 4), (2, .ref q_5), (1, .ref q_1), (0, .ref b)]) hx hb dL_law_828 hl (k := 0) rfl (by decide) (by decide) rfl (fun ls hl => ?_)
      refine lv_goto (tgt := 18) hx hb dL_law_831 (by decide) ?_
      refine lv_iload_n hx hb dL_law_18 rfl (lv_at hl 0 rfl) ?_
      refine lv_aload_n hx hb dL_law_19 rfl (lv_at hl 3 rfl) ?_
      refine va_slen hx hb hX hbl hbA hS dL_law_20 ?_
      refine wk_toi (y := 4) rfl ?_
      refine lv_iconst (v := 4) hx hb dL_law_21 (by decide) ?_
      refine lv_isub hx hb dL_law_22 ?_
      refine wk_toi (show ((4 - 4) : Int32) = 0 by decide) ?_
      refine lv_icmp_gt (tgt := 834) hx hb dL_law_23 (by decide) (fun _ => ?_) (fun c_69 => absurd (by decide) c_69)
      refine lv_iconst (v := 1) hx hb dL_law_834 (by decide) ?_
      refine va_forget (fun q hq => by have h9 := hS.2.2 q hq; rw [hAe] at h9; exact h9) ?_
      refine W.widen (k := 600000) (n := 7302250) (by decide) (by decide) ?_
      exact lw_ret hx hb hr hlocks dL_law_835
    · refine wk_toi (show nI 7 = 7 from rfl) ?_
      refine lv_tableIn (off := 265) (tgt := 297) hx hb dL_law_32 (by decide) (by decide) (by decide) (by decide) ?_
      refine lv_aload_n hx hb dL_law_297 rfl (lv_at hl 2 rfl) ?_
      refine lv_aload_n hx hb dL_law_298 rfl (lv_at hl 3 rfl) ?_
      refine lv_iload_n hx hb dL_law_299 rfl (lv_at hl 0 rfl) ?_
      refine lv_iconst (v := 1) hx hb dL_law_300 (by decide) ?_
      refine lv_iadd hx hb dL_law_301 ?_
      refine wk_toi (show ((0 + 1) : Int32) = 1 by decide) ?_
      refine va_sld hx hb hX hbl hbA hS (show vp_in 1 4 by unfold vp_in; decide) dL_law_302 ?_
      refine wk_toi (y := xs 1) rfl ?_
      refine lv_aload_n hx hb dL_law_303 rfl (lv_at hl 3 rfl) ?_
      refine lv_iload_n hx hb dL_law_304 rfl (lv_at hl 0 rfl) ?_
      refine lv_iconst (v := 2) hx hb dL_law_305 (by decide) ?_
      refine lv_iadd hx hb dL_law_306 ?_
      refine wk_toi (show ((0 + 2) : Int32) = 2 by decide) ?_
      refine va_sld hx hb hX hbl hbA hS (show vp_in 2 4 by unfold vp_in; decide) dL_law_307 ?_
      refine wk_toi (y := xs 2) rfl ?_
      refine wk_iV (As := [.int (xs 1), .int (xs 2)]) (rest := []) (wc := [(q_1, .inr (11, [.ref (u_3 0), .ref (u_3 2), .ref (u_3 4), .ref (u_3 19), .ref (u_3 34), .ref (u_3 35), .null, .int 0, .int 0, .int 0]))]) (wr := [((u_3 0), .inr (6, [.ref (u_3 1), .int 0])), ((u_3 1), .inl (cy, 44, .inl (fun _ => 0))), ((u_3 4), .inr (2, [.ref (u_3 5), .ref (u_3 10), .ref (u_3 15), .int 0, .int 0, .int 0])), ((u_3 5), .inr (8, [.ref (u_3 6), .ref (u_3 7), .ref (u_3 8), .ref (u_3 9), .int 0])), ((u_3 10), .inr (8, [.ref (u_3 11), .ref (u_3 12), .ref (u_3 13), .ref (u_3 14), .int 0])), ((u_3 15), .inr (4, [.ref (u_3 16), .ref (u_3 17), .ref (u_3 18), .int 0])), (q_5, .inr (12, [.ref (u_7 0), .int 0, .int 0, .int 0, .int 0, .int 0, .int 0, .int 0, .ref (u_7 1), .ref (u_7 2), .ref (u_7 3), .ref (u_7 4), .int 0, .ref (u_7 5), .ref (u_7 6), .ref (u_7 7), .ref (u_7 8), .int 0, .int 0, .int 0, .int 0, .ref (u_7 9), .ref (u_7 10), .int 0, .ref (u_7 11), .ref (u_7 12), .int 0, .int (-1), .int 0, .int 0, .int 0, .int 0, .int 0, .int 0, .ref (u_7 13), .ref (u_7 14), .ref (u_7 15), .ref (u_7 16), .ref (u_7 17), .ref (u_7 18), .ref (u_7 19), .ref (u_7 20), .ref (u_7 21), .long 0])), ((u_7 0), .inl (cy, 44, .inl (fun _ => 0)))]) (n := 2) (R := _) ⟨hx, hb, hml, hown, htb⟩ (c_X11_lane l D cy q_1 (u_3 0) (u_3 2) (u_3 4) (u_3 19) (u_3 34) (u_3 35) (xs 1) (xs 2) ) tw_547 tw_544 tw_545 tw_546 tw_64 rfl rfl (by decide +kernel) ⟨Nat.le_of_ble_eq_true rfl, Nat.le_of_ble_eq_true rfl⟩ hK hP hD hS hA [0] [1, 2, 3, 4, 5, 6, 7, 8] rfl rfl rfl rfl (by decide) 0 (ci := 11) rfl rfl rfl hl.1 rfl (Nat.le_of_ble_eq_true rfl) dL_law_308 ⟨Nat.le_of_ble_eq_true rfl, Nat.le_of_ble_eq_true rfl⟩ (fun r_70 u_71 H locs hw_72 hP hD hS => ?_)
      refine W.widen (k := 64) (n := 614) (by decide) (by decide) ?_
      have hw_72 : r_70 = (-101) := hw_72
      subst hw_72
      have hP : va_P D classes [((u_3 0), .inr (6, [.ref (u_3 1), .int 0])), ((u_3 1), .inl (cy, 44, .inl (fun _ => 0))), ((u_3 4), .inr (2, [.ref (u_3 5), .ref (u_3 10), .ref (u_3 15), .int 0, .int 0, .int 0])), ((u_3 5), .inr (8, [.ref (u_3 6), .ref (u_3 7), .ref (u_3 8), .ref (u_3 9), .int 0])), ((u_3 10), .inr (8, [.ref (u_3 11), .ref (u_3 12), .ref (u_3 13), .ref (u_3 14), .int 0])), ((u_3 15), .inr (4, [.ref (u_3 16), .ref (u_3 17), .ref (u_3 18), .int 0])), (q_5, .inr (12, [.ref (u_7 0), .int 0, .int 0, .int 0, .int 0, .int 0, .int 0, .int 0, .ref (u_7 1), .ref (u_7 2), .ref (u_7 3), .ref (u_7 4), .int 0, .ref (u_7 5), .ref (u_7 6), .ref (u_7 7), .ref (u_7 8), .int 0, .int 0, .int 0, .int 0, .ref (u_7 9), .ref (u_7 10), .int 0, .ref (u_7 11), .ref (u_7 12), .int 0, .int (-1), .int 0, .int 0, .int 0, .int 0, .int 0, .int 0, .ref (u_7 13), .ref (u_7 14), .ref (u_7 15), .ref (u_7 16), .ref (u_7 17), .ref (u_7 18), .ref (u_7 19), .ref (u_7 20), .ref (u_7 21), .long 0])), ((u_7 0), .inl (cy, 44, .inl (fun _ => 0))), (q_1, .inr (11, [.ref (u_3 0), .ref (u_3 2), .ref (u_3 4), .ref (u_3 19), .ref (u_3 34), .ref (u_3 35), .null, .int 0, .int 0, .int 0]))] H := hP
      have hD : va_D A [((u_3 0), .inr (6, [.ref (u_3 1), .int 0])), ((u_3 1), .inl (cy, 44, .inl (fun _ => 0))), ((u_3 4), .inr (2, [.ref (u_3 5), .ref (u_3 10), .ref (u_3 15), .int 0, .int 0, .int 0])), ((u_3 5), .inr (8, [.ref (u_3 6), .ref (u_3 7), .ref (u_3 8), .ref (u_3 9), .int 0])), ((u_3 10), .inr (8, [.ref (u_3 11), .ref (u_3 12), .ref (u_3 13), .ref (u_3 14), .int 0])), ((u_3 15), .inr (4, [.ref (u_3 16), .ref (u_3 17), .ref (u_3 18), .int 0])), (q_5, .inr (12, [.ref (u_7 0), .int 0, .int 0, .int 0, .int 0, .int 0, .int 0, .int 0, .ref (u_7 1), .ref (u_7 2), .ref (u_7 3), .ref (u_7 4), .int 0, .ref (u_7 5), .ref (u_7 6), .ref (u_7 7), .ref (u_7 8), .int 0, .int 0, .int 0, .int 0, .ref (u_7 9), .ref (u_7 10), .int 0, .ref (u_7 11), .ref (u_7 12), .int 0, .int (-1), .int 0, .int 0, .int 0, .int 0, .int 0, .int 0, .ref (u_7 13), .ref (u_7 14), .ref (u_7 15), .ref (u_7 16), .ref (u_7 17), .ref (u_7 18), .ref (u_7 19), .ref (u_7 20), .ref (u_7 21), .long 0])), ((u_7 0), .inl (cy, 44, .inl (fun _ => 0))), (q_1, .inr (11, [.ref (u_3 0), .ref (u_3 2), .ref (u_3 4), .ref (u_3 19), .ref (u_3 34), .ref (u_3 35), .null, .int 0, .int 0, .int 0]))] := hD
      refine lv_aload_n hx hb dL_law_311 rfl (lv_at hl 1 rfl) ?_
      refine lv_aload_n hx hb dL_law_312 rfl (lv_at hl 3 rfl) ?_
      refine lv_iload_n hx hb dL_law_313 rfl (lv_at hl 0 rfl) ?_
      refine lv_iconst (v := 1) hx hb dL_law_314 (by decide) ?_
      refine lv_iadd hx hb dL_law_315 ?_
      refine wk_toi (show ((0 + 1) : Int32) = 1 by decide) ?_
      refine va_sld hx hb hX hbl hbA hS (show vp_in 1 4 by unfold vp_in; decide) dL_law_316 ?_
      refine wk_toi (y := xs 1) rfl ?_
      refine lv_aload_n hx hb dL_law_317 rfl (lv_at hl 3 rfl) ?_
      refine lv_iload_n hx hb dL_law_318 rfl (lv_at hl 0 rfl) ?_
      refine lv_iconst (v := 2) hx hb dL_law_319 (by decide) ?_
      refine lv_iadd hx hb dL_law_320 ?_
      refine wk_toi (show ((0 + 2) : Int32) = 2 by decide) ?_
      refine va_sld hx hb hX hbl hbA hS (show vp_in 2 4 by unfold vp_in; decide) dL_law_321 ?_
      refine wk_toi (y := xs 2) rfl ?_
      refine wk_iV (As := [.int (xs 1), .int (xs 2)]) (rest := [.int (-101)]) (wc := [(q_5, .inr (12, [.ref (u_7 0), .int 0, .int 0, .int 0, .int 0, .int 0, .int 0, .int 0, .ref (u_7 1), .ref (u_7 2), .ref (u_7 3), .ref (u_7 4), .int 0, .ref (u_7 5), .ref (u_7 6), .ref (u_7 7), .ref (u_7 8), .int 0, .int 0, .int 0, .int 0, .ref (u_7 9), .ref (u_7 10), .int 0, .ref (u_7 11), .ref (u_7 12), .int 0, .int (-1), .int 0, .int 0, .int 0, .int 0, .int 0, .int 0, .ref (u_7 13), .ref (u_7 14), .ref (u_7 15), .ref (u_7 16), .ref (u_7 17), .ref (u_7 18), .ref (u_7 19), .ref (u_7 20), .ref (u_7 21), .long 0]))]) (wr := [((u_3 0), .inr (6, [.ref (u_3 1), .int 0])), ((u_3 1), .inl (cy, 44, .inl (fun _ => 0))), ((u_3 4), .inr (2, [.ref (u_3 5), .ref (u_3 10), .ref (u_3 15), .int 0, .int 0, .int 0])), ((u_3 5), .inr (8, [.ref (u_3 6), .ref (u_3 7), .ref (u_3 8), .ref (u_3 9), .int 0])), ((u_3 10), .inr (8, [.ref (u_3 11), .ref (u_3 12), .ref (u_3 13), .ref (u_3 14), .int 0])), ((u_3 15), .inr (4, [.ref (u_3 16), .ref (u_3 17), .ref (u_3 18), .int 0])), ((u_7 0), .inl (cy, 44, .inl (fun _ => 0))), (q_1, .inr (11, [.ref (u_3 0), .ref (u_3 2), .ref (u_3 4), .ref (u_3 19), .ref (u_3 34), .ref (u_3 35), .null, .int 0, .int 0, .int 0]))]) (n := 2) (R := _) ⟨hx, hb, hml, hown, htb⟩ (c_X12_lane l D cy q_5 (u_7 0) (u_7 1) (u_7 2) (u_7 3) (u_7 4) (u_7 5) (u_7 6) (u_7 7) (u_7 8) (u_7 9) (u_7 10) (u_7 11) (u_7 12) (u_7 13) (u_7 14) (u_7 15) (u_7 16) (u_7 17) (u_7 18) (u_7 19) (u_7 20) (u_7 21) (xs 1) (xs 2) 0) tw_1058 tw_1055 tw_1056 tw_1057 tw_71 rfl rfl (by decide +kernel) ⟨Nat.le_of_ble_eq_true rfl, Nat.le_of_ble_eq_true rfl⟩ hK hP hD hS hA [6] [0, 1, 2, 3, 4, 5, 7, 8] rfl rfl rfl rfl (by decide) 0 (ci := 12) rfl rfl rfl hl.1 rfl (Nat.le_of_ble_eq_true rfl) dL_law_322 ⟨Nat.le_of_ble_eq_true rfl, Nat.le_of_ble_eq_true rfl⟩ (fun r_73 u_74 H locs hw_75 hP hD hS => ?_)
      refine W.widen (k := 64) (n := 614) (by decide) (by decide) ?_
      have hw_75 : r_73 = (-101) := hw_75
      subst hw_75
      have hP : va_P D classes [((u_3 0), .inr (6, [.ref (u_3 1), .int 0])), ((u_3 1), .inl (cy, 44, .inl (fun _ => 0))), ((u_3 4), .inr (2, [.ref (u_3 5), .ref (u_3 10), .ref (u_3 15), .int 0, .int 0, .int 0])), ((u_3 5), .inr (8, [.ref (u_3 6), .ref (u_3 7), .ref (u_3 8), .ref (u_3 9), .int 0])), ((u_3 10), .inr (8, [.ref (u_3 11), .ref (u_3 12), .ref (u_3 13), .ref (u_3 14), .int 0])), ((u_3 15), .inr (4, [.ref (u_3 16), .ref (u_3 17), .ref (u_3 18), .int 0])), ((u_7 0), .inl (cy, 44, .inl (fun _ => 0))), (q_1, .inr (11, [.ref (u_3 0), .ref (u_3 2), .ref (u_3 4), .ref (u_3 19), .ref (u_3 34), .ref (u_3 35), .null, .int 0, .int 0, .int 0])), (q_5, .inr (12, [.ref (u_7 0), .int 0, .int 0, .int 0, .int 0, .int 0, .int 0, .int 0, .ref (u_7 1), .ref (u_7 2), .ref (u_7 3), .ref (u_7 4), .int 0, .ref (u_7 5), .ref (u_7 6), .ref (u_7 7), .ref (u_7 8), .int 0, .int 0, .int 0, .int 0, .ref (u_7 9), .ref (u_7 10), .int 0, .ref (u_7 11), .ref (u_7 12), .int 0, .int (-1), .int 0, .int 0, .int 0, .int 0, .int 0, .int 0, .ref (u_7 13), .ref (u_7 14), .ref (u_7 15), .ref (u_7 16), .ref (u_7 17), .ref (u_7 18), .ref (u_7 19), .ref (u_7 20), .ref (u_7 21), .long 0]))] H := hP
      have hD : va_D A [((u_3 0), .inr (6, [.ref (u_3 1), .int 0])), ((u_3 1), .inl (cy, 44, .inl (fun _ => 0))), ((u_3 4), .inr (2, [.ref (u_3 5), .ref (u_3 10), .ref (u_3 15), .int 0, .int 0, .int 0])), ((u_3 5), .inr (8, [.ref (u_3 6), .ref (u_3 7), .ref (u_3 8), .ref (u_3 9), .int 0])), ((u_3 10), .inr (8, [.ref (u_3 11), .ref (u_3 12), .ref (u_3 13), .ref (u_3 14), .int 0])), ((u_3 15), .inr (4, [.ref (u_3 16), .ref (u_3 17), .ref (u_3 18), .int 0])), ((u_7 0), .inl (cy, 44, .inl (fun _ => 0))), (q_1, .inr (11, [.ref (u_3 0), .ref (u_3 2), .ref (u_3 4), .ref (u_3 19), .ref (u_3 34), .ref (u_3 35), .null, .int 0, .int 0, .int 0])), (q_5, .inr (12, [.ref (u_7 0), .int 0, .int 0, .int 0, .int 0, .int 0, .int 0, .int 0, .ref (u_7 1), .ref (u_7 2), .ref (u_7 3), .ref (u_7 4), .int 0, .ref (u_7 5), .ref (u_7 6), .ref (u_7 7), .ref (u_7 8), .int 0, .int 0, .int 0, .int 0, .ref (u_7 9), .ref (u_7 10), .int 0, .ref (u_7 11), .ref (u_7 12), .int 0, .int (-1), .int 0, .int 0, .int 0, .int 0, .int 0, .int 0, .ref (u_7 13), .ref (u_7 14), .ref (u_7 15), .ref (u_7 16), .ref (u_7 17), .ref (u_7 18), .ref (u_7 19), .ref (u_7 20), .ref (u_7 21), .long 0]))] := hD
      refine lv_icmp_eq (tgt := 828) hx hb dL_law_325 (by decide) (fun c_76 => ?_) (fun c_76 => absurd rfl c_76)
      refine lv_iinc (v := 4) (lv' := [(3, .int 4), (2, .ref q_5), (1, .ref q_1), (0, .ref b)]) hx hb dL_law_828 hl (k := 0) rfl (by decide) (by decide) rfl (fun ls hl => ?_)
      refine lv_goto (tgt := 18) hx hb dL_law_831 (by decide) ?_
      refine lv_iload_n hx hb dL_law_18 rfl (lv_at hl 0 rfl) ?_
      refine lv_aload_n hx hb dL_law_19 rfl (lv_at hl 3 rfl) ?_
      refine va_slen hx hb hX hbl hbA hS dL_law_20 ?_
      refine wk_toi (y := 4) rfl ?_
      refine lv_iconst (v := 4) hx hb dL_law_21 (by decide) ?_
      refine lv_isub hx hb dL_law_22 ?_
      refine wk_toi (show ((4 - 4) : Int32) = 0 by decide) ?_
      refine lv_icmp_gt (tgt := 834) hx hb dL_law_23 (by decide) (fun _ => ?_) (fun c_77 => absurd (by decide) c_77)
      refine lv_iconst (v := 1) hx hb dL_law_834 (by decide) ?_
      refine va_forget (fun q hq => by have h9 := hS.2.2 q hq; rw [hAe] at h9; exact h9) ?_
      refine W.widen (k := 600000) (n := 7302250) (by decide) (by decide) ?_
      exact lw_ret hx hb hr hlocks dL_law_835
    · refine wk_toi (show nI 8 = 8 from rfl) ?_
      refine lv_tableIn (off := 298) (tgt := 330) hx hb dL_law_32 (by decide) (by decide) (by decide) (by decide) ?_
      refine lv_aload_n hx hb dL_law_330 rfl (lv_at hl 2 rfl) ?_
      refine lv_aload_n hx hb dL_law_331 rfl (lv_at hl 3 rfl) ?_
      refine lv_iload_n hx hb dL_law_332 rfl (lv_at hl 0 rfl) ?_
      refine lv_iconst (v := 1) hx hb dL_law_333 (by decide) ?_
      refine lv_iadd hx hb dL_law_334 ?_
      refine wk_toi (show ((0 + 1) : Int32) = 1 by decide) ?_
      refine va_sld hx hb hX hbl hbA hS (show vp_in 1 4 by unfold vp_in; decide) dL_law_335 ?_
      refine wk_toi (y := xs 1) rfl ?_
      refine lv_aload_n hx hb dL_law_336 rfl (lv_at hl 3 rfl) ?_
      refine lv_iload_n hx hb dL_law_337 rfl (lv_at hl 0 rfl) ?_
      refine lv_iconst (v := 2) hx hb dL_law_338 (by decide) ?_
      refine lv_iadd hx hb dL_law_339 ?_
      refine wk_toi (show ((0 + 2) : Int32) = 2 by decide) ?_
      refine va_sld hx hb hX hbl hbA hS (show vp_in 2 4 by unfold vp_in; decide) dL_law_340 ?_
      refine wk_toi (y := xs 2) rfl ?_
      refine wk_iV (As := [.int (xs 1), .int (xs 2)]) (rest := []) (wc := [(q_1, .inr (11, [.ref (u_3 0), .ref (u_3 2), .ref (u_3 4), .ref (u_3 19), .ref (u_3 34), .ref (u_3 35), .null, .int 0, .int 0, .int 0]))]) (wr := [((u_3 0), .inr (6, [.ref (u_3 1), .int 0])), ((u_3 1), .inl (cy, 44, .inl (fun _ => 0))), ((u_3 4), .inr (2, [.ref (u_3 5), .ref (u_3 10), .ref (u_3 15), .int 0, .int 0, .int 0])), ((u_3 5), .inr (8, [.ref (u_3 6), .ref (u_3 7), .ref (u_3 8), .ref (u_3 9), .int 0])), ((u_3 10), .inr (8, [.ref (u_3 11), .ref (u_3 12), .ref (u_3 13), .ref (u_3 14), .int 0])), ((u_3 15), .inr (4, [.ref (u_3 16), .ref (u_3 17), .ref (u_3 18), .int 0])), (q_5, .inr (12, [.ref (u_7 0), .int 0, .int 0, .int 0, .int 0, .int 0, .int 0, .int 0, .ref (u_7 1), .ref (u_7 2), .ref (u_7 3), .ref (u_7 4), .int 0, .ref (u_7 5), .ref (u_7 6), .ref (u_7 7), .ref (u_7 8), .int 0, .int 0, .int 0, .int 0, .ref (u_7 9), .ref (u_7 10), .int 0, .ref (u_7 11), .ref (u_7 12), .int 0, .int (-1), .int 0, .int 0, .int 0, .int 0, .int 0, .int 0, .ref (u_7 13), .ref (u_7 14), .ref (u_7 15), .ref (u_7 16), .ref (u_7 17), .ref (u_7 18), .ref (u_7 19), .ref (u_7 20), .ref (u_7 21), .long 0])), ((u_7 0), .inl (cy, 44, .inl (fun _ => 0)))]) (n := 2) (R := _) ⟨hx, hb, hml, hown, htb⟩ (c_X11_find l D cy q_1 (u_3 0) (u_3 2) (u_3 4) (u_3 19) (u_3 34) (u_3 35) (xs 1) (xs 2) ) tw_560 tw_557 tw_558 tw_559 tw_64 rfl rfl (by decide +kernel) ⟨Nat.le_of_ble_eq_true rfl, Nat.le_of_ble_eq_true rfl⟩ hK hP hD hS hA [0] [1, 2, 3, 4, 5, 6, 7, 8] rfl rfl rfl rfl (by decide) 0 (ci := 11) rfl rfl rfl hl.1 rfl (Nat.le_of_ble_eq_true rfl) dL_law_341 ⟨Nat.le_of_ble_eq_true rfl, Nat.le_of_ble_eq_true rfl⟩ (fun r_78 u_79 H locs hw_80 hP hD hS => ?_)
      refine W.widen (k := 64) (n := 614) (by decide) (by decide) ?_
      have hw_80 : r_78 = if (0 ≤ (xs 1).toInt ∧ (xs 1).toInt ≤ 99) ∧ (0 ≤ (xs 2).toInt ∧ (xs 2).toInt ≤ 3) then (-103) else (-102) := hw_80
      subst hw_80
      have hP : va_P D classes [((u_3 0), .inr (6, [.ref (u_3 1), .int 0])), ((u_3 1), .inl (cy, 44, .inl (fun _ => 0))), ((u_3 4), .inr (2, [.ref (u_3 5), .ref (u_3 10), .ref (u_3 15), .int 0, .int 0, .int 0])), ((u_3 5), .inr (8, [.ref (u_3 6), .ref (u_3 7), .ref (u_3 8), .ref (u_3 9), .int 0])), ((u_3 10), .inr (8, [.ref (u_3 11), .ref (u_3 12), .ref (u_3 13), .ref (u_3 14), .int 0])), ((u_3 15), .inr (4, [.ref (u_3 16), .ref (u_3 17), .ref (u_3 18), .int 0])), (q_5, .inr (12, [.ref (u_7 0), .int 0, .int 0, .int 0, .int 0, .int 0, .int 0, .int 0, .ref (u_7 1), .ref (u_7 2), .ref (u_7 3), .ref (u_7 4), .int 0, .ref (u_7 5), .ref (u_7 6), .ref (u_7 7), .ref (u_7 8), .int 0, .int 0, .int 0, .int 0, .ref (u_7 9), .ref (u_7 10), .int 0, .ref (u_7 11), .ref (u_7 12), .int 0, .int (-1), .int 0, .int 0, .int 0, .int 0, .int 0, .int 0, .ref (u_7 13), .ref (u_7 14), .ref (u_7 15), .ref (u_7 16), .ref (u_7 17), .ref (u_7 18), .ref (u_7 19), .ref (u_7 20), .ref (u_7 21), .long 0])), ((u_7 0), .inl (cy, 44, .inl (fun _ => 0))), (q_1, .inr (11, [.ref (u_3 0), .ref (u_3 2), .ref (u_3 4), .ref (u_3 19), .ref (u_3 34), .ref (u_3 35), .null, .int 0, .int 0, .int 0]))] H := hP
      have hD : va_D A [((u_3 0), .inr (6, [.ref (u_3 1), .int 0])), ((u_3 1), .inl (cy, 44, .inl (fun _ => 0))), ((u_3 4), .inr (2, [.ref (u_3 5), .ref (u_3 10), .ref (u_3 15), .int 0, .int 0, .int 0])), ((u_3 5), .inr (8, [.ref (u_3 6), .ref (u_3 7), .ref (u_3 8), .ref (u_3 9), .int 0])), ((u_3 10), .inr (8, [.ref (u_3 11), .ref (u_3 12), .ref (u_3 13), .ref (u_3 14), .int 0])), ((u_3 15), .inr (4, [.ref (u_3 16), .ref (u_3 17), .ref (u_3 18), .int 0])), (q_5, .inr (12, [.ref (u_7 0), .int 0, .int 0, .int 0, .int 0, .int 0, .int 0, .int 0, .ref (u_7 1), .ref (u_7 2), .ref (u_7 3), .ref (u_7 4), .int 0, .ref (u_7 5), .ref (u_7 6), .ref (u_7 7), .ref (u_7 8), .int 0, .int 0, .int 0, .int 0, .ref (u_7 9), .ref (u_7 10), .int 0, .ref (u_7 11), .ref (u_7 12), .int 0, .int (-1), .int 0, .int 0, .int 0, .int 0, .int 0, .int 0, .ref (u_7 13), .ref (u_7 14), .ref (u_7 15), .ref (u_7 16), .ref (u_7 17), .ref (u_7 18), .ref (u_7 19), .ref (u_7 20), .ref (u_7 21), .long 0])), ((u_7 0), .inl (cy, 44, .inl (fun _ => 0))), (q_1, .inr (11, [.ref (u_3 0), .ref (u_3 2), .ref (u_3 4), .ref (u_3 19), .ref (u_3 34), .ref (u_3 35), .null, .int 0, .int 0, .int 0]))] := hD
      refine lv_aload_n hx hb dL_law_344 rfl (lv_at hl 1 rfl) ?_
      refine lv_aload_n hx hb dL_law_345 rfl (lv_at hl 3 rfl) ?_
      refine lv_iload_n hx hb dL_law_346 rfl (lv_at hl 0 rfl) ?_
      refine lv_iconst (v := 1) hx hb dL_law_347 (by decide) ?_
      refine lv_iadd hx hb dL_law_348 ?_
      refine wk_toi (show ((0 + 1) : Int32) = 1 by decide) ?_
      refine va_sld hx hb hX hbl hbA hS (show vp_in 1 4 by unfold vp_in; decide) dL_law_349 ?_
      refine wk_toi (y := xs 1) rfl ?_
      refine lv_aload_n hx hb dL_law_350 rfl (lv_at hl 3 rfl) ?_
      refine lv_iload_n hx hb dL_law_351 rfl (lv_at hl 0 rfl) ?_
      refine lv_iconst (v := 2) hx hb dL_law_352 (by decide) ?_
      refine lv_iadd hx hb dL_law_353 ?_
      refine wk_toi (show ((0 + 2) : Int32) = 2 by decide) ?_
      refine va_sld hx hb hX hbl hbA hS (show vp_in 2 4 by unfold vp_in; decide) dL_law_354 ?_
      refine wk_toi (y := xs 2) rfl ?_
      refine wk_iV (As := [.int (xs 1), .int (xs 2)]) (rest := [.int (if (0 ≤ (xs 1).toInt ∧ (xs 1).toInt ≤ 99) ∧ (0 ≤ (xs 2).toInt ∧ (xs 2).toInt ≤ 3) then (-103) else (-102))]) (wc := [(q_5, .inr (12, [.ref (u_7 0), .int 0, .int 0, .int 0, .int 0, .int 0, .int 0, .int 0, .ref (u_7 1), .ref (u_7 2), .ref (u_7 3), .ref (u_7 4), .int 0, .ref (u_7 5), .ref (u_7 6), .ref (u_7 7), .ref (u_7 8), .int 0, .int 0, .int 0, .int 0, .ref (u_7 9), .ref (u_7 10), .int 0, .ref (u_7 11), .ref (u_7 12), .int 0, .int (-1), .int 0, .int 0, .int 0, .int 0, .int 0, .int 0, .ref (u_7 13), .ref (u_7 14), .ref (u_7 15), .ref (u_7 16), .ref (u_7 17), .ref (u_7 18), .ref (u_7 19), .ref (u_7 20), .ref (u_7 21), .long 0]))]) (wr := [((u_3 0), .inr (6, [.ref (u_3 1), .int 0])), ((u_3 1), .inl (cy, 44, .inl (fun _ => 0))), ((u_3 4), .inr (2, [.ref (u_3 5), .ref (u_3 10), .ref (u_3 15), .int 0, .int 0, .int 0])), ((u_3 5), .inr (8, [.ref (u_3 6), .ref (u_3 7), .ref (u_3 8), .ref (u_3 9), .int 0])), ((u_3 10), .inr (8, [.ref (u_3 11), .ref (u_3 12), .ref (u_3 13), .ref (u_3 14), .int 0])), ((u_3 15), .inr (4, [.ref (u_3 16), .ref (u_3 17), .ref (u_3 18), .int 0])), ((u_7 0), .inl (cy, 44, .inl (fun _ => 0))), (q_1, .inr (11, [.ref (u_3 0), .ref (u_3 2), .ref (u_3 4), .ref (u_3 19), .ref (u_3 34), .ref (u_3 35), .null, .int 0, .int 0, .int 0]))]) (n := 2) (R := _) ⟨hx, hb, hml, hown, htb⟩ (c_X12_find l D cy q_5 (u_7 0) (u_7 1) (u_7 2) (u_7 3) (u_7 4) (u_7 5) (u_7 6) (u_7 7) (u_7 8) (u_7 9) (u_7 10) (u_7 11) (u_7 12) (u_7 13) (u_7 14) (u_7 15) (u_7 16) (u_7 17) (u_7 18) (u_7 19) (u_7 20) (u_7 21) (xs 1) (xs 2) 0) tw_960 tw_957 tw_958 tw_959 tw_71 rfl rfl (by decide +kernel) ⟨Nat.le_of_ble_eq_true rfl, Nat.le_of_ble_eq_true rfl⟩ hK hP hD hS hA [6] [0, 1, 2, 3, 4, 5, 7, 8] rfl rfl rfl rfl (by decide) 0 (ci := 12) rfl rfl rfl hl.1 rfl (Nat.le_of_ble_eq_true rfl) dL_law_355 ⟨Nat.le_of_ble_eq_true rfl, Nat.le_of_ble_eq_true rfl⟩ (fun r_81 u_82 H locs hw_83 hP hD hS => ?_)
      refine W.widen (k := 64) (n := 614) (by decide) (by decide) ?_
      have hw_83 : r_81 = if (0 ≤ (xs 1).toInt ∧ (xs 1).toInt ≤ 99) ∧ (0 ≤ (xs 2).toInt ∧ (xs 2).toInt ≤ 3) then (-103) else (-102) := hw_83
      subst hw_83
      have hP : va_P D classes [((u_3 0), .inr (6, [.ref (u_3 1), .int 0])), ((u_3 1), .inl (cy, 44, .inl (fun _ => 0))), ((u_3 4), .inr (2, [.ref (u_3 5), .ref (u_3 10), .ref (u_3 15), .int 0, .int 0, .int 0])), ((u_3 5), .inr (8, [.ref (u_3 6), .ref (u_3 7), .ref (u_3 8), .ref (u_3 9), .int 0])), ((u_3 10), .inr (8, [.ref (u_3 11), .ref (u_3 12), .ref (u_3 13), .ref (u_3 14), .int 0])), ((u_3 15), .inr (4, [.ref (u_3 16), .ref (u_3 17), .ref (u_3 18), .int 0])), ((u_7 0), .inl (cy, 44, .inl (fun _ => 0))), (q_1, .inr (11, [.ref (u_3 0), .ref (u_3 2), .ref (u_3 4), .ref (u_3 19), .ref (u_3 34), .ref (u_3 35), .null, .int 0, .int 0, .int 0])), (q_5, .inr (12, [.ref (u_7 0), .int 0, .int 0, .int 0, .int 0, .int 0, .int 0, .int 0, .ref (u_7 1), .ref (u_7 2), .ref (u_7 3), .ref (u_7 4), .int 0, .ref (u_7 5), .ref (u_7 6), .ref (u_7 7), .ref (u_7 8), .int 0, .int 0, .int 0, .int 0, .ref (u_7 9), .ref (u_7 10), .int 0, .ref (u_7 11), .ref (u_7 12), .int 0, .int (-1), .int 0, .int 0, .int 0, .int 0, .int 0, .int 0, .ref (u_7 13), .ref (u_7 14), .ref (u_7 15), .ref (u_7 16), .ref (u_7 17), .ref (u_7 18), .ref (u_7 19), .ref (u_7 20), .ref (u_7 21), .long 0]))] H := hP
      have hD : va_D A [((u_3 0), .inr (6, [.ref (u_3 1), .int 0])), ((u_3 1), .inl (cy, 44, .inl (fun _ => 0))), ((u_3 4), .inr (2, [.ref (u_3 5), .ref (u_3 10), .ref (u_3 15), .int 0, .int 0, .int 0])), ((u_3 5), .inr (8, [.ref (u_3 6), .ref (u_3 7), .ref (u_3 8), .ref (u_3 9), .int 0])), ((u_3 10), .inr (8, [.ref (u_3 11), .ref (u_3 12), .ref (u_3 13), .ref (u_3 14), .int 0])), ((u_3 15), .inr (4, [.ref (u_3 16), .ref (u_3 17), .ref (u_3 18), .int 0])), ((u_7 0), .inl (cy, 44, .inl (fun _ => 0))), (q_1, .inr (11, [.ref (u_3 0), .ref (u_3 2), .ref (u_3 4), .ref (u_3 19), .ref (u_3 34), .ref (u_3 35), .null, .int 0, .int 0, .int 0])), (q_5, .inr (12, [.ref (u_7 0), .int 0, .int 0, .int 0, .int 0, .int 0, .int 0, .int 0, .ref (u_7 1), .ref (u_7 2), .ref (u_7 3), .ref (u_7 4), .int 0, .ref (u_7 5), .ref (u_7 6), .ref (u_7 7), .ref (u_7 8), .int 0, .int 0, .int 0, .int 0, .ref (u_7 9), .ref (u_7 10), .int 0, .ref (u_7 11), .ref (u_7 12), .int 0, .int (-1), .int 0, .int 0, .int 0, .int 0, .int 0, .int 0, .ref (u_7 13), .ref (u_7 14), .ref (u_7 15), .ref (u_7 16), .ref (u_7 17), .ref (u_7 18), .ref (u_7 19), .ref (u_7 20), .ref (u_7 21), .long 0]))] := hD
      refine lv_icmp_eq (tgt := 828) hx hb dL_law_358 (by decide) (fun c_84 => ?_) (fun c_84 => absurd rfl c_84)
      refine lv_iinc (v := 4) (lv' := [(3, .int 4), (2, .ref q_5), (1, .ref q_1), (0, .ref b)]) hx hb dL_law_828 hl (k := 0) rfl (by decide) (by decide) rfl (fun ls hl => ?_)
      refine lv_goto (tgt := 18) hx hb dL_law_831 (by decide) ?_
      refine lv_iload_n hx hb dL_law_18 rfl (lv_at hl 0 rfl) ?_
      refine lv_aload_n hx hb dL_law_19 rfl (lv_at hl 3 rfl) ?_
      refine va_slen hx hb hX hbl hbA hS dL_law_20 ?_
      refine wk_toi (y := 4) rfl ?_
      refine lv_iconst (v := 4) hx hb dL_law_21 (by decide) ?_
      refine lv_isub hx hb dL_law_22 ?_
      refine wk_toi (show ((4 - 4) : Int32) = 0 by decide) ?_
      refine lv_icmp_gt (tgt := 834) hx hb dL_law_23 (by decide) (fun _ => ?_) (fun c_85 => absurd (by decide) c_85)
      refine lv_iconst (v := 1) hx hb dL_law_834 (by decide) ?_
      refine va_forget (fun q hq => by have h9 := hS.2.2 q hq; rw [hAe] at h9; exact h9) ?_
      refine W.widen (k := 600000) (n := 7302250) (by decide) (by decide) ?_
      exact lw_ret hx hb hr hlocks dL_law_835
    · refine wk_toi (show nI 9 = 9 from rfl) ?_
      refine lv_tableIn (off := 331) (tgt := 363) hx hb dL_law_32 (by decide) (by decide) (by decide) (by decide) ?_
      refine lv_aload_n hx hb dL_law_363 rfl (lv_at hl 2 rfl) ?_
      refine lv_aload_n hx hb dL_law_364 rfl (lv_at hl 3 rfl) ?_
      refine lv_iload_n hx hb dL_law_365 rfl (lv_at hl 0 rfl) ?_
      refine lv_iconst (v := 1) hx hb dL_law_366 (by decide) ?_
      refine lv_iadd hx hb dL_law_367 ?_
      refine wk_toi (show ((0 + 1) : Int32) = 1 by decide) ?_
      refine va_sld hx hb hX hbl hbA hS (show vp_in 1 4 by unfold vp_in; decide) dL_law_368 ?_
      refine wk_toi (y := xs 1) rfl ?_
      refine lv_aload_n hx hb dL_law_369 rfl (lv_at hl 3 rfl) ?_
      refine lv_iload_n hx hb dL_law_370 rfl (lv_at hl 0 rfl) ?_
      refine lv_iconst (v := 2) hx hb dL_law_371 (by decide) ?_
      refine lv_iadd hx hb dL_law_372 ?_
      refine wk_toi (show ((0 + 2) : Int32) = 2 by decide) ?_
      refine va_sld hx hb hX hbl hbA hS (show vp_in 2 4 by unfold vp_in; decide) dL_law_373 ?_
      refine wk_toi (y := xs 2) rfl ?_
      refine wk_iV (As := [.int (xs 1), .int (xs 2)]) (rest := []) (wc := [(q_1, .inr (11, [.ref (u_3 0), .ref (u_3 2), .ref (u_3 4), .ref (u_3 19), .ref (u_3 34), .ref (u_3 35), .null, .int 0, .int 0, .int 0])), ((u_3 4), .inr (2, [.ref (u_3 5), .ref (u_3 10), .ref (u_3 15), .int 0, .int 0, .int 0])), ((u_3 5), .inr (8, [.ref (u_3 6), .ref (u_3 7), .ref (u_3 8), .ref (u_3 9), .int 0]))]) (wr := [((u_3 0), .inr (6, [.ref (u_3 1), .int 0])), ((u_3 1), .inl (cy, 44, .inl (fun _ => 0))), ((u_3 10), .inr (8, [.ref (u_3 11), .ref (u_3 12), .ref (u_3 13), .ref (u_3 14), .int 0])), ((u_3 15), .inr (4, [.ref (u_3 16), .ref (u_3 17), .ref (u_3 18), .int 0])), (q_5, .inr (12, [.ref (u_7 0), .int 0, .int 0, .int 0, .int 0, .int 0, .int 0, .int 0, .ref (u_7 1), .ref (u_7 2), .ref (u_7 3), .ref (u_7 4), .int 0, .ref (u_7 5), .ref (u_7 6), .ref (u_7 7), .ref (u_7 8), .int 0, .int 0, .int 0, .int 0, .ref (u_7 9), .ref (u_7 10), .int 0, .ref (u_7 11), .ref (u_7 12), .int 0, .int (-1), .int 0, .int 0, .int 0, .int 0, .int 0, .int 0, .ref (u_7 13), .ref (u_7 14), .ref (u_7 15), .ref (u_7 16), .ref (u_7 17), .ref (u_7 18), .ref (u_7 19), .ref (u_7 20), .ref (u_7 21), .long 0])), ((u_7 0), .inl (cy, 44, .inl (fun _ => 0)))]) (n := 2) (R := _) ⟨hx, hb, hml, hown, htb⟩ (c_X11_nth l D cy q_1 (u_3 0) (u_3 2) (u_3 4) (u_3 19) (u_3 34) (u_3 35) (u_3 5) (u_3 10) (u_3 15) (u_3 6) (u_3 7) (u_3 8) (u_3 9) (xs 1) (xs 2) ) tw_571 tw_568 tw_569 tw_570 tw_64 rfl rfl (by decide +kernel) ⟨Nat.le_of_ble_eq_true rfl, Nat.le_of_ble_eq_true rfl⟩ hK hP hD hS hA [0, 3, 4] [1, 2, 5, 6, 7, 8] rfl rfl rfl rfl (by decide) 0 (ci := 11) rfl rfl rfl hl.1 rfl (Nat.le_of_ble_eq_true rfl) dL_law_374 ⟨Nat.le_of_ble_eq_true rfl, Nat.le_of_ble_eq_true rfl⟩ (fun r_86 u_87 H locs hw_88 hP hD hS => ?_)
      refine W.widen (k := 64) (n := 614) (by decide) (by decide) ?_
      have hw_88 : r_86 = (-101) := hw_88
      subst hw_88
      have hP : va_P D classes [((u_3 0), .inr (6, [.ref (u_3 1), .int 0])), ((u_3 1), .inl (cy, 44, .inl (fun _ => 0))), ((u_3 10), .inr (8, [.ref (u_3 11), .ref (u_3 12), .ref (u_3 13), .ref (u_3 14), .int 0])), ((u_3 15), .inr (4, [.ref (u_3 16), .ref (u_3 17), .ref (u_3 18), .int 0])), (q_5, .inr (12, [.ref (u_7 0), .int 0, .int 0, .int 0, .int 0, .int 0, .int 0, .int 0, .ref (u_7 1), .ref (u_7 2), .ref (u_7 3), .ref (u_7 4), .int 0, .ref (u_7 5), .ref (u_7 6), .ref (u_7 7), .ref (u_7 8), .int 0, .int 0, .int 0, .int 0, .ref (u_7 9), .ref (u_7 10), .int 0, .ref (u_7 11), .ref (u_7 12), .int 0, .int (-1), .int 0, .int 0, .int 0, .int 0, .int 0, .int 0, .ref (u_7 13), .ref (u_7 14), .ref (u_7 15), .ref (u_7 16), .ref (u_7 17), .ref (u_7 18), .ref (u_7 19), .ref (u_7 20), .ref (u_7 21), .long 0])), ((u_7 0), .inl (cy, 44, .inl (fun _ => 0))), (q_1, .inr (11, [.ref (u_3 0), .ref (u_3 2), .ref (u_3 4), .ref (u_3 19), .ref (u_3 34), .ref (u_3 35), .null, .int 0, .int 0, .int 0])), ((u_3 4), .inr (2, [.ref (u_3 5), .ref (u_3 10), .ref (u_3 15), .int 0, .int 0, .int 0])), ((u_3 5), .inr (8, [.ref (u_3 6), .ref (u_3 7), .ref (u_3 8), .ref (u_3 9), .int 0]))] H := hP
      have hD : va_D A [((u_3 0), .inr (6, [.ref (u_3 1), .int 0])), ((u_3 1), .inl (cy, 44, .inl (fun _ => 0))), ((u_3 10), .inr (8, [.ref (u_3 11), .ref (u_3 12), .ref (u_3 13), .ref (u_3 14), .int 0])), ((u_3 15), .inr (4, [.ref (u_3 16), .ref (u_3 17), .ref (u_3 18), .int 0])), (q_5, .inr (12, [.ref (u_7 0), .int 0, .int 0, .int 0, .int 0, .int 0, .int 0, .int 0, .ref (u_7 1), .ref (u_7 2), .ref (u_7 3), .ref (u_7 4), .int 0, .ref (u_7 5), .ref (u_7 6), .ref (u_7 7), .ref (u_7 8), .int 0, .int 0, .int 0, .int 0, .ref (u_7 9), .ref (u_7 10), .int 0, .ref (u_7 11), .ref (u_7 12), .int 0, .int (-1), .int 0, .int 0, .int 0, .int 0, .int 0, .int 0, .ref (u_7 13), .ref (u_7 14), .ref (u_7 15), .ref (u_7 16), .ref (u_7 17), .ref (u_7 18), .ref (u_7 19), .ref (u_7 20), .ref (u_7 21), .long 0])), ((u_7 0), .inl (cy, 44, .inl (fun _ => 0))), (q_1, .inr (11, [.ref (u_3 0), .ref (u_3 2), .ref (u_3 4), .ref (u_3 19), .ref (u_3 34), .ref (u_3 35), .null, .int 0, .int 0, .int 0])), ((u_3 4), .inr (2, [.ref (u_3 5), .ref (u_3 10), .ref (u_3 15), .int 0, .int 0, .int 0])), ((u_3 5), .inr (8, [.ref (u_3 6), .ref (u_3 7), .ref (u_3 8), .ref (u_3 9), .int 0]))] := hD
      refine lv_aload_n hx hb dL_law_377 rfl (lv_at hl 1 rfl) ?_
      refine lv_aload_n hx hb dL_law_378 rfl (lv_at hl 3 rfl) ?_
      refine lv_iload_n hx hb dL_law_379 rfl (lv_at hl 0 rfl) ?_
      refine lv_iconst (v := 1) hx hb dL_law_380 (by decide) ?_
      refine lv_iadd hx hb dL_law_381 ?_
      refine wk_toi (show ((0 + 1) : Int32) = 1 by decide) ?_
      refine va_sld hx hb hX hbl hbA hS (show vp_in 1 4 by unfold vp_in; decide) dL_law_382 ?_
      refine wk_toi (y := xs 1) rfl ?_
      refine lv_aload_n hx hb dL_law_383 rfl (lv_at hl 3 rfl) ?_
      refine lv_iload_n hx hb dL_law_384 rfl (lv_at hl 0 rfl) ?_
      refine lv_iconst (v := 2) hx hb dL_law_385 (by decide) ?_
      refine lv_iadd hx hb dL_law_386 ?_
      refine wk_toi (show ((0 + 2) : Int32) = 2 by decide) ?_
      refine va_sld hx hb hX hbl hbA hS (show vp_in 2 4 by unfold vp_in; decide) dL_law_387 ?_
      refine wk_toi (y := xs 2) rfl ?_
      refine wk_iV (As := [.int (xs 1), .int (xs 2)]) (rest := [.int (-101)]) (wc := [(q_5, .inr (12, [.ref (u_7 0), .int 0, .int 0, .int 0, .int 0, .int 0, .int 0, .int 0, .ref (u_7 1), .ref (u_7 2), .ref (u_7 3), .ref (u_7 4), .int 0, .ref (u_7 5), .ref (u_7 6), .ref (u_7 7), .ref (u_7 8), .int 0, .int 0, .int 0, .int 0, .ref (u_7 9), .ref (u_7 10), .int 0, .ref (u_7 11), .ref (u_7 12), .int 0, .int (-1), .int 0, .int 0, .int 0, .int 0, .int 0, .int 0, .ref (u_7 13), .ref (u_7 14), .ref (u_7 15), .ref (u_7 16), .ref (u_7 17), .ref (u_7 18), .ref (u_7 19), .ref (u_7 20), .ref (u_7 21), .long 0]))]) (wr := [((u_3 0), .inr (6, [.ref (u_3 1), .int 0])), ((u_3 1), .inl (cy, 44, .inl (fun _ => 0))), ((u_3 10), .inr (8, [.ref (u_3 11), .ref (u_3 12), .ref (u_3 13), .ref (u_3 14), .int 0])), ((u_3 15), .inr (4, [.ref (u_3 16), .ref (u_3 17), .ref (u_3 18), .int 0])), ((u_7 0), .inl (cy, 44, .inl (fun _ => 0))), (q_1, .inr (11, [.ref (u_3 0), .ref (u_3 2), .ref (u_3 4), .ref (u_3 19), .ref (u_3 34), .ref (u_3 35), .null, .int 0, .int 0, .int 0])), ((u_3 4), .inr (2, [.ref (u_3 5), .ref (u_3 10), .ref (u_3 15), .int 0, .int 0, .int 0])), ((u_3 5), .inr (8, [.ref (u_3 6), .ref (u_3 7), .ref (u_3 8), .ref (u_3 9), .int 0]))]) (n := 2) (R := _) ⟨hx, hb, hml, hown, htb⟩ (c_X12_nth l D cy q_5 (u_7 0) (u_7 1) (u_7 2) (u_7 3) (u_7 4) (u_7 5) (u_7 6) (u_7 7) (u_7 8) (u_7 9) (u_7 10) (u_7 11) (u_7 12) (u_7 13) (u_7 14) (u_7 15) (u_7 16) (u_7 17) (u_7 18) (u_7 19) (u_7 20) (u_7 21) (xs 1) (xs 2) 0) tw_993 tw_990 tw_991 tw_992 tw_71 rfl rfl (by decide +kernel) ⟨Nat.le_of_ble_eq_true rfl, Nat.le_of_ble_eq_true rfl⟩ hK hP hD hS hA [4] [0, 1, 2, 3, 5, 6, 7, 8] rfl rfl rfl rfl (by decide) 0 (ci := 12) rfl rfl rfl hl.1 rfl (Nat.le_of_ble_eq_true rfl) dL_law_388 ⟨Nat.le_of_ble_eq_true rfl, Nat.le_of_ble_eq_true rfl⟩ (fun r_89 u_90 H locs hw_91 hP hD hS => ?_)
      refine W.widen (k := 64) (n := 614) (by decide) (by decide) ?_
      have hw_91 : r_89 = (-101) := hw_91
      subst hw_91
      have hP : va_P D classes [((u_3 0), .inr (6, [.ref (u_3 1), .int 0])), ((u_3 1), .inl (cy, 44, .inl (fun _ => 0))), ((u_3 10), .inr (8, [.ref (u_3 11), .ref (u_3 12), .ref (u_3 13), .ref (u_3 14), .int 0])), ((u_3 15), .inr (4, [.ref (u_3 16), .ref (u_3 17), .ref (u_3 18), .int 0])), ((u_7 0), .inl (cy, 44, .inl (fun _ => 0))), (q_1, .inr (11, [.ref (u_3 0), .ref (u_3 2), .ref (u_3 4), .ref (u_3 19), .ref (u_3 34), .ref (u_3 35), .null, .int 0, .int 0, .int 0])), ((u_3 4), .inr (2, [.ref (u_3 5), .ref (u_3 10), .ref (u_3 15), .int 0, .int 0, .int 0])), ((u_3 5), .inr (8, [.ref (u_3 6), .ref (u_3 7), .ref (u_3 8), .ref (u_3 9), .int 0])), (q_5, .inr (12, [.ref (u_7 0), .int 0, .int 0, .int 0, .int 0, .int 0, .int 0, .int 0, .ref (u_7 1), .ref (u_7 2), .ref (u_7 3), .ref (u_7 4), .int 0, .ref (u_7 5), .ref (u_7 6), .ref (u_7 7), .ref (u_7 8), .int 0, .int 0, .int 0, .int 0, .ref (u_7 9), .ref (u_7 10), .int 0, .ref (u_7 11), .ref (u_7 12), .int 0, .int (-1), .int 0, .int 0, .int 0, .int 0, .int 0, .int 0, .ref (u_7 13), .ref (u_7 14), .ref (u_7 15), .ref (u_7 16), .ref (u_7 17), .ref (u_7 18), .ref (u_7 19), .ref (u_7 20), .ref (u_7 21), .long 0]))] H := hP
      have hD : va_D A [((u_3 0), .inr (6, [.ref (u_3 1), .int 0])), ((u_3 1), .inl (cy, 44, .inl (fun _ => 0))), ((u_3 10), .inr (8, [.ref (u_3 11), .ref (u_3 12), .ref (u_3 13), .ref (u_3 14), .int 0])), ((u_3 15), .inr (4, [.ref (u_3 16), .ref (u_3 17), .ref (u_3 18), .int 0])), ((u_7 0), .inl (cy, 44, .inl (fun _ => 0))), (q_1, .inr (11, [.ref (u_3 0), .ref (u_3 2), .ref (u_3 4), .ref (u_3 19), .ref (u_3 34), .ref (u_3 35), .null, .int 0, .int 0, .int 0])), ((u_3 4), .inr (2, [.ref (u_3 5), .ref (u_3 10), .ref (u_3 15), .int 0, .int 0, .int 0])), ((u_3 5), .inr (8, [.ref (u_3 6), .ref (u_3 7), .ref (u_3 8), .ref (u_3 9), .int 0])), (q_5, .inr (12, [.ref (u_7 0), .int 0, .int 0, .int 0, .int 0, .int 0, .int 0, .int 0, .ref (u_7 1), .ref (u_7 2), .ref (u_7 3), .ref (u_7 4), .int 0, .ref (u_7 5), .ref (u_7 6), .ref (u_7 7), .ref (u_7 8), .int 0, .int 0, .int 0, .int 0, .ref (u_7 9), .ref (u_7 10), .int 0, .ref (u_7 11), .ref (u_7 12), .int 0, .int (-1), .int 0, .int 0, .int 0, .int 0, .int 0, .int 0, .ref (u_7 13), .ref (u_7 14), .ref (u_7 15), .ref (u_7 16), .ref (u_7 17), .ref (u_7 18), .ref (u_7 19), .ref (u_7 20), .ref (u_7 21), .long 0]))] := hD
      refine lv_icmp_eq (tgt := 828) hx hb dL_law_391 (by decide) (fun c_92 => ?_) (fun c_92 => absurd rfl c_92)
      refine lv_iinc (v := 4) (lv' := [(3, .int 4), (2, .ref q_5), (1, .ref q_1), (0, .ref b)]) hx hb dL_law_828 hl (k := 0) rfl (by decide) (by decide) rfl (fun ls hl => ?_)
      refine lv_goto (tgt := 18) hx hb dL_law_831 (by decide) ?_
      refine lv_iload_n hx hb dL_law_18 rfl (lv_at hl 0 rfl) ?_
      refine lv_aload_n hx hb dL_law_19 rfl (lv_at hl 3 rfl) ?_
      refine va_slen hx hb hX hbl hbA hS dL_law_20 ?_
      refine wk_toi (y := 4) rfl ?_
      refine lv_iconst (v := 4) hx hb dL_law_21 (by decide) ?_
      refine lv_isub hx hb dL_law_22 ?_
      refine wk_toi (show ((4 - 4) : Int32) = 0 by decide) ?_
      refine lv_icmp_gt (tgt := 834) hx hb dL_law_23 (by decide) (fun _ => ?_) (fun c_93 => absurd (by decide) c_93)
      refine lv_iconst (v := 1) hx hb dL_law_834 (by decide) ?_
      refine va_forget (fun q hq => by have h9 := hS.2.2 q hq; rw [hAe] at h9; exact h9) ?_
      refine W.widen (k := 600000) (n := 7302250) (by decide) (by decide) ?_
      exact lw_ret hx hb hr hlocks dL_law_835
    · refine wk_toi (show nI 10 = 10 from rfl) ?_
      refine lv_tableIn (off := 364) (tgt := 396) hx hb dL_law_32 (by decide) (by decide) (by decide) (by decide) ?_
      refine lv_aload_n hx hb dL_law_396 rfl (lv_at hl 2 rfl) ?_
      refine lv_aload_n hx hb dL_law_397 rfl (lv_at hl 3 rfl) ?_
      refine lv_iload_n hx hb dL_law_398 rfl (lv_at hl 0 rfl) ?_
      refine lv_iconst (v := 1) hx hb dL_law_399 (by decide) ?_
      refine lv_iadd hx hb dL_law_400 ?_
      refine wk_toi (show ((0 + 1) : Int32) = 1 by decide) ?_
      refine va_sld hx hb hX hbl hbA hS (show vp_in 1 4 by unfold vp_in; decide) dL_law_401 ?_
      refine wk_toi (y := xs 1) rfl ?_
      refine lv_aload_n hx hb dL_law_402 rfl (lv_at hl 3 rfl) ?_
      refine lv_iload_n hx hb dL_law_403 rfl (lv_at hl 0 rfl) ?_
      refine lv_iconst (v := 2) hx hb dL_law_404 (by decide) ?_
      refine lv_iadd hx hb dL_law_405 ?_
      refine wk_toi (show ((0 + 2) : Int32) = 2 by decide) ?_
      refine va_sld hx hb hX hbl hbA hS (show vp_in 2 4 by unfold vp_in; decide) dL_law_406 ?_
      refine wk_toi (y := xs 2) rfl ?_
      refine wk_iV (As := [.int (xs 1), .int (xs 2)]) (rest := []) (wc := [(q_1, .inr (11, [.ref (u_3 0), .ref (u_3 2), .ref (u_3 4), .ref (u_3 19), .ref (u_3 34), .ref (u_3 35), .null, .int 0, .int 0, .int 0]))]) (wr := [((u_3 0), .inr (6, [.ref (u_3 1), .int 0])), ((u_3 1), .inl (cy, 44, .inl (fun _ => 0))), ((u_3 4), .inr (2, [.ref (u_3 5), .ref (u_3 10), .ref (u_3 15), .int 0, .int 0, .int 0])), ((u_3 5), .inr (8, [.ref (u_3 6), .ref (u_3 7), .ref (u_3 8), .ref (u_3 9), .int 0])), ((u_3 10), .inr (8, [.ref (u_3 11), .ref (u_3 12), .ref (u_3 13), .ref (u_3 14), .int 0])), ((u_3 15), .inr (4, [.ref (u_3 16), .ref (u_3 17), .ref (u_3 18), .int 0])), (q_5, .inr (12, [.ref (u_7 0), .int 0, .int 0, .int 0, .int 0, .int 0, .int 0, .int 0, .ref (u_7 1), .ref (u_7 2), .ref (u_7 3), .ref (u_7 4), .int 0, .ref (u_7 5), .ref (u_7 6), .ref (u_7 7), .ref (u_7 8), .int 0, .int 0, .int 0, .int 0, .ref (u_7 9), .ref (u_7 10), .int 0, .ref (u_7 11), .ref (u_7 12), .int 0, .int (-1), .int 0, .int 0, .int 0, .int 0, .int 0, .int 0, .ref (u_7 13), .ref (u_7 14), .ref (u_7 15), .ref (u_7 16), .ref (u_7 17), .ref (u_7 18), .ref (u_7 19), .ref (u_7 20), .ref (u_7 21), .long 0])), ((u_7 0), .inl (cy, 44, .inl (fun _ => 0)))]) (n := 2) (R := _) ⟨hx, hb, hml, hown, htb⟩ (c_X11_sum l D cy q_1 (u_3 0) (u_3 2) (u_3 4) (u_3 19) (u_3 34) (u_3 35) (xs 1) (xs 2) ) tw_575 tw_572 tw_573 tw_574 tw_64 rfl rfl (by decide +kernel) ⟨Nat.le_of_ble_eq_true rfl, Nat.le_of_ble_eq_true rfl⟩ hK hP hD hS hA [0] [1, 2, 3, 4, 5, 6, 7, 8] rfl rfl rfl rfl (by decide) 0 (ci := 11) rfl rfl rfl hl.1 rfl (Nat.le_of_ble_eq_true rfl) dL_law_407 ⟨Nat.le_of_ble_eq_true rfl, Nat.le_of_ble_eq_true rfl⟩ (fun r_94 u_95 H locs hw_96 hP hD hS => ?_)
      refine W.widen (k := 64) (n := 614) (by decide) (by decide) ?_
      have hw_96 : r_94 = if (0 ≤ (xs 1).toInt ∧ (xs 1).toInt ≤ 99) ∧ (0 ≤ (xs 2).toInt ∧ (xs 2).toInt ≤ 99) ∧ (xs 1).toInt ≤ (xs 2).toInt then (-103) else (-102) := hw_96
      subst hw_96
      have hP : va_P D classes [((u_3 0), .inr (6, [.ref (u_3 1), .int 0])), ((u_3 1), .inl (cy, 44, .inl (fun _ => 0))), ((u_3 4), .inr (2, [.ref (u_3 5), .ref (u_3 10), .ref (u_3 15), .int 0, .int 0, .int 0])), ((u_3 5), .inr (8, [.ref (u_3 6), .ref (u_3 7), .ref (u_3 8), .ref (u_3 9), .int 0])), ((u_3 10), .inr (8, [.ref (u_3 11), .ref (u_3 12), .ref (u_3 13), .ref (u_3 14), .int 0])), ((u_3 15), .inr (4, [.ref (u_3 16), .ref (u_3 17), .ref (u_3 18), .int 0])), (q_5, .inr (12, [.ref (u_7 0), .int 0, .int 0, .int 0, .int 0, .int 0, .int 0, .int 0, .ref (u_7 1), .ref (u_7 2), .ref (u_7 3), .ref (u_7 4), .int 0, .ref (u_7 5), .ref (u_7 6), .ref (u_7 7), .ref (u_7 8), .int 0, .int 0, .int 0, .int 0, .ref (u_7 9), .ref (u_7 10), .int 0, .ref (u_7 11), .ref (u_7 12), .int 0, .int (-1), .int 0, .int 0, .int 0, .int 0, .int 0, .int 0, .ref (u_7 13), .ref (u_7 14), .ref (u_7 15), .ref (u_7 16), .ref (u_7 17), .ref (u_7 18), .ref (u_7 19), .ref (u_7 20), .ref (u_7 21), .long 0])), ((u_7 0), .inl (cy, 44, .inl (fun _ => 0))), (q_1, .inr (11, [.ref (u_3 0), .ref (u_3 2), .ref (u_3 4), .ref (u_3 19), .ref (u_3 34), .ref (u_3 35), .null, .int 0, .int 0, .int 0]))] H := hP
      have hD : va_D A [((u_3 0), .inr (6, [.ref (u_3 1), .int 0])), ((u_3 1), .inl (cy, 44, .inl (fun _ => 0))), ((u_3 4), .inr (2, [.ref (u_3 5), .ref (u_3 10), .ref (u_3 15), .int 0, .int 0, .int 0])), ((u_3 5), .inr (8, [.ref (u_3 6), .ref (u_3 7), .ref (u_3 8), .ref (u_3 9), .int 0])), ((u_3 10), .inr (8, [.ref (u_3 11), .ref (u_3 12), .ref (u_3 13), .ref (u_3 14), .int 0])), ((u_3 15), .inr (4, [.ref (u_3 16), .ref (u_3 17), .ref (u_3 18), .int 0])), (q_5, .inr (12, [.ref (u_7 0), .int 0, .int 0, .int 0, .int 0, .int 0, .int 0, .int 0, .ref (u_7 1), .ref (u_7 2), .ref (u_7 3), .ref (u_7 4), .int 0, .ref (u_7 5), .ref (u_7 6), .ref (u_7 7), .ref (u_7 8), .int 0, .int 0, .int 0, .int 0, .ref (u_7 9), .ref (u_7 10), .int 0, .ref (u_7 11), .ref (u_7 12), .int 0, .int (-1), .int 0, .int 0, .int 0, .int 0, .int 0, .int 0, .ref (u_7 13), .ref (u_7 14), .ref (u_7 15), .ref (u_7 16), .ref (u_7 17), .ref (u_7 18), .ref (u_7 19), .ref (u_7 20), .ref (u_7 21), .long 0])), ((u_7 0), .inl (cy, 44, .inl (fun _ => 0))), (q_1, .inr (11, [.ref (u_3 0), .ref (u_3 2), .ref (u_3 4), .ref (u_3 19), .ref (u_3 34), .ref (u_3 35), .null, .int 0, .int 0, .int 0]))] := hD
      refine lv_aload_n hx hb dL_law_410 rfl (lv_at hl 1 rfl) ?_
      refine lv_aload_n hx hb dL_law_411 rfl (lv_at hl 3 rfl) ?_
      refine lv_iload_n hx hb dL_law_412 rfl (lv_at hl 0 rfl) ?_
      refine lv_iconst (v := 1) hx hb dL_law_413 (by decide) ?_
      refine lv_iadd hx hb dL_law_414 ?_
      refine wk_toi (show ((0 + 1) : Int32) = 1 by decide) ?_
      refine va_sld hx hb hX hbl hbA hS (show vp_in 1 4 by unfold vp_in; decide) dL_law_415 ?_
      refine wk_toi (y := xs 1) rfl ?_
      refine lv_aload_n hx hb dL_law_416 rfl (lv_at hl 3 rfl) ?_
      refine lv_iload_n hx hb dL_law_417 rfl (lv_at hl 0 rfl) ?_
      refine lv_iconst (v := 2) hx hb dL_law_418 (by decide) ?_
      refine lv_iadd hx hb dL_law_419 ?_
      refine wk_toi (show ((0 + 2) : Int32) = 2 by decide) ?_
      refine va_sld hx hb hX hbl hbA hS (show vp_in 2 4 by unfold vp_in; decide) dL_law_420 ?_
      refine wk_toi (y := xs 2) rfl ?_
      refine wk_iV (As := [.int (xs 1), .int (xs 2)]) (rest := [.int (if (0 ≤ (xs 1).toInt ∧ (xs 1).toInt ≤ 99) ∧ (0 ≤ (xs 2).toInt ∧ (xs 2).toInt ≤ 99) ∧ (xs 1).toInt ≤ (xs 2).toInt then (-103) else (-102))]) (wc := [(q_5, .inr (12, [.ref (u_7 0), .int 0, .int 0, .int 0, .int 0, .int 0, .int 0, .int 0, .ref (u_7 1), .ref (u_7 2), .ref (u_7 3), .ref (u_7 4), .int 0, .ref (u_7 5), .ref (u_7 6), .ref (u_7 7), .ref (u_7 8), .int 0, .int 0, .int 0, .int 0, .ref (u_7 9), .ref (u_7 10), .int 0, .ref (u_7 11), .ref (u_7 12), .int 0, .int (-1), .int 0, .int 0, .int 0, .int 0, .int 0, .int 0, .ref (u_7 13), .ref (u_7 14), .ref (u_7 15), .ref (u_7 16), .ref (u_7 17), .ref (u_7 18), .ref (u_7 19), .ref (u_7 20), .ref (u_7 21), .long 0]))]) (wr := [((u_3 0), .inr (6, [.ref (u_3 1), .int 0])), ((u_3 1), .inl (cy, 44, .inl (fun _ => 0))), ((u_3 4), .inr (2, [.ref (u_3 5), .ref (u_3 10), .ref (u_3 15), .int 0, .int 0, .int 0])), ((u_3 5), .inr (8, [.ref (u_3 6), .ref (u_3 7), .ref (u_3 8), .ref (u_3 9), .int 0])), ((u_3 10), .inr (8, [.ref (u_3 11), .ref (u_3 12), .ref (u_3 13), .ref (u_3 14), .int 0])), ((u_3 15), .inr (4, [.ref (u_3 16), .ref (u_3 17), .ref (u_3 18), .int 0])), ((u_7 0), .inl (cy, 44, .inl (fun _ => 0))), (q_1, .inr (11, [.ref (u_3 0), .ref (u_3 2), .ref (u_3 4), .ref (u_3 19), .ref (u_3 34), .ref (u_3 35), .null, .int 0, .int 0, .int 0]))]) (n := 2) (R := _) ⟨hx, hb, hml, hown, htb⟩ (c_X12_sum l D cy q_5 (u_7 0) (u_7 1) (u_7 2) (u_7 3) (u_7 4) (u_7 5) (u_7 6) (u_7 7) (u_7 8) (u_7 9) (u_7 10) (u_7 11) (u_7 12) (u_7 13) (u_7 14) (u_7 15) (u_7 16) (u_7 17) (u_7 18) (u_7 19) (u_7 20) (u_7 21) (xs 1) (xs 2) 0) tw_1006 tw_1003 tw_1004 tw_1005 tw_71 rfl rfl (by decide +kernel) ⟨Nat.le_of_ble_eq_true rfl, Nat.le_of_ble_eq_true rfl⟩ hK hP hD hS hA [6] [0, 1, 2, 3, 4, 5, 7, 8] rfl rfl rfl rfl (by decide) 0 (ci := 12) rfl rfl rfl hl.1 rfl (Nat.le_of_ble_eq_true rfl) dL_law_421 ⟨Nat.le_of_ble_eq_true rfl, Nat.le_of_ble_eq_true rfl⟩ (fun r_97 u_98 H locs hw_99 hP hD hS => ?_)
      refine W.widen (k := 64) (n := 614) (by decide) (by decide) ?_
      have hw_99 : r_97 = if (0 ≤ (xs 1).toInt ∧ (xs 1).toInt ≤ 99) ∧ (0 ≤ (xs 2).toInt ∧ (xs 2).toInt ≤ 99) ∧ (xs 1).toInt ≤ (xs 2).toInt then (-103) else (-102) := hw_99
      subst hw_99
      have hP : va_P D classes [((u_3 0), .inr (6, [.ref (u_3 1), .int 0])), ((u_3 1), .inl (cy, 44, .inl (fun _ => 0))), ((u_3 4), .inr (2, [.ref (u_3 5), .ref (u_3 10), .ref (u_3 15), .int 0, .int 0, .int 0])), ((u_3 5), .inr (8, [.ref (u_3 6), .ref (u_3 7), .ref (u_3 8), .ref (u_3 9), .int 0])), ((u_3 10), .inr (8, [.ref (u_3 11), .ref (u_3 12), .ref (u_3 13), .ref (u_3 14), .int 0])), ((u_3 15), .inr (4, [.ref (u_3 16), .ref (u_3 17), .ref (u_3 18), .int 0])), ((u_7 0), .inl (cy, 44, .inl (fun _ => 0))), (q_1, .inr (11, [.ref (u_3 0), .ref (u_3 2), .ref (u_3 4), .ref (u_3 19), .ref (u_3 34), .ref (u_3 35), .null, .int 0, .int 0, .int 0])), (q_5, .inr (12, [.ref (u_7 0), .int 0, .int 0, .int 0, .int 0, .int 0, .int 0, .int 0, .ref (u_7 1), .ref (u_7 2), .ref (u_7 3), .ref (u_7 4), .int 0, .ref (u_7 5), .ref (u_7 6), .ref (u_7 7), .ref (u_7 8), .int 0, .int 0, .int 0, .int 0, .ref (u_7 9), .ref (u_7 10), .int 0, .ref (u_7 11), .ref (u_7 12), .int 0, .int (-1), .int 0, .int 0, .int 0, .int 0, .int 0, .int 0, .ref (u_7 13), .ref (u_7 14), .ref (u_7 15), .ref (u_7 16), .ref (u_7 17), .ref (u_7 18), .ref (u_7 19), .ref (u_7 20), .ref (u_7 21), .long 0]))] H := hP
      have hD : va_D A [((u_3 0), .inr (6, [.ref (u_3 1), .int 0])), ((u_3 1), .inl (cy, 44, .inl (fun _ => 0))), ((u_3 4), .inr (2, [.ref (u_3 5), .ref (u_3 10), .ref (u_3 15), .int 0, .int 0, .int 0])), ((u_3 5), .inr (8, [.ref (u_3 6), .ref (u_3 7), .ref (u_3 8), .ref (u_3 9), .int 0])), ((u_3 10), .inr (8, [.ref (u_3 11), .ref (u_3 12), .ref (u_3 13), .ref (u_3 14), .int 0])), ((u_3 15), .inr (4, [.ref (u_3 16), .ref (u_3 17), .ref (u_3 18), .int 0])), ((u_7 0), .inl (cy, 44, .inl (fun _ => 0))), (q_1, .inr (11, [.ref (u_3 0), .ref (u_3 2), .ref (u_3 4), .ref (u_3 19), .ref (u_3 34), .ref (u_3 35), .null, .int 0, .int 0, .int 0])), (q_5, .inr (12, [.ref (u_7 0), .int 0, .int 0, .int 0, .int 0, .int 0, .int 0, .int 0, .ref (u_7 1), .ref (u_7 2), .ref (u_7 3), .ref (u_7 4), .int 0, .ref (u_7 5), .ref (u_7 6), .ref (u_7 7), .ref (u_7 8), .int 0, .int 0, .int 0, .int 0, .ref (u_7 9), .ref (u_7 10), .int 0, .ref (u_7 11), .ref (u_7 12), .int 0, .int (-1), .int 0, .int 0, .int 0, .int 0, .int 0, .int 0, .ref (u_7 13), .ref (u_7 14), .ref (u_7 15), .ref (u_7 16), .ref (u_7 17), .ref (u_7 18), .ref (u_7 19), .ref (u_7 20), .ref (u_7 21), .long 0]))] := hD
      refine lv_icmp_eq (tgt := 828) hx hb dL_law_424 (by decide) (fun c_100 => ?_) (fun c_100 => absurd rfl c_100)
      refine lv_iinc (v := 4) (lv' := [(3, .int 4), (2, .ref q_5), (1, .ref q_1), (0, .ref b)]) hx hb dL_law_828 hl (k := 0) rfl (by decide) (by decide) rfl (fun ls hl => ?_)
      refine lv_goto (tgt := 18) hx hb dL_law_831 (by decide) ?_
      refine lv_iload_n hx hb dL_law_18 rfl (lv_at hl 0 rfl) ?_
      refine lv_aload_n hx hb dL_law_19 rfl (lv_at hl 3 rfl) ?_
      refine va_slen hx hb hX hbl hbA hS dL_law_20 ?_
      refine wk_toi (y := 4) rfl ?_
      refine lv_iconst (v := 4) hx hb dL_law_21 (by decide) ?_
      refine lv_isub hx hb dL_law_22 ?_
      refine wk_toi (show ((4 - 4) : Int32) = 0 by decide) ?_
      refine lv_icmp_gt (tgt := 834) hx hb dL_law_23 (by decide) (fun _ => ?_) (fun c_101 => absurd (by decide) c_101)
      refine lv_iconst (v := 1) hx hb dL_law_834 (by decide) ?_
      refine va_forget (fun q hq => by have h9 := hS.2.2 q hq; rw [hAe] at h9; exact h9) ?_
      refine W.widen (k := 600000) (n := 7302250) (by decide) (by decide) ?_
      exact lw_ret hx hb hr hlocks dL_law_835
    · refine wk_toi (show nI 11 = 11 from rfl) ?_
      refine lv_tableIn (off := 397) (tgt := 429) hx hb dL_law_32 (by decide) (by decide) (by decide) (by decide) ?_
      refine lv_aload_n hx hb dL_law_429 rfl (lv_at hl 2 rfl) ?_
      refine lv_aload_n hx hb dL_law_430 rfl (lv_at hl 3 rfl) ?_
      refine lv_iload_n hx hb dL_law_431 rfl (lv_at hl 0 rfl) ?_
      refine lv_iconst (v := 1) hx hb dL_law_432 (by decide) ?_
      refine lv_iadd hx hb dL_law_433 ?_
      refine wk_toi (show ((0 + 1) : Int32) = 1 by decide) ?_
      refine va_sld hx hb hX hbl hbA hS (show vp_in 1 4 by unfold vp_in; decide) dL_law_434 ?_
      refine wk_toi (y := xs 1) rfl ?_
      refine lv_aload_n hx hb dL_law_435 rfl (lv_at hl 3 rfl) ?_
      refine lv_iload_n hx hb dL_law_436 rfl (lv_at hl 0 rfl) ?_
      refine lv_iconst (v := 2) hx hb dL_law_437 (by decide) ?_
      refine lv_iadd hx hb dL_law_438 ?_
      refine wk_toi (show ((0 + 2) : Int32) = 2 by decide) ?_
      refine va_sld hx hb hX hbl hbA hS (show vp_in 2 4 by unfold vp_in; decide) dL_law_439 ?_
      refine wk_toi (y := xs 2) rfl ?_
      refine lv_aload_n hx hb dL_law_440 rfl (lv_at hl 3 rfl) ?_
      refine lv_iload_n hx hb dL_law_441 rfl (lv_at hl 0 rfl) ?_
      refine lv_iconst (v := 3) hx hb dL_law_442 (by decide) ?_
      refine lv_iadd hx hb dL_law_443 ?_
      refine wk_toi (show ((0 + 3) : Int32) = 3 by decide) ?_
      refine va_sld hx hb hX hbl hbA hS (show vp_in 3 4 by unfold vp_in; decide) dL_law_444 ?_
      refine wk_toi (y := xs 3) rfl ?_
      refine wk_iV (As := [.int (xs 1), .int (xs 2), .int (xs 3)]) (rest := []) (wc := [(q_1, .inr (11, [.ref (u_3 0), .ref (u_3 2), .ref (u_3 4), .ref (u_3 19), .ref (u_3 34), .ref (u_3 35), .null, .int 0, .int 0, .int 0])), ((u_3 4), .inr (2, [.ref (u_3 5), .ref (u_3 10), .ref (u_3 15), .int 0, .int 0, .int 0])), ((u_3 5), .inr (8, [.ref (u_3 6), .ref (u_3 7), .ref (u_3 8), .ref (u_3 9), .int 0]))]) (wr := [((u_3 0), .inr (6, [.ref (u_3 1), .int 0])), ((u_3 1), .inl (cy, 44, .inl (fun _ => 0))), ((u_3 10), .inr (8, [.ref (u_3 11), .ref (u_3 12), .ref (u_3 13), .ref (u_3 14), .int 0])), ((u_3 15), .inr (4, [.ref (u_3 16), .ref (u_3 17), .ref (u_3 18), .int 0])), (q_5, .inr (12, [.ref (u_7 0), .int 0, .int 0, .int 0, .int 0, .int 0, .int 0, .int 0, .ref (u_7 1), .ref (u_7 2), .ref (u_7 3), .ref (u_7 4), .int 0, .ref (u_7 5), .ref (u_7 6), .ref (u_7 7), .ref (u_7 8), .int 0, .int 0, .int 0, .int 0, .ref (u_7 9), .ref (u_7 10), .int 0, .ref (u_7 11), .ref (u_7 12), .int 0, .int (-1), .int 0, .int 0, .int 0, .int 0, .int 0, .int 0, .ref (u_7 13), .ref (u_7 14), .ref (u_7 15), .ref (u_7 16), .ref (u_7 17), .ref (u_7 18), .ref (u_7 19), .ref (u_7 20), .ref (u_7 21), .long 0])), ((u_7 0), .inl (cy, 44, .inl (fun _ => 0)))]) (n := 3) (R := _) ⟨hx, hb, hml, hown, htb⟩ (c_X11_finger l D cy q_1 (u_3 0) (u_3 2) (u_3 4) (u_3 19) (u_3 34) (u_3 35) (u_3 5) (u_3 10) (u_3 15) (u_3 6) (u_3 7) (u_3 8) (u_3 9) (xs 1) (xs 2) (xs 3) ) tw_583 tw_580 tw_581 tw_582 tw_64 rfl rfl (by decide +kernel) ⟨Nat.le_of_ble_eq_true rfl, Nat.le_of_ble_eq_true rfl⟩ hK hP hD hS hA [0, 3, 4] [1, 2, 5, 6, 7, 8] rfl rfl rfl rfl (by decide) 0 (ci := 11) rfl rfl rfl hl.1 rfl (Nat.le_of_ble_eq_true rfl) dL_law_445 ⟨Nat.le_of_ble_eq_true rfl, Nat.le_of_ble_eq_true rfl⟩ (fun r_102 u_103 H locs hw_104 hP hD hS => ?_)
      refine W.widen (k := 64) (n := 614) (by decide) (by decide) ?_
      have hw_104 : r_102 = (-101) := hw_104
      subst hw_104
      have hP : va_P D classes [((u_3 0), .inr (6, [.ref (u_3 1), .int 0])), ((u_3 1), .inl (cy, 44, .inl (fun _ => 0))), ((u_3 10), .inr (8, [.ref (u_3 11), .ref (u_3 12), .ref (u_3 13), .ref (u_3 14), .int 0])), ((u_3 15), .inr (4, [.ref (u_3 16), .ref (u_3 17), .ref (u_3 18), .int 0])), (q_5, .inr (12, [.ref (u_7 0), .int 0, .int 0, .int 0, .int 0, .int 0, .int 0, .int 0, .ref (u_7 1), .ref (u_7 2), .ref (u_7 3), .ref (u_7 4), .int 0, .ref (u_7 5), .ref (u_7 6), .ref (u_7 7), .ref (u_7 8), .int 0, .int 0, .int 0, .int 0, .ref (u_7 9), .ref (u_7 10), .int 0, .ref (u_7 11), .ref (u_7 12), .int 0, .int (-1), .int 0, .int 0, .int 0, .int 0, .int 0, .int 0, .ref (u_7 13), .ref (u_7 14), .ref (u_7 15), .ref (u_7 16), .ref (u_7 17), .ref (u_7 18), .ref (u_7 19), .ref (u_7 20), .ref (u_7 21), .long 0])), ((u_7 0), .inl (cy, 44, .inl (fun _ => 0))), (q_1, .inr (11, [.ref (u_3 0), .ref (u_3 2), .ref (u_3 4), .ref (u_3 19), .ref (u_3 34), .ref (u_3 35), .null, .int 0, .int 0, .int 0])), ((u_3 4), .inr (2, [.ref (u_3 5), .ref (u_3 10), .ref (u_3 15), .int 0, .int 0, .int 0])), ((u_3 5), .inr (8, [.ref (u_3 6), .ref (u_3 7), .ref (u_3 8), .ref (u_3 9), .int 0]))] H := hP
      have hD : va_D A [((u_3 0), .inr (6, [.ref (u_3 1), .int 0])), ((u_3 1), .inl (cy, 44, .inl (fun _ => 0))), ((u_3 10), .inr (8, [.ref (u_3 11), .ref (u_3 12), .ref (u_3 13), .ref (u_3 14), .int 0])), ((u_3 15), .inr (4, [.ref (u_3 16), .ref (u_3 17), .ref (u_3 18), .int 0])), (q_5, .inr (12, [.ref (u_7 0), .int 0, .int 0, .int 0, .int 0, .int 0, .int 0, .int 0, .ref (u_7 1), .ref (u_7 2), .ref (u_7 3), .ref (u_7 4), .int 0, .ref (u_7 5), .ref (u_7 6), .ref (u_7 7), .ref (u_7 8), .int 0, .int 0, .int 0, .int 0, .ref (u_7 9), .ref (u_7 10), .int 0, .ref (u_7 11), .ref (u_7 12), .int 0, .int (-1), .int 0, .int 0, .int 0, .int 0, .int 0, .int 0, .ref (u_7 13), .ref (u_7 14), .ref (u_7 15), .ref (u_7 16), .ref (u_7 17), .ref (u_7 18), .ref (u_7 19), .ref (u_7 20), .ref (u_7 21), .long 0])), ((u_7 0), .inl (cy, 44, .inl (fun _ => 0))), (q_1, .inr (11, [.ref (u_3 0), .ref (u_3 2), .ref (u_3 4), .ref (u_3 19), .ref (u_3 34), .ref (u_3 35), .null, .int 0, .int 0, .int 0])), ((u_3 4), .inr (2, [.ref (u_3 5), .ref (u_3 10), .ref (u_3 15), .int 0, .int 0, .int 0])), ((u_3 5), .inr (8, [.ref (u_3 6), .ref (u_3 7), .ref (u_3 8), .ref (u_3 9), .int 0]))] := hD
      refine lv_aload_n hx hb dL_law_448 rfl (lv_at hl 1 rfl) ?_
      refine lv_aload_n hx hb dL_law_449 rfl (lv_at hl 3 rfl) ?_
      refine lv_iload_n hx hb dL_law_450 rfl (lv_at hl 0 rfl) ?_
      refine lv_iconst (v := 1) hx hb dL_law_451 (by decide) ?_
      refine lv_iadd hx hb dL_law_452 ?_
      refine wk_toi (show ((0 + 1) : Int32) = 1 by decide) ?_
      refine va_sld hx hb hX hbl hbA hS (show vp_in 1 4 by unfold vp_in; decide) dL_law_453 ?_
      refine wk_toi (y := xs 1) rfl ?_
      refine lv_aload_n hx hb dL_law_454 rfl (lv_at hl 3 rfl) ?_
      refine lv_iload_n hx hb dL_law_455 rfl (lv_at hl 0 rfl) ?_
      refine lv_iconst (v := 2) hx hb dL_law_456 (by decide) ?_
      refine lv_iadd hx hb dL_law_457 ?_
      refine wk_toi (show ((0 + 2) : Int32) = 2 by decide) ?_
      refine va_sld hx hb hX hbl hbA hS (show vp_in 2 4 by unfold vp_in; decide) dL_law_458 ?_
      refine wk_toi (y := xs 2) rfl ?_
      refine lv_aload_n hx hb dL_law_459 rfl (lv_at hl 3 rfl) ?_
      refine lv_iload_n hx hb dL_law_460 rfl (lv_at hl 0 rfl) ?_
      refine lv_iconst (v := 3) hx hb dL_law_461 (by decide) ?_
      refine lv_iadd hx hb dL_law_462 ?_
      refine wk_toi (show ((0 + 3) : Int32) = 3 by decide) ?_
      refine va_sld hx hb hX hbl hbA hS (show vp_in 3 4 by unfold vp_in; decide) dL_law_463 ?_
      refine wk_toi (y := xs 3) rfl ?_
      refine wk_iV (As := [.int (xs 1), .int (xs 2), .int (xs 3)]) (rest := [.int (-101)]) (wc := [(q_5, .inr (12, [.ref (u_7 0), .int 0, .int 0, .int 0, .int 0, .int 0, .int 0, .int 0, .ref (u_7 1), .ref (u_7 2), .ref (u_7 3), .ref (u_7 4), .int 0, .ref (u_7 5), .ref (u_7 6), .ref (u_7 7), .ref (u_7 8), .int 0, .int 0, .int 0, .int 0, .ref (u_7 9), .ref (u_7 10), .int 0, .ref (u_7 11), .ref (u_7 12), .int 0, .int (-1), .int 0, .int 0, .int 0, .int 0, .int 0, .int 0, .ref (u_7 13), .ref (u_7 14), .ref (u_7 15), .ref (u_7 16), .ref (u_7 17), .ref (u_7 18), .ref (u_7 19), .ref (u_7 20), .ref (u_7 21), .long 0]))]) (wr := [((u_3 0), .inr (6, [.ref (u_3 1), .int 0])), ((u_3 1), .inl (cy, 44, .inl (fun _ => 0))), ((u_3 10), .inr (8, [.ref (u_3 11), .ref (u_3 12), .ref (u_3 13), .ref (u_3 14), .int 0])), ((u_3 15), .inr (4, [.ref (u_3 16), .ref (u_3 17), .ref (u_3 18), .int 0])), ((u_7 0), .inl (cy, 44, .inl (fun _ => 0))), (q_1, .inr (11, [.ref (u_3 0), .ref (u_3 2), .ref (u_3 4), .ref (u_3 19), .ref (u_3 34), .ref (u_3 35), .null, .int 0, .int 0, .int 0])), ((u_3 4), .inr (2, [.ref (u_3 5), .ref (u_3 10), .ref (u_3 15), .int 0, .int 0, .int 0])), ((u_3 5), .inr (8, [.ref (u_3 6), .ref (u_3 7), .ref (u_3 8), .ref (u_3 9), .int 0]))]) (n := 3) (R := _) ⟨hx, hb, hml, hown, htb⟩ (c_X12_finger l D cy q_5 (u_7 0) (u_7 1) (u_7 2) (u_7 3) (u_7 4) (u_7 5) (u_7 6) (u_7 7) (u_7 8) (u_7 9) (u_7 10) (u_7 11) (u_7 12) (u_7 13) (u_7 14) (u_7 15) (u_7 16) (u_7 17) (u_7 18) (u_7 19) (u_7 20) (u_7 21) (xs 1) (xs 2) (xs 3) 0) tw_1010 tw_1007 tw_1008 tw_1009 tw_71 rfl rfl (by decide +kernel) ⟨Nat.le_of_ble_eq_true rfl, Nat.le_of_ble_eq_true rfl⟩ hK hP hD hS hA [4] [0, 1, 2, 3, 5, 6, 7, 8] rfl rfl rfl rfl (by decide) 0 (ci := 12) rfl rfl rfl hl.1 rfl (Nat.le_of_ble_eq_true rfl) dL_law_464 ⟨Nat.le_of_ble_eq_true rfl, Nat.le_of_ble_eq_true rfl⟩ (fun r_105 u_106 H locs hw_107 hP hD hS => ?_)
      refine W.widen (k := 64) (n := 614) (by decide) (by decide) ?_
      have hw_107 : r_105 = (-101) := hw_107
      subst hw_107
      have hP : va_P D classes [((u_3 0), .inr (6, [.ref (u_3 1), .int 0])), ((u_3 1), .inl (cy, 44, .inl (fun _ => 0))), ((u_3 10), .inr (8, [.ref (u_3 11), .ref (u_3 12), .ref (u_3 13), .ref (u_3 14), .int 0])), ((u_3 15), .inr (4, [.ref (u_3 16), .ref (u_3 17), .ref (u_3 18), .int 0])), ((u_7 0), .inl (cy, 44, .inl (fun _ => 0))), (q_1, .inr (11, [.ref (u_3 0), .ref (u_3 2), .ref (u_3 4), .ref (u_3 19), .ref (u_3 34), .ref (u_3 35), .null, .int 0, .int 0, .int 0])), ((u_3 4), .inr (2, [.ref (u_3 5), .ref (u_3 10), .ref (u_3 15), .int 0, .int 0, .int 0])), ((u_3 5), .inr (8, [.ref (u_3 6), .ref (u_3 7), .ref (u_3 8), .ref (u_3 9), .int 0])), (q_5, .inr (12, [.ref (u_7 0), .int 0, .int 0, .int 0, .int 0, .int 0, .int 0, .int 0, .ref (u_7 1), .ref (u_7 2), .ref (u_7 3), .ref (u_7 4), .int 0, .ref (u_7 5), .ref (u_7 6), .ref (u_7 7), .ref (u_7 8), .int 0, .int 0, .int 0, .int 0, .ref (u_7 9), .ref (u_7 10), .int 0, .ref (u_7 11), .ref (u_7 12), .int 0, .int (-1), .int 0, .int 0, .int 0, .int 0, .int 0, .int 0, .ref (u_7 13), .ref (u_7 14), .ref (u_7 15), .ref (u_7 16), .ref (u_7 17), .ref (u_7 18), .ref (u_7 19), .ref (u_7 20), .ref (u_7 21), .long 0]))] H := hP
      have hD : va_D A [((u_3 0), .inr (6, [.ref (u_3 1), .int 0])), ((u_3 1), .inl (cy, 44, .inl (fun _ => 0))), ((u_3 10), .inr (8, [.ref (u_3 11), .ref (u_3 12), .ref (u_3 13), .ref (u_3 14), .int 0])), ((u_3 15), .inr (4, [.ref (u_3 16), .ref (u_3 17), .ref (u_3 18), .int 0])), ((u_7 0), .inl (cy, 44, .inl (fun _ => 0))), (q_1, .inr (11, [.ref (u_3 0), .ref (u_3 2), .ref (u_3 4), .ref (u_3 19), .ref (u_3 34), .ref (u_3 35), .null, .int 0, .int 0, .int 0])), ((u_3 4), .inr (2, [.ref (u_3 5), .ref (u_3 10), .ref (u_3 15), .int 0, .int 0, .int 0])), ((u_3 5), .inr (8, [.ref (u_3 6), .ref (u_3 7), .ref (u_3 8), .ref (u_3 9), .int 0])), (q_5, .inr (12, [.ref (u_7 0), .int 0, .int 0, .int 0, .int 0, .int 0, .int 0, .int 0, .ref (u_7 1), .ref (u_7 2), .ref (u_7 3), .ref (u_7 4), .int 0, .ref (u_7 5), .ref (u_7 6), .ref (u_7 7), .ref (u_7 8), .int 0, .int 0, .int 0, .int 0, .ref (u_7 9), .ref (u_7 10), .int 0, .ref (u_7 11), .ref (u_7 12), .int 0, .int (-1), .int 0, .int 0, .int 0, .int 0, .int 0, .int 0, .ref (u_7 13), .ref (u_7 14), .ref (u_7 15), .ref (u_7 16), .ref (u_7 17), .ref (u_7 18), .ref (u_7 19), .ref (u_7 20), .ref (u_7 21), .long 0]))] := hD
      refine lv_icmp_eq (tgt := 828) hx hb dL_law_467 (by decide) (fun c_108 => ?_) (fun c_108 => absurd rfl c_108)
      refine lv_iinc (v := 4) (lv' := [(3, .int 4), (2, .ref q_5), (1, .ref q_1), (0, .ref b)]) hx hb dL_law_828 hl (k := 0) rfl (by decide) (by decide) rfl (fun ls hl => ?_)
      refine lv_goto (tgt := 18) hx hb dL_law_831 (by decide) ?_
      refine lv_iload_n hx hb dL_law_18 rfl (lv_at hl 0 rfl) ?_
      refine lv_aload_n hx hb dL_law_19 rfl (lv_at hl 3 rfl) ?_
      refine va_slen hx hb hX hbl hbA hS dL_law_20 ?_
      refine wk_toi (y := 4) rfl ?_
      refine lv_iconst (v := 4) hx hb dL_law_21 (by decide) ?_
      refine lv_isub hx hb dL_law_22 ?_
      refine wk_toi (show ((4 - 4) : Int32) = 0 by decide) ?_
      refine lv_icmp_gt (tgt := 834) hx hb dL_law_23 (by decide) (fun _ => ?_) (fun c_109 => absurd (by decide) c_109)
      refine lv_iconst (v := 1) hx hb dL_law_834 (by decide) ?_
      refine va_forget (fun q hq => by have h9 := hS.2.2 q hq; rw [hAe] at h9; exact h9) ?_
      refine W.widen (k := 600000) (n := 7302250) (by decide) (by decide) ?_
      exact lw_ret hx hb hr hlocks dL_law_835
    · refine wk_toi (show nI 12 = 12 from rfl) ?_
      refine lv_tableIn (off := 440) (tgt := 472) hx hb dL_law_32 (by decide) (by decide) (by decide) (by decide) ?_
      refine lv_aload_n hx hb dL_law_472 rfl (lv_at hl 2 rfl) ?_
      refine lv_aload_n hx hb dL_law_473 rfl (lv_at hl 3 rfl) ?_
      refine lv_iload_n hx hb dL_law_474 rfl (lv_at hl 0 rfl) ?_
      refine lv_iconst (v := 1) hx hb dL_law_475 (by decide) ?_
      refine lv_iadd hx hb dL_law_476 ?_
      refine wk_toi (show ((0 + 1) : Int32) = 1 by decide) ?_
      refine va_sld hx hb hX hbl hbA hS (show vp_in 1 4 by unfold vp_in; decide) dL_law_477 ?_
      refine wk_toi (y := xs 1) rfl ?_
      refine wk_iV (As := [.int (xs 1)]) (rest := []) (wc := [(q_1, .inr (11, [.ref (u_3 0), .ref (u_3 2), .ref (u_3 4), .ref (u_3 19), .ref (u_3 34), .ref (u_3 35), .null, .int 0, .int 0, .int 0]))]) (wr := [((u_3 0), .inr (6, [.ref (u_3 1), .int 0])), ((u_3 1), .inl (cy, 44, .inl (fun _ => 0))), ((u_3 4), .inr (2, [.ref (u_3 5), .ref (u_3 10), .ref (u_3 15), .int 0, .int 0, .int 0])), ((u_3 5), .inr (8, [.ref (u_3 6), .ref (u_3 7), .ref (u_3 8), .ref (u_3 9), .int 0])), ((u_3 10), .inr (8, [.ref (u_3 11), .ref (u_3 12), .ref (u_3 13), .ref (u_3 14), .int 0])), ((u_3 15), .inr (4, [.ref (u_3 16), .ref (u_3 17), .ref (u_3 18), .int 0])), (q_5, .inr (12, [.ref (u_7 0), .int 0, .int 0, .int 0, .int 0, .int 0, .int 0, .int 0, .ref (u_7 1), .ref (u_7 2), .ref (u_7 3), .ref (u_7 4), .int 0, .ref (u_7 5), .ref (u_7 6), .ref (u_7 7), .ref (u_7 8), .int 0, .int 0, .int 0, .int 0, .ref (u_7 9), .ref (u_7 10), .int 0, .ref (u_7 11), .ref (u_7 12), .int 0, .int (-1), .int 0, .int 0, .int 0, .int 0, .int 0, .int 0, .ref (u_7 13), .ref (u_7 14), .ref (u_7 15), .ref (u_7 16), .ref (u_7 17), .ref (u_7 18), .ref (u_7 19), .ref (u_7 20), .ref (u_7 21), .long 0])), ((u_7 0), .inl (cy, 44, .inl (fun _ => 0)))]) (n := 1) (R := _) ⟨hx, hb, hml, hown, htb⟩ (c_X11_ask l D cy q_1 (u_3 0) (u_3 2) (u_3 4) (u_3 19) (u_3 34) (u_3 35) (xs 1) ) tw_587 tw_584 tw_585 tw_586 tw_64 rfl rfl (by decide +kernel) ⟨Nat.le_of_ble_eq_true rfl, Nat.le_of_ble_eq_true rfl⟩ hK hP hD hS hA [0] [1, 2, 3, 4, 5, 6, 7, 8] rfl rfl rfl rfl (by decide) 0 (ci := 11) rfl rfl rfl hl.1 rfl (Nat.le_of_ble_eq_true rfl) dL_law_478 ⟨Nat.le_of_ble_eq_true rfl, Nat.le_of_ble_eq_true rfl⟩ (fun r_110 u_111 H locs hw_112 hP hD hS => ?_)
      refine W.widen (k := 64) (n := 614) (by decide) (by decide) ?_
      have hw_112 : r_110 = if (0 ≤ (xs 1).toInt ∧ (xs 1).toInt ≤ 99) then (-103) else (-102) := hw_112
      subst hw_112
      have hP : va_P D classes [((u_3 0), .inr (6, [.ref (u_3 1), .int 0])), ((u_3 1), .inl (cy, 44, .inl (fun _ => 0))), ((u_3 4), .inr (2, [.ref (u_3 5), .ref (u_3 10), .ref (u_3 15), .int 0, .int 0, .int 0])), ((u_3 5), .inr (8, [.ref (u_3 6), .ref (u_3 7), .ref (u_3 8), .ref (u_3 9), .int 0])), ((u_3 10), .inr (8, [.ref (u_3 11), .ref (u_3 12), .ref (u_3 13), .ref (u_3 14), .int 0])), ((u_3 15), .inr (4, [.ref (u_3 16), .ref (u_3 17), .ref (u_3 18), .int 0])), (q_5, .inr (12, [.ref (u_7 0), .int 0, .int 0, .int 0, .int 0, .int 0, .int 0, .int 0, .ref (u_7 1), .ref (u_7 2), .ref (u_7 3), .ref (u_7 4), .int 0, .ref (u_7 5), .ref (u_7 6), .ref (u_7 7), .ref (u_7 8), .int 0, .int 0, .int 0, .int 0, .ref (u_7 9), .ref (u_7 10), .int 0, .ref (u_7 11), .ref (u_7 12), .int 0, .int (-1), .int 0, .int 0, .int 0, .int 0, .int 0, .int 0, .ref (u_7 13), .ref (u_7 14), .ref (u_7 15), .ref (u_7 16), .ref (u_7 17), .ref (u_7 18), .ref (u_7 19), .ref (u_7 20), .ref (u_7 21), .long 0])), ((u_7 0), .inl (cy, 44, .inl (fun _ => 0))), (q_1, .inr (11, [.ref (u_3 0), .ref (u_3 2), .ref (u_3 4), .ref (u_3 19), .ref (u_3 34), .ref (u_3 35), .null, .int 0, .int 0, .int 0]))] H := hP
      have hD : va_D A [((u_3 0), .inr (6, [.ref (u_3 1), .int 0])), ((u_3 1), .inl (cy, 44, .inl (fun _ => 0))), ((u_3 4), .inr (2, [.ref (u_3 5), .ref (u_3 10), .ref (u_3 15), .int 0, .int 0, .int 0])), ((u_3 5), .inr (8, [.ref (u_3 6), .ref (u_3 7), .ref (u_3 8), .ref (u_3 9), .int 0])), ((u_3 10), .inr (8, [.ref (u_3 11), .ref (u_3 12), .ref (u_3 13), .ref (u_3 14), .int 0])), ((u_3 15), .inr (4, [.ref (u_3 16), .ref (u_3 17), .ref (u_3 18), .int 0])), (q_5, .inr (12, [.ref (u_7 0), .int 0, .int 0, .int 0, .int 0, .int 0, .int 0, .int 0, .ref (u_7 1), .ref (u_7 2), .ref (u_7 3), .ref (u_7 4), .int 0, .ref (u_7 5), .ref (u_7 6), .ref (u_7 7), .ref (u_7 8), .int 0, .int 0, .int 0, .int 0, .ref (u_7 9), .ref (u_7 10), .int 0, .ref (u_7 11), .ref (u_7 12), .int 0, .int (-1), .int 0, .int 0, .int 0, .int 0, .int 0, .int 0, .ref (u_7 13), .ref (u_7 14), .ref (u_7 15), .ref (u_7 16), .ref (u_7 17), .ref (u_7 18), .ref (u_7 19), .ref (u_7 20), .ref (u_7 21), .long 0])), ((u_7 0), .inl (cy, 44, .inl (fun _ => 0))), (q_1, .inr (11, [.ref (u_3 0), .ref (u_3 2), .ref (u_3 4), .ref (u_3 19), .ref (u_3 34), .ref (u_3 35), .null, .int 0, .int 0, .int 0]))] := hD
      refine lv_aload_n hx hb dL_law_481 rfl (lv_at hl 1 rfl) ?_
      refine lv_aload_n hx hb dL_law_482 rfl (lv_at hl 3 rfl) ?_
      refine lv_iload_n hx hb dL_law_483 rfl (lv_at hl 0 rfl) ?_
      refine lv_iconst (v := 1) hx hb dL_law_484 (by decide) ?_
      refine lv_iadd hx hb dL_law_485 ?_
      refine wk_toi (show ((0 + 1) : Int32) = 1 by decide) ?_
      refine va_sld hx hb hX hbl hbA hS (show vp_in 1 4 by unfold vp_in; decide) dL_law_486 ?_
      refine wk_toi (y := xs 1) rfl ?_
      refine wk_iV (As := [.int (xs 1)]) (rest := [.int (if (0 ≤ (xs 1).toInt ∧ (xs 1).toInt ≤ 99) then (-103) else (-102))]) (wc := [(q_5, .inr (12, [.ref (u_7 0), .int 0, .int 0, .int 0, .int 0, .int 0, .int 0, .int 0, .ref (u_7 1), .ref (u_7 2), .ref (u_7 3), .ref (u_7 4), .int 0, .ref (u_7 5), .ref (u_7 6), .ref (u_7 7), .ref (u_7 8), .int 0, .int 0, .int 0, .int 0, .ref (u_7 9), .ref (u_7 10), .int 0, .ref (u_7 11), .ref (u_7 12), .int 0, .int (-1), .int 0, .int 0, .int 0, .int 0, .int 0, .int 0, .ref (u_7 13), .ref (u_7 14), .ref (u_7 15), .ref (u_7 16), .ref (u_7 17), .ref (u_7 18), .ref (u_7 19), .ref (u_7 20), .ref (u_7 21), .long 0]))]) (wr := [((u_3 0), .inr (6, [.ref (u_3 1), .int 0])), ((u_3 1), .inl (cy, 44, .inl (fun _ => 0))), ((u_3 4), .inr (2, [.ref (u_3 5), .ref (u_3 10), .ref (u_3 15), .int 0, .int 0, .int 0])), ((u_3 5), .inr (8, [.ref (u_3 6), .ref (u_3 7), .ref (u_3 8), .ref (u_3 9), .int 0])), ((u_3 10), .inr (8, [.ref (u_3 11), .ref (u_3 12), .ref (u_3 13), .ref (u_3 14), .int 0])), ((u_3 15), .inr (4, [.ref (u_3 16), .ref (u_3 17), .ref (u_3 18), .int 0])), ((u_7 0), .inl (cy, 44, .inl (fun _ => 0))), (q_1, .inr (11, [.ref (u_3 0), .ref (u_3 2), .ref (u_3 4), .ref (u_3 19), .ref (u_3 34), .ref (u_3 35), .null, .int 0, .int 0, .int 0]))]) (n := 1) (R := _) ⟨hx, hb, hml, hown, htb⟩ (c_X12_ask l D cy q_5 (u_7 0) (u_7 1) (u_7 2) (u_7 3) (u_7 4) (u_7 5) (u_7 6) (u_7 7) (u_7 8) (u_7 9) (u_7 10) (u_7 11) (u_7 12) (u_7 13) (u_7 14) (u_7 15) (u_7 16) (u_7 17) (u_7 18) (u_7 19) (u_7 20) (u_7 21) (xs 1) 0) tw_1014 tw_1011 tw_1012 tw_1013 tw_71 rfl rfl (by decide +kernel) ⟨Nat.le_of_ble_eq_true rfl, Nat.le_of_ble_eq_true rfl⟩ hK hP hD hS hA [6] [0, 1, 2, 3, 4, 5, 7, 8] rfl rfl rfl rfl (by decide) 0 (ci := 12) rfl rfl rfl hl.1 rfl (Nat.le_of_ble_eq_true rfl) dL_law_487 ⟨Nat.le_of_ble_eq_true rfl, Nat.le_of_ble_eq_true rfl⟩ (fun r_113 u_114 H locs hw_115 hP hD hS => ?_)
      refine W.widen (k := 64) (n := 614) (by decide) (by decide) ?_
      have hw_115 : r_113 = if (0 ≤ (xs 1).toInt ∧ (xs 1).toInt ≤ 99) then (-103) else (-102) := hw_115
      subst hw_115
      have hP : va_P D classes [((u_3 0), .inr (6, [.ref (u_3 1), .int 0])), ((u_3 1), .inl (cy, 44, .inl (fun _ => 0))), ((u_3 4), .inr (2, [.ref (u_3 5), .ref (u_3 10), .ref (u_3 15), .int 0, .int 0, .int 0])), ((u_3 5), .inr (8, [.ref (u_3 6), .ref (u_3 7), .ref (u_3 8), .ref (u_3 9), .int 0])), ((u_3 10), .inr (8, [.ref (u_3 11), .ref (u_3 12), .ref (u_3 13), .ref (u_3 14), .int 0])), ((u_3 15), .inr (4, [.ref (u_3 16), .ref (u_3 17), .ref (u_3 18), .int 0])), ((u_7 0), .inl (cy, 44, .inl (fun _ => 0))), (q_1, .inr (11, [.ref (u_3 0), .ref (u_3 2), .ref (u_3 4), .ref (u_3 19), .ref (u_3 34), .ref (u_3 35), .null, .int 0, .int 0, .int 0])), (q_5, .inr (12, [.ref (u_7 0), .int 0, .int 0, .int 0, .int 0, .int 0, .int 0, .int 0, .ref (u_7 1), .ref (u_7 2), .ref (u_7 3), .ref (u_7 4), .int 0, .ref (u_7 5), .ref (u_7 6), .ref (u_7 7), .ref (u_7 8), .int 0, .int 0, .int 0, .int 0, .ref (u_7 9), .ref (u_7 10), .int 0, .ref (u_7 11), .ref (u_7 12), .int 0, .int (-1), .int 0, .int 0, .int 0, .int 0, .int 0, .int 0, .ref (u_7 13), .ref (u_7 14), .ref (u_7 15), .ref (u_7 16), .ref (u_7 17), .ref (u_7 18), .ref (u_7 19), .ref (u_7 20), .ref (u_7 21), .long 0]))] H := hP
      have hD : va_D A [((u_3 0), .inr (6, [.ref (u_3 1), .int 0])), ((u_3 1), .inl (cy, 44, .inl (fun _ => 0))), ((u_3 4), .inr (2, [.ref (u_3 5), .ref (u_3 10), .ref (u_3 15), .int 0, .int 0, .int 0])), ((u_3 5), .inr (8, [.ref (u_3 6), .ref (u_3 7), .ref (u_3 8), .ref (u_3 9), .int 0])), ((u_3 10), .inr (8, [.ref (u_3 11), .ref (u_3 12), .ref (u_3 13), .ref (u_3 14), .int 0])), ((u_3 15), .inr (4, [.ref (u_3 16), .ref (u_3 17), .ref (u_3 18), .int 0])), ((u_7 0), .inl (cy, 44, .inl (fun _ => 0))), (q_1, .inr (11, [.ref (u_3 0), .ref (u_3 2), .ref (u_3 4), .ref (u_3 19), .ref (u_3 34), .ref (u_3 35), .null, .int 0, .int 0, .int 0])), (q_5, .inr (12, [.ref (u_7 0), .int 0, .int 0, .int 0, .int 0, .int 0, .int 0, .int 0, .ref (u_7 1), .ref (u_7 2), .ref (u_7 3), .ref (u_7 4), .int 0, .ref (u_7 5), .ref (u_7 6), .ref (u_7 7), .ref (u_7 8), .int 0, .int 0, .int 0, .int 0, .ref (u_7 9), .ref (u_7 10), .int 0, .ref (u_7 11), .ref (u_7 12), .int 0, .int (-1), .int 0, .int 0, .int 0, .int 0, .int 0, .int 0, .ref (u_7 13), .ref (u_7 14), .ref (u_7 15), .ref (u_7 16), .ref (u_7 17), .ref (u_7 18), .ref (u_7 19), .ref (u_7 20), .ref (u_7 21), .long 0]))] := hD
      refine lv_icmp_eq (tgt := 828) hx hb dL_law_490 (by decide) (fun c_116 => ?_) (fun c_116 => absurd rfl c_116)
      refine lv_iinc (v := 4) (lv' := [(3, .int 4), (2, .ref q_5), (1, .ref q_1), (0, .ref b)]) hx hb dL_law_828 hl (k := 0) rfl (by decide) (by decide) rfl (fun ls hl => ?_)
      refine lv_goto (tgt := 18) hx hb dL_law_831 (by decide) ?_
      refine lv_iload_n hx hb dL_law_18 rfl (lv_at hl 0 rfl) ?_
      refine lv_aload_n hx hb dL_law_19 rfl (lv_at hl 3 rfl) ?_
      refine va_slen hx hb hX hbl hbA hS dL_law_20 ?_
      refine wk_toi (y := 4) rfl ?_
      refine lv_iconst (v := 4) hx hb dL_law_21 (by decide) ?_
      refine lv_isub hx hb dL_law_22 ?_
      refine wk_toi (show ((4 - 4) : Int32) = 0 by decide) ?_
      refine lv_icmp_gt (tgt := 834) hx hb dL_law_23 (by decide) (fun _ => ?_) (fun c_117 => absurd (by decide) c_117)
      refine lv_iconst (v := 1) hx hb dL_law_834 (by decide) ?_
      refine va_forget (fun q hq => by have h9 := hS.2.2 q hq; rw [hAe] at h9; exact h9) ?_
      refine W.widen (k := 600000) (n := 7302250) (by decide) (by decide) ?_
      exact lw_ret hx hb hr hlocks dL_law_835
    · refine wk_toi (show nI 13 = 13 from rfl) ?_
      refine lv_tableIn (off := 463) (tgt := 495) hx hb dL_law_32 (by decide) (by decide) (by decide) (by decide) ?_
      refine lv_aload_n hx hb dL_law_495 rfl (lv_at hl 2 rfl) ?_
      refine lv_aload_n hx hb dL_law_496 rfl (lv_at hl 3 rfl) ?_
      refine lv_iload_n hx hb dL_law_497 rfl (lv_at hl 0 rfl) ?_
      refine lv_iconst (v := 1) hx hb dL_law_498 (by decide) ?_
      refine lv_iadd hx hb dL_law_499 ?_
      refine wk_toi (show ((0 + 1) : Int32) = 1 by decide) ?_
      refine va_sld hx hb hX hbl hbA hS (show vp_in 1 4 by unfold vp_in; decide) dL_law_500 ?_
      refine wk_toi (y := xs 1) rfl ?_
      refine lv_aload_n hx hb dL_law_501 rfl (lv_at hl 3 rfl) ?_
      refine lv_iload_n hx hb dL_law_502 rfl (lv_at hl 0 rfl) ?_
      refine lv_iconst (v := 2) hx hb dL_law_503 (by decide) ?_
      refine lv_iadd hx hb dL_law_504 ?_
      refine wk_toi (show ((0 + 2) : Int32) = 2 by decide) ?_
      refine va_sld hx hb hX hbl hbA hS (show vp_in 2 4 by unfold vp_in; decide) dL_law_505 ?_
      refine wk_toi (y := xs 2) rfl ?_
      refine lv_aload_n hx hb dL_law_506 rfl (lv_at hl 3 rfl) ?_
      refine lv_iload_n hx hb dL_law_507 rfl (lv_at hl 0 rfl) ?_
      refine lv_iconst (v := 3) hx hb dL_law_508 (by decide) ?_
      refine lv_iadd hx hb dL_law_509 ?_
      refine wk_toi (show ((0 + 3) : Int32) = 3 by decide) ?_
      refine va_sld hx hb hX hbl hbA hS (show vp_in 3 4 by unfold vp_in; decide) dL_law_510 ?_
      refine wk_toi (y := xs 3) rfl ?_
      refine wk_iV (As := [.int (xs 1), .int (xs 2), .int (xs 3)]) (rest := []) (wc := [(q_1, .inr (11, [.ref (u_3 0), .ref (u_3 2), .ref (u_3 4), .ref (u_3 19), .ref (u_3 34), .ref (u_3 35), .null, .int 0, .int 0, .int 0]))]) (wr := [((u_3 0), .inr (6, [.ref (u_3 1), .int 0])), ((u_3 1), .inl (cy, 44, .inl (fun _ => 0))), ((u_3 4), .inr (2, [.ref (u_3 5), .ref (u_3 10), .ref (u_3 15), .int 0, .int 0, .int 0])), ((u_3 5), .inr (8, [.ref (u_3 6), .ref (u_3 7), .ref (u_3 8), .ref (u_3 9), .int 0])), ((u_3 10), .inr (8, [.ref (u_3 11), .ref (u_3 12), .ref (u_3 13), .ref (u_3 14), .int 0])), ((u_3 15), .inr (4, [.ref (u_3 16), .ref (u_3 17), .ref (u_3 18), .int 0])), (q_5, .inr (12, [.ref (u_7 0), .int 0, .int 0, .int 0, .int 0, .int 0, .int 0, .int 0, .ref (u_7 1), .ref (u_7 2), .ref (u_7 3), .ref (u_7 4), .int 0, .ref (u_7 5), .ref (u_7 6), .ref (u_7 7), .ref (u_7 8), .int 0, .int 0, .int 0, .int 0, .ref (u_7 9), .ref (u_7 10), .int 0, .ref (u_7 11), .ref (u_7 12), .int 0, .int (-1), .int 0, .int 0, .int 0, .int 0, .int 0, .int 0, .ref (u_7 13), .ref (u_7 14), .ref (u_7 15), .ref (u_7 16), .ref (u_7 17), .ref (u_7 18), .ref (u_7 19), .ref (u_7 20), .ref (u_7 21), .long 0])), ((u_7 0), .inl (cy, 44, .inl (fun _ => 0)))]) (n := 3) (R := _) ⟨hx, hb, hml, hown, htb⟩ (c_X11_put l D cy q_1 (u_3 0) (u_3 2) (u_3 4) (u_3 19) (u_3 34) (u_3 35) (xs 1) (xs 2) (xs 3) ) tw_591 tw_588 tw_589 tw_590 tw_64 rfl rfl (by decide +kernel) ⟨Nat.le_of_ble_eq_true rfl, Nat.le_of_ble_eq_true rfl⟩ hK hP hD hS hA [0] [1, 2, 3, 4, 5, 6, 7, 8] rfl rfl rfl rfl (by decide) 0 (ci := 11) rfl rfl rfl hl.1 rfl (Nat.le_of_ble_eq_true rfl) dL_law_511 ⟨Nat.le_of_ble_eq_true rfl, Nat.le_of_ble_eq_true rfl⟩ (fun r_118 u_119 H locs hw_120 hP hD hS => ?_)
      refine W.widen (k := 64) (n := 614) (by decide) (by decide) ?_
      have hw_120 : r_118 = if (0 ≤ (xs 1).toInt ∧ (xs 1).toInt ≤ 99) ∧ (0 ≤ (xs 2).toInt ∧ (xs 2).toInt ≤ 9) ∧ (1 ≤ (xs 3).toInt ∧ (xs 3).toInt ≤ 4) then (-103) else (-102) := hw_120
      subst hw_120
      have hP : va_P D classes [((u_3 0), .inr (6, [.ref (u_3 1), .int 0])), ((u_3 1), .inl (cy, 44, .inl (fun _ => 0))), ((u_3 4), .inr (2, [.ref (u_3 5), .ref (u_3 10), .ref (u_3 15), .int 0, .int 0, .int 0])), ((u_3 5), .inr (8, [.ref (u_3 6), .ref (u_3 7), .ref (u_3 8), .ref (u_3 9), .int 0])), ((u_3 10), .inr (8, [.ref (u_3 11), .ref (u_3 12), .ref (u_3 13), .ref (u_3 14), .int 0])), ((u_3 15), .inr (4, [.ref (u_3 16), .ref (u_3 17), .ref (u_3 18), .int 0])), (q_5, .inr (12, [.ref (u_7 0), .int 0, .int 0, .int 0, .int 0, .int 0, .int 0, .int 0, .ref (u_7 1), .ref (u_7 2), .ref (u_7 3), .ref (u_7 4), .int 0, .ref (u_7 5), .ref (u_7 6), .ref (u_7 7), .ref (u_7 8), .int 0, .int 0, .int 0, .int 0, .ref (u_7 9), .ref (u_7 10), .int 0, .ref (u_7 11), .ref (u_7 12), .int 0, .int (-1), .int 0, .int 0, .int 0, .int 0, .int 0, .int 0, .ref (u_7 13), .ref (u_7 14), .ref (u_7 15), .ref (u_7 16), .ref (u_7 17), .ref (u_7 18), .ref (u_7 19), .ref (u_7 20), .ref (u_7 21), .long 0])), ((u_7 0), .inl (cy, 44, .inl (fun _ => 0))), (q_1, .inr (11, [.ref (u_3 0), .ref (u_3 2), .ref (u_3 4), .ref (u_3 19), .ref (u_3 34), .ref (u_3 35), .null, .int 0, .int 0, .int 0]))] H := hP
      have hD : va_D A [((u_3 0), .inr (6, [.ref (u_3 1), .int 0])), ((u_3 1), .inl (cy, 44, .inl (fun _ => 0))), ((u_3 4), .inr (2, [.ref (u_3 5), .ref (u_3 10), .ref (u_3 15), .int 0, .int 0, .int 0])), ((u_3 5), .inr (8, [.ref (u_3 6), .ref (u_3 7), .ref (u_3 8), .ref (u_3 9), .int 0])), ((u_3 10), .inr (8, [.ref (u_3 11), .ref (u_3 12), .ref (u_3 13), .ref (u_3 14), .int 0])), ((u_3 15), .inr (4, [.ref (u_3 16), .ref (u_3 17), .ref (u_3 18), .int 0])), (q_5, .inr (12, [.ref (u_7 0), .int 0, .int 0, .int 0, .int 0, .int 0, .int 0, .int 0, .ref (u_7 1), .ref (u_7 2), .ref (u_7 3), .ref (u_7 4), .int 0, .ref (u_7 5), .ref (u_7 6), .ref (u_7 7), .ref (u_7 8), .int 0, .int 0, .int 0, .int 0, .ref (u_7 9), .ref (u_7 10), .int 0, .ref (u_7 11), .ref (u_7 12), .int 0, .int (-1), .int 0, .int 0, .int 0, .int 0, .int 0, .int 0, .ref (u_7 13), .ref (u_7 14), .ref (u_7 15), .ref (u_7 16), .ref (u_7 17), .ref (u_7 18), .ref (u_7 19), .ref (u_7 20), .ref (u_7 21), .long 0])), ((u_7 0), .inl (cy, 44, .inl (fun _ => 0))), (q_1, .inr (11, [.ref (u_3 0), .ref (u_3 2), .ref (u_3 4), .ref (u_3 19), .ref (u_3 34), .ref (u_3 35), .null, .int 0, .int 0, .int 0]))] := hD
      refine lv_aload_n hx hb dL_law_514 rfl (lv_at hl 1 rfl) ?_
      refine lv_aload_n hx hb dL_law_515 rfl (lv_at hl 3 rfl) ?_
      refine lv_iload_n hx hb dL_law_516 rfl (lv_at hl 0 rfl) ?_
      refine lv_iconst (v := 1) hx hb dL_law_517 (by decide) ?_
      refine lv_iadd hx hb dL_law_518 ?_
      refine wk_toi (show ((0 + 1) : Int32) = 1 by decide) ?_
      refine va_sld hx hb hX hbl hbA hS (show vp_in 1 4 by unfold vp_in; decide) dL_law_519 ?_
      refine wk_toi (y := xs 1) rfl ?_
      refine lv_aload_n hx hb dL_law_520 rfl (lv_at hl 3 rfl) ?_
      refine lv_iload_n hx hb dL_law_521 rfl (lv_at hl 0 rfl) ?_
      refine lv_iconst (v := 2) hx hb dL_law_522 (by decide) ?_
      refine lv_iadd hx hb dL_law_523 ?_
      refine wk_toi (show ((0 + 2) : Int32) = 2 by decide) ?_
      refine va_sld hx hb hX hbl hbA hS (show vp_in 2 4 by unfold vp_in; decide) dL_law_524 ?_
      refine wk_toi (y := xs 2) rfl ?_
      refine lv_aload_n hx hb dL_law_525 rfl (lv_at hl 3 rfl) ?_
      refine lv_iload_n hx hb dL_law_526 rfl (lv_at hl 0 rfl) ?_
      refine lv_iconst (v := 3) hx hb dL_law_527 (by decide) ?_
      refine lv_iadd hx hb dL_law_528 ?_
      refine wk_toi (show ((0 + 3) : Int32) = 3 by decide) ?_
      refine va_sld hx hb hX hbl hbA hS (show vp_in 3 4 by unfold vp_in; decide) dL_law_529 ?_
      refine wk_toi (y := xs 3) rfl ?_
      refine wk_iV (As := [.int (xs 1), .int (xs 2), .int (xs 3)]) (rest := [.int (if (0 ≤ (xs 1).toInt ∧ (xs 1).toInt ≤ 99) ∧ (0 ≤ (xs 2).toInt ∧ (xs 2).toInt ≤ 9) ∧ (1 ≤ (xs 3).toInt ∧ (xs 3).toInt ≤ 4) then (-103) else (-102))]) (wc := [(q_5, .inr (12, [.ref (u_7 0), .int 0, .int 0, .int 0, .int 0, .int 0, .int 0, .int 0, .ref (u_7 1), .ref (u_7 2), .ref (u_7 3), .ref (u_7 4), .int 0, .ref (u_7 5), .ref (u_7 6), .ref (u_7 7), .ref (u_7 8), .int 0, .int 0, .int 0, .int 0, .ref (u_7 9), .ref (u_7 10), .int 0, .ref (u_7 11), .ref (u_7 12), .int 0, .int (-1), .int 0, .int 0, .int 0, .int 0, .int 0, .int 0, .ref (u_7 13), .ref (u_7 14), .ref (u_7 15), .ref (u_7 16), .ref (u_7 17), .ref (u_7 18), .ref (u_7 19), .ref (u_7 20), .ref (u_7 21), .long 0]))]) (wr := [((u_3 0), .inr (6, [.ref (u_3 1), .int 0])), ((u_3 1), .inl (cy, 44, .inl (fun _ => 0))), ((u_3 4), .inr (2, [.ref (u_3 5), .ref (u_3 10), .ref (u_3 15), .int 0, .int 0, .int 0])), ((u_3 5), .inr (8, [.ref (u_3 6), .ref (u_3 7), .ref (u_3 8), .ref (u_3 9), .int 0])), ((u_3 10), .inr (8, [.ref (u_3 11), .ref (u_3 12), .ref (u_3 13), .ref (u_3 14), .int 0])), ((u_3 15), .inr (4, [.ref (u_3 16), .ref (u_3 17), .ref (u_3 18), .int 0])), ((u_7 0), .inl (cy, 44, .inl (fun _ => 0))), (q_1, .inr (11, [.ref (u_3 0), .ref (u_3 2), .ref (u_3 4), .ref (u_3 19), .ref (u_3 34), .ref (u_3 35), .null, .int 0, .int 0, .int 0]))]) (n := 3) (R := _) ⟨hx, hb, hml, hown, htb⟩ (c_X12_put l D cy q_5 (u_7 0) (u_7 1) (u_7 2) (u_7 3) (u_7 4) (u_7 5) (u_7 6) (u_7 7) (u_7 8) (u_7 9) (u_7 10) (u_7 11) (u_7 12) (u_7 13) (u_7 14) (u_7 15) (u_7 16) (u_7 17) (u_7 18) (u_7 19) (u_7 20) (u_7 21) (xs 1) (xs 2) (xs 3) 0) tw_1091 tw_1088 tw_1089 tw_1090 tw_71 rfl rfl (by decide +kernel) ⟨Nat.le_of_ble_eq_true rfl, Nat.le_of_ble_eq_true rfl⟩ hK hP hD hS hA [6] [0, 1, 2, 3, 4, 5, 7, 8] rfl rfl rfl rfl (by decide) 0 (ci := 12) rfl rfl rfl hl.1 rfl (Nat.le_of_ble_eq_true rfl) dL_law_530 ⟨Nat.le_of_ble_eq_true rfl, Nat.le_of_ble_eq_true rfl⟩ (fun r_121 u_122 H locs hw_123 hP hD hS => ?_)
      refine W.widen (k := 64) (n := 614) (by decide) (by decide) ?_
      have hw_123 : r_121 = if (0 ≤ (xs 1).toInt ∧ (xs 1).toInt ≤ 99) ∧ (0 ≤ (xs 2).toInt ∧ (xs 2).toInt ≤ 9) ∧ (1 ≤ (xs 3).toInt ∧ (xs 3).toInt ≤ 4) then (-103) else (-102) := hw_123
      subst hw_123
      have hP : va_P D classes [((u_3 0), .inr (6, [.ref (u_3 1), .int 0])), ((u_3 1), .inl (cy, 44, .inl (fun _ => 0))), ((u_3 4), .inr (2, [.ref (u_3 5), .ref (u_3 10), .ref (u_3 15), .int 0, .int 0, .int 0])), ((u_3 5), .inr (8, [.ref (u_3 6), .ref (u_3 7), .ref (u_3 8), .ref (u_3 9), .int 0])), ((u_3 10), .inr (8, [.ref (u_3 11), .ref (u_3 12), .ref (u_3 13), .ref (u_3 14), .int 0])), ((u_3 15), .inr (4, [.ref (u_3 16), .ref (u_3 17), .ref (u_3 18), .int 0])), ((u_7 0), .inl (cy, 44, .inl (fun _ => 0))), (q_1, .inr (11, [.ref (u_3 0), .ref (u_3 2), .ref (u_3 4), .ref (u_3 19), .ref (u_3 34), .ref (u_3 35), .null, .int 0, .int 0, .int 0])), (q_5, .inr (12, [.ref (u_7 0), .int 0, .int 0, .int 0, .int 0, .int 0, .int 0, .int 0, .ref (u_7 1), .ref (u_7 2), .ref (u_7 3), .ref (u_7 4), .int 0, .ref (u_7 5), .ref (u_7 6), .ref (u_7 7), .ref (u_7 8), .int 0, .int 0, .int 0, .int 0, .ref (u_7 9), .ref (u_7 10), .int 0, .ref (u_7 11), .ref (u_7 12), .int 0, .int (-1), .int 0, .int 0, .int 0, .int 0, .int 0, .int 0, .ref (u_7 13), .ref (u_7 14), .ref (u_7 15), .ref (u_7 16), .ref (u_7 17), .ref (u_7 18), .ref (u_7 19), .ref (u_7 20), .ref (u_7 21), .long 0]))] H := hP
      have hD : va_D A [((u_3 0), .inr (6, [.ref (u_3 1), .int 0])), ((u_3 1), .inl (cy, 44, .inl (fun _ => 0))), ((u_3 4), .inr (2, [.ref (u_3 5), .ref (u_3 10), .ref (u_3 15), .int 0, .int 0, .int 0])), ((u_3 5), .inr (8, [.ref (u_3 6), .ref (u_3 7), .ref (u_3 8), .ref (u_3 9), .int 0])), ((u_3 10), .inr (8, [.ref (u_3 11), .ref (u_3 12), .ref (u_3 13), .ref (u_3 14), .int 0])), ((u_3 15), .inr (4, [.ref (u_3 16), .ref (u_3 17), .ref (u_3 18), .int 0])), ((u_7 0), .inl (cy, 44, .inl (fun _ => 0))), (q_1, .inr (11, [.ref (u_3 0), .ref (u_3 2), .ref (u_3 4), .ref (u_3 19), .ref (u_3 34), .ref (u_3 35), .null, .int 0, .int 0, .int 0])), (q_5, .inr (12, [.ref (u_7 0), .int 0, .int 0, .int 0, .int 0, .int 0, .int 0, .int 0, .ref (u_7 1), .ref (u_7 2), .ref (u_7 3), .ref (u_7 4), .int 0, .ref (u_7 5), .ref (u_7 6), .ref (u_7 7), .ref (u_7 8), .int 0, .int 0, .int 0, .int 0, .ref (u_7 9), .ref (u_7 10), .int 0, .ref (u_7 11), .ref (u_7 12), .int 0, .int (-1), .int 0, .int 0, .int 0, .int 0, .int 0, .int 0, .ref (u_7 13), .ref (u_7 14), .ref (u_7 15), .ref (u_7 16), .ref (u_7 17), .ref (u_7 18), .ref (u_7 19), .ref (u_7 20), .ref (u_7 21), .long 0]))] := hD
      refine lv_icmp_eq (tgt := 828) hx hb dL_law_533 (by decide) (fun c_124 => ?_) (fun c_124 => absurd rfl c_124)
      refine lv_iinc (v := 4) (lv' := [(3, .int 4), (2, .ref q_5), (1, .ref q_1), (0, .ref b)]) hx hb dL_law_828 hl (k := 0) rfl (by decide) (by decide) rfl (fun ls hl => ?_)
      refine lv_goto (tgt := 18) hx hb dL_law_831 (by decide) ?_
      refine lv_iload_n hx hb dL_law_18 rfl (lv_at hl 0 rfl) ?_
      refine lv_aload_n hx hb dL_law_19 rfl (lv_at hl 3 rfl) ?_
      refine va_slen hx hb hX hbl hbA hS dL_law_20 ?_
      refine wk_toi (y := 4) rfl ?_
      refine lv_iconst (v := 4) hx hb dL_law_21 (by decide) ?_
      refine lv_isub hx hb dL_law_22 ?_
      refine wk_toi (show ((4 - 4) : Int32) = 0 by decide) ?_
      refine lv_icmp_gt (tgt := 834) hx hb dL_law_23 (by decide) (fun _ => ?_) (fun c_125 => absurd (by decide) c_125)
      refine lv_iconst (v := 1) hx hb dL_law_834 (by decide) ?_
      refine va_forget (fun q hq => by have h9 := hS.2.2 q hq; rw [hAe] at h9; exact h9) ?_
      refine W.widen (k := 600000) (n := 7302250) (by decide) (by decide) ?_
      exact lw_ret hx hb hr hlocks dL_law_835
    · refine wk_toi (show nI 14 = 14 from rfl) ?_
      refine lv_tableIn (off := 506) (tgt := 538) hx hb dL_law_32 (by decide) (by decide) (by decide) (by decide) ?_
      refine lv_aload_n hx hb dL_law_538 rfl (lv_at hl 2 rfl) ?_
      refine lv_aload_n hx hb dL_law_539 rfl (lv_at hl 3 rfl) ?_
      refine lv_iload_n hx hb dL_law_540 rfl (lv_at hl 0 rfl) ?_
      refine lv_iconst (v := 1) hx hb dL_law_541 (by decide) ?_
      refine lv_iadd hx hb dL_law_542 ?_
      refine wk_toi (show ((0 + 1) : Int32) = 1 by decide) ?_
      refine va_sld hx hb hX hbl hbA hS (show vp_in 1 4 by unfold vp_in; decide) dL_law_543 ?_
      refine wk_toi (y := xs 1) rfl ?_
      refine wk_iV (As := [.int (xs 1)]) (rest := []) (wc := [(q_1, .inr (11, [.ref (u_3 0), .ref (u_3 2), .ref (u_3 4), .ref (u_3 19), .ref (u_3 34), .ref (u_3 35), .null, .int 0, .int 0, .int 0])), ((u_3 4), .inr (2, [.ref (u_3 5), .ref (u_3 10), .ref (u_3 15), .int 0, .int 0, .int 0])), ((u_3 5), .inr (8, [.ref (u_3 6), .ref (u_3 7), .ref (u_3 8), .ref (u_3 9), .int 0]))]) (wr := [((u_3 0), .inr (6, [.ref (u_3 1), .int 0])), ((u_3 1), .inl (cy, 44, .inl (fun _ => 0))), ((u_3 10), .inr (8, [.ref (u_3 11), .ref (u_3 12), .ref (u_3 13), .ref (u_3 14), .int 0])), ((u_3 15), .inr (4, [.ref (u_3 16), .ref (u_3 17), .ref (u_3 18), .int 0])), (q_5, .inr (12, [.ref (u_7 0), .int 0, .int 0, .int 0, .int 0, .int 0, .int 0, .int 0, .ref (u_7 1), .ref (u_7 2), .ref (u_7 3), .ref (u_7 4), .int 0, .ref (u_7 5), .ref (u_7 6), .ref (u_7 7), .ref (u_7 8), .int 0, .int 0, .int 0, .int 0, .ref (u_7 9), .ref (u_7 10), .int 0, .ref (u_7 11), .ref (u_7 12), .int 0, .int (-1), .int 0, .int 0, .int 0, .int 0, .int 0, .int 0, .ref (u_7 13), .ref (u_7 14), .ref (u_7 15), .ref (u_7 16), .ref (u_7 17), .ref (u_7 18), .ref (u_7 19), .ref (u_7 20), .ref (u_7 21), .long 0])), ((u_7 0), .inl (cy, 44, .inl (fun _ => 0)))]) (n := 1) (R := _) ⟨hx, hb, hml, hown, htb⟩ (c_X11_remove l D cy q_1 (u_3 0) (u_3 2) (u_3 4) (u_3 19) (u_3 34) (u_3 35) (u_3 5) (u_3 10) (u_3 15) (u_3 6) (u_3 7) (u_3 8) (u_3 9) (xs 1) ) tw_604 tw_601 tw_602 tw_603 tw_64 rfl rfl (by decide +kernel) ⟨Nat.le_of_ble_eq_true rfl, Nat.le_of_ble_eq_true rfl⟩ hK hP hD hS hA [0, 3, 4] [1, 2, 5, 6, 7, 8] rfl rfl rfl rfl (by decide) 0 (ci := 11) rfl rfl rfl hl.1 rfl (Nat.le_of_ble_eq_true rfl) dL_law_544 ⟨Nat.le_of_ble_eq_true rfl, Nat.le_of_ble_eq_true rfl⟩ (fun r_126 u_127 H locs hw_128 hP hD hS => ?_)
      refine W.widen (k := 64) (n := 614) (by decide) (by decide) ?_
      have hw_128 : r_126 = if (0 ≤ (xs 1).toInt ∧ (xs 1).toInt ≤ 99) then (-103) else (-102) := hw_128
      subst hw_128
      have hP : va_P D classes [((u_3 0), .inr (6, [.ref (u_3 1), .int 0])), ((u_3 1), .inl (cy, 44, .inl (fun _ => 0))), ((u_3 10), .inr (8, [.ref (u_3 11), .ref (u_3 12), .ref (u_3 13), .ref (u_3 14), .int 0])), ((u_3 15), .inr (4, [.ref (u_3 16), .ref (u_3 17), .ref (u_3 18), .int 0])), (q_5, .inr (12, [.ref (u_7 0), .int 0, .int 0, .int 0, .int 0, .int 0, .int 0, .int 0, .ref (u_7 1), .ref (u_7 2), .ref (u_7 3), .ref (u_7 4), .int 0, .ref (u_7 5), .ref (u_7 6), .ref (u_7 7), .ref (u_7 8), .int 0, .int 0, .int 0, .int 0, .ref (u_7 9), .ref (u_7 10), .int 0, .ref (u_7 11), .ref (u_7 12), .int 0, .int (-1), .int 0, .int 0, .int 0, .int 0, .int 0, .int 0, .ref (u_7 13), .ref (u_7 14), .ref (u_7 15), .ref (u_7 16), .ref (u_7 17), .ref (u_7 18), .ref (u_7 19), .ref (u_7 20), .ref (u_7 21), .long 0])), ((u_7 0), .inl (cy, 44, .inl (fun _ => 0))), (q_1, .inr (11, [.ref (u_3 0), .ref (u_3 2), .ref (u_3 4), .ref (u_3 19), .ref (u_3 34), .ref (u_3 35), .null, .int 0, .int 0, .int 0])), ((u_3 4), .inr (2, [.ref (u_3 5), .ref (u_3 10), .ref (u_3 15), .int 0, .int 0, .int 0])), ((u_3 5), .inr (8, [.ref (u_3 6), .ref (u_3 7), .ref (u_3 8), .ref (u_3 9), .int 0]))] H := hP
      have hD : va_D A [((u_3 0), .inr (6, [.ref (u_3 1), .int 0])), ((u_3 1), .inl (cy, 44, .inl (fun _ => 0))), ((u_3 10), .inr (8, [.ref (u_3 11), .ref (u_3 12), .ref (u_3 13), .ref (u_3 14), .int 0])), ((u_3 15), .inr (4, [.ref (u_3 16), .ref (u_3 17), .ref (u_3 18), .int 0])), (q_5, .inr (12, [.ref (u_7 0), .int 0, .int 0, .int 0, .int 0, .int 0, .int 0, .int 0, .ref (u_7 1), .ref (u_7 2), .ref (u_7 3), .ref (u_7 4), .int 0, .ref (u_7 5), .ref (u_7 6), .ref (u_7 7), .ref (u_7 8), .int 0, .int 0, .int 0, .int 0, .ref (u_7 9), .ref (u_7 10), .int 0, .ref (u_7 11), .ref (u_7 12), .int 0, .int (-1), .int 0, .int 0, .int 0, .int 0, .int 0, .int 0, .ref (u_7 13), .ref (u_7 14), .ref (u_7 15), .ref (u_7 16), .ref (u_7 17), .ref (u_7 18), .ref (u_7 19), .ref (u_7 20), .ref (u_7 21), .long 0])), ((u_7 0), .inl (cy, 44, .inl (fun _ => 0))), (q_1, .inr (11, [.ref (u_3 0), .ref (u_3 2), .ref (u_3 4), .ref (u_3 19), .ref (u_3 34), .ref (u_3 35), .null, .int 0, .int 0, .int 0])), ((u_3 4), .inr (2, [.ref (u_3 5), .ref (u_3 10), .ref (u_3 15), .int 0, .int 0, .int 0])), ((u_3 5), .inr (8, [.ref (u_3 6), .ref (u_3 7), .ref (u_3 8), .ref (u_3 9), .int 0]))] := hD
      refine lv_aload_n hx hb dL_law_547 rfl (lv_at hl 1 rfl) ?_
      refine lv_aload_n hx hb dL_law_548 rfl (lv_at hl 3 rfl) ?_
      refine lv_iload_n hx hb dL_law_549 rfl (lv_at hl 0 rfl) ?_
      refine lv_iconst (v := 1) hx hb dL_law_550 (by decide) ?_
      refine lv_iadd hx hb dL_law_551 ?_
      refine wk_toi (show ((0 + 1) : Int32) = 1 by decide) ?_
      refine va_sld hx hb hX hbl hbA hS (show vp_in 1 4 by unfold vp_in; decide) dL_law_552 ?_
      refine wk_toi (y := xs 1) rfl ?_
      refine wk_iV (As := [.int (xs 1)]) (rest := [.int (if (0 ≤ (xs 1).toInt ∧ (xs 1).toInt ≤ 99) then (-103) else (-102))]) (wc := [(q_5, .inr (12, [.ref (u_7 0), .int 0, .int 0, .int 0, .int 0, .int 0, .int 0, .int 0, .ref (u_7 1), .ref (u_7 2), .ref (u_7 3), .ref (u_7 4), .int 0, .ref (u_7 5), .ref (u_7 6), .ref (u_7 7), .ref (u_7 8), .int 0, .int 0, .int 0, .int 0, .ref (u_7 9), .ref (u_7 10), .int 0, .ref (u_7 11), .ref (u_7 12), .int 0, .int (-1), .int 0, .int 0, .int 0, .int 0, .int 0, .int 0, .ref (u_7 13), .ref (u_7 14), .ref (u_7 15), .ref (u_7 16), .ref (u_7 17), .ref (u_7 18), .ref (u_7 19), .ref (u_7 20), .ref (u_7 21), .long 0]))]) (wr := [((u_3 0), .inr (6, [.ref (u_3 1), .int 0])), ((u_3 1), .inl (cy, 44, .inl (fun _ => 0))), ((u_3 10), .inr (8, [.ref (u_3 11), .ref (u_3 12), .ref (u_3 13), .ref (u_3 14), .int 0])), ((u_3 15), .inr (4, [.ref (u_3 16), .ref (u_3 17), .ref (u_3 18), .int 0])), ((u_7 0), .inl (cy, 44, .inl (fun _ => 0))), (q_1, .inr (11, [.ref (u_3 0), .ref (u_3 2), .ref (u_3 4), .ref (u_3 19), .ref (u_3 34), .ref (u_3 35), .null, .int 0, .int 0, .int 0])), ((u_3 4), .inr (2, [.ref (u_3 5), .ref (u_3 10), .ref (u_3 15), .int 0, .int 0, .int 0])), ((u_3 5), .inr (8, [.ref (u_3 6), .ref (u_3 7), .ref (u_3 8), .ref (u_3 9), .int 0]))]) (n := 1) (R := _) ⟨hx, hb, hml, hown, htb⟩ (c_X12_remove l D cy q_5 (u_7 0) (u_7 1) (u_7 2) (u_7 3) (u_7 4) (u_7 5) (u_7 6) (u_7 7) (u_7 8) (u_7 9) (u_7 10) (u_7 11) (u_7 12) (u_7 13) (u_7 14) (u_7 15) (u_7 16) (u_7 17) (u_7 18) (u_7 19) (u_7 20) (u_7 21) (xs 1) 0) tw_1108 tw_1105 tw_1106 tw_1107 tw_71 rfl rfl (by decide +kernel) ⟨Nat.le_of_ble_eq_true rfl, Nat.le_of_ble_eq_true rfl⟩ hK hP hD hS hA [4] [0, 1, 2, 3, 5, 6, 7, 8] rfl rfl rfl rfl (by decide) 0 (ci := 12) rfl rfl rfl hl.1 rfl (Nat.le_of_ble_eq_true rfl) dL_law_553 ⟨Nat.le_of_ble_eq_true rfl, Nat.le_of_ble_eq_true rfl⟩ (fun r_129 u_130 H locs hw_131 hP hD hS => ?_)
      refine W.widen (k := 64) (n := 614) (by decide) (by decide) ?_
      have hw_131 : r_129 = if (0 ≤ (xs 1).toInt ∧ (xs 1).toInt ≤ 99) then (-103) else (-102) := hw_131
      subst hw_131
      have hP : va_P D classes [((u_3 0), .inr (6, [.ref (u_3 1), .int 0])), ((u_3 1), .inl (cy, 44, .inl (fun _ => 0))), ((u_3 10), .inr (8, [.ref (u_3 11), .ref (u_3 12), .ref (u_3 13), .ref (u_3 14), .int 0])), ((u_3 15), .inr (4, [.ref (u_3 16), .ref (u_3 17), .ref (u_3 18), .int 0])), ((u_7 0), .inl (cy, 44, .inl (fun _ => 0))), (q_1, .inr (11, [.ref (u_3 0), .ref (u_3 2), .ref (u_3 4), .ref (u_3 19), .ref (u_3 34), .ref (u_3 35), .null, .int 0, .int 0, .int 0])), ((u_3 4), .inr (2, [.ref (u_3 5), .ref (u_3 10), .ref (u_3 15), .int 0, .int 0, .int 0])), ((u_3 5), .inr (8, [.ref (u_3 6), .ref (u_3 7), .ref (u_3 8), .ref (u_3 9), .int 0])), (q_5, .inr (12, [.ref (u_7 0), .int 0, .int 0, .int 0, .int 0, .int 0, .int 0, .int 0, .ref (u_7 1), .ref (u_7 2), .ref (u_7 3), .ref (u_7 4), .int 0, .ref (u_7 5), .ref (u_7 6), .ref (u_7 7), .ref (u_7 8), .int 0, .int 0, .int 0, .int 0, .ref (u_7 9), .ref (u_7 10), .int 0, .ref (u_7 11), .ref (u_7 12), .int 0, .int (-1), .int 0, .int 0, .int 0, .int 0, .int 0, .int 0, .ref (u_7 13), .ref (u_7 14), .ref (u_7 15), .ref (u_7 16), .ref (u_7 17), .ref (u_7 18), .ref (u_7 19), .ref (u_7 20), .ref (u_7 21), .long 0]))] H := hP
      have hD : va_D A [((u_3 0), .inr (6, [.ref (u_3 1), .int 0])), ((u_3 1), .inl (cy, 44, .inl (fun _ => 0))), ((u_3 10), .inr (8, [.ref (u_3 11), .ref (u_3 12), .ref (u_3 13), .ref (u_3 14), .int 0])), ((u_3 15), .inr (4, [.ref (u_3 16), .ref (u_3 17), .ref (u_3 18), .int 0])), ((u_7 0), .inl (cy, 44, .inl (fun _ => 0))), (q_1, .inr (11, [.ref (u_3 0), .ref (u_3 2), .ref (u_3 4), .ref (u_3 19), .ref (u_3 34), .ref (u_3 35), .null, .int 0, .int 0, .int 0])), ((u_3 4), .inr (2, [.ref (u_3 5), .ref (u_3 10), .ref (u_3 15), .int 0, .int 0, .int 0])), ((u_3 5), .inr (8, [.ref (u_3 6), .ref (u_3 7), .ref (u_3 8), .ref (u_3 9), .int 0])), (q_5, .inr (12, [.ref (u_7 0), .int 0, .int 0, .int 0, .int 0, .int 0, .int 0, .int 0, .ref (u_7 1), .ref (u_7 2), .ref (u_7 3), .ref (u_7 4), .int 0, .ref (u_7 5), .ref (u_7 6), .ref (u_7 7), .ref (u_7 8), .int 0, .int 0, .int 0, .int 0, .ref (u_7 9), .ref (u_7 10), .int 0, .ref (u_7 11), .ref (u_7 12), .int 0, .int (-1), .int 0, .int 0, .int 0, .int 0, .int 0, .int 0, .ref (u_7 13), .ref (u_7 14), .ref (u_7 15), .ref (u_7 16), .ref (u_7 17), .ref (u_7 18), .ref (u_7 19), .ref (u_7 20), .ref (u_7 21), .long 0]))] := hD
      refine lv_icmp_eq (tgt := 828) hx hb dL_law_556 (by decide) (fun c_132 => ?_) (fun c_132 => absurd rfl c_132)
      refine lv_iinc (v := 4) (lv' := [(3, .int 4), (2, .ref q_5), (1, .ref q_1), (0, .ref b)]) hx hb dL_law_828 hl (k := 0) rfl (by decide) (by decide) rfl (fun ls hl => ?_)
      refine lv_goto (tgt := 18) hx hb dL_law_831 (by decide) ?_
      refine lv_iload_n hx hb dL_law_18 rfl (lv_at hl 0 rfl) ?_
      refine lv_aload_n hx hb dL_law_19 rfl (lv_at hl 3 rfl) ?_
      refine va_slen hx hb hX hbl hbA hS dL_law_20 ?_
      refine wk_toi (y := 4) rfl ?_
      refine lv_iconst (v := 4) hx hb dL_law_21 (by decide) ?_
      refine lv_isub hx hb dL_law_22 ?_
      refine wk_toi (show ((4 - 4) : Int32) = 0 by decide) ?_
      refine lv_icmp_gt (tgt := 834) hx hb dL_law_23 (by decide) (fun _ => ?_) (fun c_133 => absurd (by decide) c_133)
      refine lv_iconst (v := 1) hx hb dL_law_834 (by decide) ?_
      refine va_forget (fun q hq => by have h9 := hS.2.2 q hq; rw [hAe] at h9; exact h9) ?_
      refine W.widen (k := 600000) (n := 7302250) (by decide) (by decide) ?_
      exact lw_ret hx hb hr hlocks dL_law_835
    · refine wk_toi (show nI 15 = 15 from rfl) ?_
      refine lv_tableIn (off := 529) (tgt := 561) hx hb dL_law_32 (by decide) (by decide) (by decide) (by decide) ?_
      refine lv_aload_n hx hb dL_law_561 rfl (lv_at hl 2 rfl) ?_
      refine lv_aload_n hx hb dL_law_562 rfl (lv_at hl 3 rfl) ?_
      refine lv_iload_n hx hb dL_law_563 rfl (lv_at hl 0 rfl) ?_
      refine lv_iconst (v := 1) hx hb dL_law_564 (by decide) ?_
      refine lv_iadd hx hb dL_law_565 ?_
      refine wk_toi (show ((0 + 1) : Int32) = 1 by decide) ?_
      refine va_sld hx hb hX hbl hbA hS (show vp_in 1 4 by unfold vp_in; decide) dL_law_566 ?_
      refine wk_toi (y := xs 1) rfl ?_
      refine wk_iV (As := [.int (xs 1)]) (rest := []) (wc := [(q_1, .inr (11, [.ref (u_3 0), .ref (u_3 2), .ref (u_3 4), .ref (u_3 19), .ref (u_3 34), .ref (u_3 35), .null, .int 0, .int 0, .int 0])), ((u_3 4), .inr (2, [.ref (u_3 5), .ref (u_3 10), .ref (u_3 15), .int 0, .int 0, .int 0])), ((u_3 5), .inr (8, [.ref (u_3 6), .ref (u_3 7), .ref (u_3 8), .ref (u_3 9), .int 0]))]) (wr := [((u_3 0), .inr (6, [.ref (u_3 1), .int 0])), ((u_3 1), .inl (cy, 44, .inl (fun _ => 0))), ((u_3 10), .inr (8, [.ref (u_3 11), .ref (u_3 12), .ref (u_3 13), .ref (u_3 14), .int 0])), ((u_3 15), .inr (4, [.ref (u_3 16), .ref (u_3 17), .ref (u_3 18), .int 0])), (q_5, .inr (12, [.ref (u_7 0), .int 0, .int 0, .int 0, .int 0, .int 0, .int 0, .int 0, .ref (u_7 1), .ref (u_7 2), .ref (u_7 3), .ref (u_7 4), .int 0, .ref (u_7 5), .ref (u_7 6), .ref (u_7 7), .ref (u_7 8), .int 0, .int 0, .int 0, .int 0, .ref (u_7 9), .ref (u_7 10), .int 0, .ref (u_7 11), .ref (u_7 12), .int 0, .int (-1), .int 0, .int 0, .int 0, .int 0, .int 0, .int 0, .ref (u_7 13), .ref (u_7 14), .ref (u_7 15), .ref (u_7 16), .ref (u_7 17), .ref (u_7 18), .ref (u_7 19), .ref (u_7 20), .ref (u_7 21), .long 0])), ((u_7 0), .inl (cy, 44, .inl (fun _ => 0)))]) (n := 1) (R := _) ⟨hx, hb, hml, hown, htb⟩ (c_X11_split l D cy q_1 (u_3 0) (u_3 2) (u_3 4) (u_3 19) (u_3 34) (u_3 35) (u_3 5) (u_3 10) (u_3 15) (u_3 6) (u_3 7) (u_3 8) (u_3 9) (xs 1) ) tw_617 tw_614 tw_615 tw_616 tw_64 rfl rfl (by decide +kernel) ⟨Nat.le_of_ble_eq_true rfl, Nat.le_of_ble_eq_true rfl⟩ hK hP hD hS hA [0, 3, 4] [1, 2, 5, 6, 7, 8] rfl rfl rfl rfl (by decide) 0 (ci := 11) rfl rfl rfl hl.1 rfl (Nat.le_of_ble_eq_true rfl) dL_law_567 ⟨Nat.le_of_ble_eq_true rfl, Nat.le_of_ble_eq_true rfl⟩ (fun r_134 u_135 H locs hw_136 hP hD hS => ?_)
      refine W.widen (k := 64) (n := 614) (by decide) (by decide) ?_
      have hw_136 : r_134 = if (0 ≤ (xs 1).toInt ∧ (xs 1).toInt ≤ 99) then (-103) else (-102) := hw_136
      subst hw_136
      have hP : va_P D classes [((u_3 0), .inr (6, [.ref (u_3 1), .int 0])), ((u_3 1), .inl (cy, 44, .inl (fun _ => 0))), ((u_3 10), .inr (8, [.ref (u_3 11), .ref (u_3 12), .ref (u_3 13), .ref (u_3 14), .int 0])), ((u_3 15), .inr (4, [.ref (u_3 16), .ref (u_3 17), .ref (u_3 18), .int 0])), (q_5, .inr (12, [.ref (u_7 0), .int 0, .int 0, .int 0, .int 0, .int 0, .int 0, .int 0, .ref (u_7 1), .ref (u_7 2), .ref (u_7 3), .ref (u_7 4), .int 0, .ref (u_7 5), .ref (u_7 6), .ref (u_7 7), .ref (u_7 8), .int 0, .int 0, .int 0, .int 0, .ref (u_7 9), .ref (u_7 10), .int 0, .ref (u_7 11), .ref (u_7 12), .int 0, .int (-1), .int 0, .int 0, .int 0, .int 0, .int 0, .int 0, .ref (u_7 13), .ref (u_7 14), .ref (u_7 15), .ref (u_7 16), .ref (u_7 17), .ref (u_7 18), .ref (u_7 19), .ref (u_7 20), .ref (u_7 21), .long 0])), ((u_7 0), .inl (cy, 44, .inl (fun _ => 0))), (q_1, .inr (11, [.ref (u_3 0), .ref (u_3 2), .ref (u_3 4), .ref (u_3 19), .ref (u_3 34), .ref (u_3 35), .null, .int 0, .int 0, .int 0])), ((u_3 4), .inr (2, [.ref (u_3 5), .ref (u_3 10), .ref (u_3 15), .int 0, .int 0, .int 0])), ((u_3 5), .inr (8, [.ref (u_3 6), .ref (u_3 7), .ref (u_3 8), .ref (u_3 9), .int 0]))] H := hP
      have hD : va_D A [((u_3 0), .inr (6, [.ref (u_3 1), .int 0])), ((u_3 1), .inl (cy, 44, .inl (fun _ => 0))), ((u_3 10), .inr (8, [.ref (u_3 11), .ref (u_3 12), .ref (u_3 13), .ref (u_3 14), .int 0])), ((u_3 15), .inr (4, [.ref (u_3 16), .ref (u_3 17), .ref (u_3 18), .int 0])), (q_5, .inr (12, [.ref (u_7 0), .int 0, .int 0, .int 0, .int 0, .int 0, .int 0, .int 0, .ref (u_7 1), .ref (u_7 2), .ref (u_7 3), .ref (u_7 4), .int 0, .ref (u_7 5), .ref (u_7 6), .ref (u_7 7), .ref (u_7 8), .int 0, .int 0, .int 0, .int 0, .ref (u_7 9), .ref (u_7 10), .int 0, .ref (u_7 11), .ref (u_7 12), .int 0, .int (-1), .int 0, .int 0, .int 0, .int 0, .int 0, .int 0, .ref (u_7 13), .ref (u_7 14), .ref (u_7 15), .ref (u_7 16), .ref (u_7 17), .ref (u_7 18), .ref (u_7 19), .ref (u_7 20), .ref (u_7 21), .long 0])), ((u_7 0), .inl (cy, 44, .inl (fun _ => 0))), (q_1, .inr (11, [.ref (u_3 0), .ref (u_3 2), .ref (u_3 4), .ref (u_3 19), .ref (u_3 34), .ref (u_3 35), .null, .int 0, .int 0, .int 0])), ((u_3 4), .inr (2, [.ref (u_3 5), .ref (u_3 10), .ref (u_3 15), .int 0, .int 0, .int 0])), ((u_3 5), .inr (8, [.ref (u_3 6), .ref (u_3 7), .ref (u_3 8), .ref (u_3 9), .int 0]))] := hD
      refine lv_aload_n hx hb dL_law_570 rfl (lv_at hl 1 rfl) ?_
      refine lv_aload_n hx hb dL_law_571 rfl (lv_at hl 3 rfl) ?_
      refine lv_iload_n hx hb dL_law_572 rfl (lv_at hl 0 rfl) ?_
      refine lv_iconst (v := 1) hx hb dL_law_573 (by decide) ?_
      refine lv_iadd hx hb dL_law_574 ?_
      refine wk_toi (show ((0 + 1) : Int32) = 1 by decide) ?_
      refine va_sld hx hb hX hbl hbA hS (show vp_in 1 4 by unfold vp_in; decide) dL_law_575 ?_
      refine wk_toi (y := xs 1) rfl ?_
      refine wk_iV (As := [.int (xs 1)]) (rest := [.int (if (0 ≤ (xs 1).toInt ∧ (xs 1).toInt ≤ 99) then (-103) else (-102))]) (wc := [(q_5, .inr (12, [.ref (u_7 0), .int 0, .int 0, .int 0, .int 0, .int 0, .int 0, .int 0, .ref (u_7 1), .ref (u_7 2), .ref (u_7 3), .ref (u_7 4), .int 0, .ref (u_7 5), .ref (u_7 6), .ref (u_7 7), .ref (u_7 8), .int 0, .int 0, .int 0, .int 0, .ref (u_7 9), .ref (u_7 10), .int 0, .ref (u_7 11), .ref (u_7 12), .int 0, .int (-1), .int 0, .int 0, .int 0, .int 0, .int 0, .int 0, .ref (u_7 13), .ref (u_7 14), .ref (u_7 15), .ref (u_7 16), .ref (u_7 17), .ref (u_7 18), .ref (u_7 19), .ref (u_7 20), .ref (u_7 21), .long 0]))]) (wr := [((u_3 0), .inr (6, [.ref (u_3 1), .int 0])), ((u_3 1), .inl (cy, 44, .inl (fun _ => 0))), ((u_3 10), .inr (8, [.ref (u_3 11), .ref (u_3 12), .ref (u_3 13), .ref (u_3 14), .int 0])), ((u_3 15), .inr (4, [.ref (u_3 16), .ref (u_3 17), .ref (u_3 18), .int 0])), ((u_7 0), .inl (cy, 44, .inl (fun _ => 0))), (q_1, .inr (11, [.ref (u_3 0), .ref (u_3 2), .ref (u_3 4), .ref (u_3 19), .ref (u_3 34), .ref (u_3 35), .null, .int 0, .int 0, .int 0])), ((u_3 4), .inr (2, [.ref (u_3 5), .ref (u_3 10), .ref (u_3 15), .int 0, .int 0, .int 0])), ((u_3 5), .inr (8, [.ref (u_3 6), .ref (u_3 7), .ref (u_3 8), .ref (u_3 9), .int 0]))]) (n := 1) (R := _) ⟨hx, hb, hml, hown, htb⟩ (c_X12_split l D cy q_5 (u_7 0) (u_7 1) (u_7 2) (u_7 3) (u_7 4) (u_7 5) (u_7 6) (u_7 7) (u_7 8) (u_7 9) (u_7 10) (u_7 11) (u_7 12) (u_7 13) (u_7 14) (u_7 15) (u_7 16) (u_7 17) (u_7 18) (u_7 19) (u_7 20) (u_7 21) (xs 1) 0) tw_1116 tw_1113 tw_1114 tw_1115 tw_71 rfl rfl (by decide +kernel) ⟨Nat.le_of_ble_eq_true rfl, Nat.le_of_ble_eq_true rfl⟩ hK hP hD hS hA [4] [0, 1, 2, 3, 5, 6, 7, 8] rfl rfl rfl rfl (by decide) 0 (ci := 12) rfl rfl rfl hl.1 rfl (Nat.le_of_ble_eq_true rfl) dL_law_576 ⟨Nat.le_of_ble_eq_true rfl, Nat.le_of_ble_eq_true rfl⟩ (fun r_137 u_138 H locs hw_139 hP hD hS => ?_)
      refine W.widen (k := 64) (n := 614) (by decide) (by decide) ?_
      have hw_139 : r_137 = if (0 ≤ (xs 1).toInt ∧ (xs 1).toInt ≤ 99) then (-103) else (-102) := hw_139
      subst hw_139
      have hP : va_P D classes [((u_3 0), .inr (6, [.ref (u_3 1), .int 0])), ((u_3 1), .inl (cy, 44, .inl (fun _ => 0))), ((u_3 10), .inr (8, [.ref (u_3 11), .ref (u_3 12), .ref (u_3 13), .ref (u_3 14), .int 0])), ((u_3 15), .inr (4, [.ref (u_3 16), .ref (u_3 17), .ref (u_3 18), .int 0])), ((u_7 0), .inl (cy, 44, .inl (fun _ => 0))), (q_1, .inr (11, [.ref (u_3 0), .ref (u_3 2), .ref (u_3 4), .ref (u_3 19), .ref (u_3 34), .ref (u_3 35), .null, .int 0, .int 0, .int 0])), ((u_3 4), .inr (2, [.ref (u_3 5), .ref (u_3 10), .ref (u_3 15), .int 0, .int 0, .int 0])), ((u_3 5), .inr (8, [.ref (u_3 6), .ref (u_3 7), .ref (u_3 8), .ref (u_3 9), .int 0])), (q_5, .inr (12, [.ref (u_7 0), .int 0, .int 0, .int 0, .int 0, .int 0, .int 0, .int 0, .ref (u_7 1), .ref (u_7 2), .ref (u_7 3), .ref (u_7 4), .int 0, .ref (u_7 5), .ref (u_7 6), .ref (u_7 7), .ref (u_7 8), .int 0, .int 0, .int 0, .int 0, .ref (u_7 9), .ref (u_7 10), .int 0, .ref (u_7 11), .ref (u_7 12), .int 0, .int (-1), .int 0, .int 0, .int 0, .int 0, .int 0, .int 0, .ref (u_7 13), .ref (u_7 14), .ref (u_7 15), .ref (u_7 16), .ref (u_7 17), .ref (u_7 18), .ref (u_7 19), .ref (u_7 20), .ref (u_7 21), .long 0]))] H := hP
      have hD : va_D A [((u_3 0), .inr (6, [.ref (u_3 1), .int 0])), ((u_3 1), .inl (cy, 44, .inl (fun _ => 0))), ((u_3 10), .inr (8, [.ref (u_3 11), .ref (u_3 12), .ref (u_3 13), .ref (u_3 14), .int 0])), ((u_3 15), .inr (4, [.ref (u_3 16), .ref (u_3 17), .ref (u_3 18), .int 0])), ((u_7 0), .inl (cy, 44, .inl (fun _ => 0))), (q_1, .inr (11, [.ref (u_3 0), .ref (u_3 2), .ref (u_3 4), .ref (u_3 19), .ref (u_3 34), .ref (u_3 35), .null, .int 0, .int 0, .int 0])), ((u_3 4), .inr (2, [.ref (u_3 5), .ref (u_3 10), .ref (u_3 15), .int 0, .int 0, .int 0])), ((u_3 5), .inr (8, [.ref (u_3 6), .ref (u_3 7), .ref (u_3 8), .ref (u_3 9), .int 0])), (q_5, .inr (12, [.ref (u_7 0), .int 0, .int 0, .int 0, .int 0, .int 0, .int 0, .int 0, .ref (u_7 1), .ref (u_7 2), .ref (u_7 3), .ref (u_7 4), .int 0, .ref (u_7 5), .ref (u_7 6), .ref (u_7 7), .ref (u_7 8), .int 0, .int 0, .int 0, .int 0, .ref (u_7 9), .ref (u_7 10), .int 0, .ref (u_7 11), .ref (u_7 12), .int 0, .int (-1), .int 0, .int 0, .int 0, .int 0, .int 0, .int 0, .ref (u_7 13), .ref (u_7 14), .ref (u_7 15), .ref (u_7 16), .ref (u_7 17), .ref (u_7 18), .ref (u_7 19), .ref (u_7 20), .ref (u_7 21), .long 0]))] := hD
      refine lv_icmp_eq (tgt := 828) hx hb dL_law_579 (by decide) (fun c_140 => ?_) (fun c_140 => absurd rfl c_140)
      refine lv_iinc (v := 4) (lv' := [(3, .int 4), (2, .ref q_5), (1, .ref q_1), (0, .ref b)]) hx hb dL_law_828 hl (k := 0) rfl (by decide) (by decide) rfl (fun ls hl => ?_)
      refine lv_goto (tgt := 18) hx hb dL_law_831 (by decide) ?_
      refine lv_iload_n hx hb dL_law_18 rfl (lv_at hl 0 rfl) ?_
      refine lv_aload_n hx hb dL_law_19 rfl (lv_at hl 3 rfl) ?_
      refine va_slen hx hb hX hbl hbA hS dL_law_20 ?_
      refine wk_toi (y := 4) rfl ?_
      refine lv_iconst (v := 4) hx hb dL_law_21 (by decide) ?_
      refine lv_isub hx hb dL_law_22 ?_
      refine wk_toi (show ((4 - 4) : Int32) = 0 by decide) ?_
      refine lv_icmp_gt (tgt := 834) hx hb dL_law_23 (by decide) (fun _ => ?_) (fun c_141 => absurd (by decide) c_141)
      refine lv_iconst (v := 1) hx hb dL_law_834 (by decide) ?_
      refine va_forget (fun q hq => by have h9 := hS.2.2 q hq; rw [hAe] at h9; exact h9) ?_
      refine W.widen (k := 600000) (n := 7302250) (by decide) (by decide) ?_
      exact lw_ret hx hb hr hlocks dL_law_835
    · refine wk_toi (show nI 16 = 16 from rfl) ?_
      refine lv_tableIn (off := 552) (tgt := 584) hx hb dL_law_32 (by decide) (by decide) (by decide) (by decide) ?_
      refine lv_aload_n hx hb dL_law_584 rfl (lv_at hl 2 rfl) ?_
      refine wk_iV (As := []) (rest := []) (wc := [(q_1, .inr (11, [.ref (u_3 0), .ref (u_3 2), .ref (u_3 4), .ref (u_3 19), .ref (u_3 34), .ref (u_3 35), .null, .int 0, .int 0, .int 0])), ((u_3 4), .inr (2, [.ref (u_3 5), .ref (u_3 10), .ref (u_3 15), .int 0, .int 0, .int 0]))]) (wr := [((u_3 0), .inr (6, [.ref (u_3 1), .int 0])), ((u_3 1), .inl (cy, 44, .inl (fun _ => 0))), ((u_3 5), .inr (8, [.ref (u_3 6), .ref (u_3 7), .ref (u_3 8), .ref (u_3 9), .int 0])), ((u_3 10), .inr (8, [.ref (u_3 11), .ref (u_3 12), .ref (u_3 13), .ref (u_3 14), .int 0])), ((u_3 15), .inr (4, [.ref (u_3 16), .ref (u_3 17), .ref (u_3 18), .int 0])), (q_5, .inr (12, [.ref (u_7 0), .int 0, .int 0, .int 0, .int 0, .int 0, .int 0, .int 0, .ref (u_7 1), .ref (u_7 2), .ref (u_7 3), .ref (u_7 4), .int 0, .ref (u_7 5), .ref (u_7 6), .ref (u_7 7), .ref (u_7 8), .int 0, .int 0, .int 0, .int 0, .ref (u_7 9), .ref (u_7 10), .int 0, .ref (u_7 11), .ref (u_7 12), .int 0, .int (-1), .int 0, .int 0, .int 0, .int 0, .int 0, .int 0, .ref (u_7 13), .ref (u_7 14), .ref (u_7 15), .ref (u_7 16), .ref (u_7 17), .ref (u_7 18), .ref (u_7 19), .ref (u_7 20), .ref (u_7 21), .long 0])), ((u_7 0), .inl (cy, 44, .inl (fun _ => 0)))]) (n := 0) (R := _) ⟨hx, hb, hml, hown, htb⟩ (c_X11_join l D cy q_1 (u_3 0) (u_3 2) (u_3 4) (u_3 19) (u_3 34) (u_3 35) (u_3 5) (u_3 10) (u_3 15)  ) tw_625 tw_622 tw_623 tw_624 tw_64 rfl rfl (by decide +kernel) ⟨Nat.le_of_ble_eq_true rfl, Nat.le_of_ble_eq_true rfl⟩ hK hP hD hS hA [0, 3] [1, 2, 4, 5, 6, 7, 8] rfl rfl rfl rfl (by decide) 0 (ci := 11) rfl rfl rfl hl.1 rfl (Nat.le_of_ble_eq_true rfl) dL_law_585 ⟨Nat.le_of_ble_eq_true rfl, Nat.le_of_ble_eq_true rfl⟩ (fun r_142 u_143 H locs hw_144 hP hD hS => ?_)
      refine W.widen (k := 64) (n := 614) (by decide) (by decide) ?_
      have hw_144 : r_142 = (-103) := hw_144
      subst hw_144
      have hP : va_P D classes [((u_3 0), .inr (6, [.ref (u_3 1), .int 0])), ((u_3 1), .inl (cy, 44, .inl (fun _ => 0))), ((u_3 5), .inr (8, [.ref (u_3 6), .ref (u_3 7), .ref (u_3 8), .ref (u_3 9), .int 0])), ((u_3 10), .inr (8, [.ref (u_3 11), .ref (u_3 12), .ref (u_3 13), .ref (u_3 14), .int 0])), ((u_3 15), .inr (4, [.ref (u_3 16), .ref (u_3 17), .ref (u_3 18), .int 0])), (q_5, .inr (12, [.ref (u_7 0), .int 0, .int 0, .int 0, .int 0, .int 0, .int 0, .int 0, .ref (u_7 1), .ref (u_7 2), .ref (u_7 3), .ref (u_7 4), .int 0, .ref (u_7 5), .ref (u_7 6), .ref (u_7 7), .ref (u_7 8), .int 0, .int 0, .int 0, .int 0, .ref (u_7 9), .ref (u_7 10), .int 0, .ref (u_7 11), .ref (u_7 12), .int 0, .int (-1), .int 0, .int 0, .int 0, .int 0, .int 0, .int 0, .ref (u_7 13), .ref (u_7 14), .ref (u_7 15), .ref (u_7 16), .ref (u_7 17), .ref (u_7 18), .ref (u_7 19), .ref (u_7 20), .ref (u_7 21), .long 0])), ((u_7 0), .inl (cy, 44, .inl (fun _ => 0))), (q_1, .inr (11, [.ref (u_3 0), .ref (u_3 2), .ref (u_3 4), .ref (u_3 19), .ref (u_3 34), .ref (u_3 35), .null, .int 0, .int 0, .int 0])), ((u_3 4), .inr (2, [.ref (u_3 5), .ref (u_3 10), .ref (u_3 15), .int 0, .int 0, .int 0]))] H := hP
      have hD : va_D A [((u_3 0), .inr (6, [.ref (u_3 1), .int 0])), ((u_3 1), .inl (cy, 44, .inl (fun _ => 0))), ((u_3 5), .inr (8, [.ref (u_3 6), .ref (u_3 7), .ref (u_3 8), .ref (u_3 9), .int 0])), ((u_3 10), .inr (8, [.ref (u_3 11), .ref (u_3 12), .ref (u_3 13), .ref (u_3 14), .int 0])), ((u_3 15), .inr (4, [.ref (u_3 16), .ref (u_3 17), .ref (u_3 18), .int 0])), (q_5, .inr (12, [.ref (u_7 0), .int 0, .int 0, .int 0, .int 0, .int 0, .int 0, .int 0, .ref (u_7 1), .ref (u_7 2), .ref (u_7 3), .ref (u_7 4), .int 0, .ref (u_7 5), .ref (u_7 6), .ref (u_7 7), .ref (u_7 8), .int 0, .int 0, .int 0, .int 0, .ref (u_7 9), .ref (u_7 10), .int 0, .ref (u_7 11), .ref (u_7 12), .int 0, .int (-1), .int 0, .int 0, .int 0, .int 0, .int 0, .int 0, .ref (u_7 13), .ref (u_7 14), .ref (u_7 15), .ref (u_7 16), .ref (u_7 17), .ref (u_7 18), .ref (u_7 19), .ref (u_7 20), .ref (u_7 21), .long 0])), ((u_7 0), .inl (cy, 44, .inl (fun _ => 0))), (q_1, .inr (11, [.ref (u_3 0), .ref (u_3 2), .ref (u_3 4), .ref (u_3 19), .ref (u_3 34), .ref (u_3 35), .null, .int 0, .int 0, .int 0])), ((u_3 4), .inr (2, [.ref (u_3 5), .ref (u_3 10), .ref (u_3 15), .int 0, .int 0, .int 0]))] := hD
      refine lv_aload_n hx hb dL_law_588 rfl (lv_at hl 1 rfl) ?_
      refine wk_iV (As := []) (rest := [.int (-103)]) (wc := [(q_5, .inr (12, [.ref (u_7 0), .int 0, .int 0, .int 0, .int 0, .int 0, .int 0, .int 0, .ref (u_7 1), .ref (u_7 2), .ref (u_7 3), .ref (u_7 4), .int 0, .ref (u_7 5), .ref (u_7 6), .ref (u_7 7), .ref (u_7 8), .int 0, .int 0, .int 0, .int 0, .ref (u_7 9), .ref (u_7 10), .int 0, .ref (u_7 11), .ref (u_7 12), .int 0, .int (-1), .int 0, .int 0, .int 0, .int 0, .int 0, .int 0, .ref (u_7 13), .ref (u_7 14), .ref (u_7 15), .ref (u_7 16), .ref (u_7 17), .ref (u_7 18), .ref (u_7 19), .ref (u_7 20), .ref (u_7 21), .long 0]))]) (wr := [((u_3 0), .inr (6, [.ref (u_3 1), .int 0])), ((u_3 1), .inl (cy, 44, .inl (fun _ => 0))), ((u_3 5), .inr (8, [.ref (u_3 6), .ref (u_3 7), .ref (u_3 8), .ref (u_3 9), .int 0])), ((u_3 10), .inr (8, [.ref (u_3 11), .ref (u_3 12), .ref (u_3 13), .ref (u_3 14), .int 0])), ((u_3 15), .inr (4, [.ref (u_3 16), .ref (u_3 17), .ref (u_3 18), .int 0])), ((u_7 0), .inl (cy, 44, .inl (fun _ => 0))), (q_1, .inr (11, [.ref (u_3 0), .ref (u_3 2), .ref (u_3 4), .ref (u_3 19), .ref (u_3 34), .ref (u_3 35), .null, .int 0, .int 0, .int 0])), ((u_3 4), .inr (2, [.ref (u_3 5), .ref (u_3 10), .ref (u_3 15), .int 0, .int 0, .int 0]))]) (n := 0) (R := _) ⟨hx, hb, hml, hown, htb⟩ (c_X12_join l D cy q_5 (u_7 0) (u_7 1) (u_7 2) (u_7 3) (u_7 4) (u_7 5) (u_7 6) (u_7 7) (u_7 8) (u_7 9) (u_7 10) (u_7 11) (u_7 12) (u_7 13) (u_7 14) (u_7 15) (u_7 16) (u_7 17) (u_7 18) (u_7 19) (u_7 20) (u_7 21)  0) tw_1120 tw_1117 tw_1118 tw_1119 tw_71 rfl rfl (by decide +kernel) ⟨Nat.le_of_ble_eq_true rfl, Nat.le_of_ble_eq_true rfl⟩ hK hP hD hS hA [5] [0, 1, 2, 3, 4, 6, 7, 8] rfl rfl rfl rfl (by decide) 0 (ci := 12) rfl rfl rfl hl.1 rfl (Nat.le_of_ble_eq_true rfl) dL_law_589 ⟨Nat.le_of_ble_eq_true rfl, Nat.le_of_ble_eq_true rfl⟩ (fun r_145 u_146 H locs hw_147 hP hD hS => ?_)
      refine W.widen (k := 64) (n := 614) (by decide) (by decide) ?_
      have hw_147 : r_145 = (-103) := hw_147
      subst hw_147
      have hP : va_P D classes [((u_3 0), .inr (6, [.ref (u_3 1), .int 0])), ((u_3 1), .inl (cy, 44, .inl (fun _ => 0))), ((u_3 5), .inr (8, [.ref (u_3 6), .ref (u_3 7), .ref (u_3 8), .ref (u_3 9), .int 0])), ((u_3 10), .inr (8, [.ref (u_3 11), .ref (u_3 12), .ref (u_3 13), .ref (u_3 14), .int 0])), ((u_3 15), .inr (4, [.ref (u_3 16), .ref (u_3 17), .ref (u_3 18), .int 0])), ((u_7 0), .inl (cy, 44, .inl (fun _ => 0))), (q_1, .inr (11, [.ref (u_3 0), .ref (u_3 2), .ref (u_3 4), .ref (u_3 19), .ref (u_3 34), .ref (u_3 35), .null, .int 0, .int 0, .int 0])), ((u_3 4), .inr (2, [.ref (u_3 5), .ref (u_3 10), .ref (u_3 15), .int 0, .int 0, .int 0])), (q_5, .inr (12, [.ref (u_7 0), .int 0, .int 0, .int 0, .int 0, .int 0, .int 0, .int 0, .ref (u_7 1), .ref (u_7 2), .ref (u_7 3), .ref (u_7 4), .int 0, .ref (u_7 5), .ref (u_7 6), .ref (u_7 7), .ref (u_7 8), .int 0, .int 0, .int 0, .int 0, .ref (u_7 9), .ref (u_7 10), .int 0, .ref (u_7 11), .ref (u_7 12), .int 0, .int (-1), .int 0, .int 0, .int 0, .int 0, .int 0, .int 0, .ref (u_7 13), .ref (u_7 14), .ref (u_7 15), .ref (u_7 16), .ref (u_7 17), .ref (u_7 18), .ref (u_7 19), .ref (u_7 20), .ref (u_7 21), .long 0]))] H := hP
      have hD : va_D A [((u_3 0), .inr (6, [.ref (u_3 1), .int 0])), ((u_3 1), .inl (cy, 44, .inl (fun _ => 0))), ((u_3 5), .inr (8, [.ref (u_3 6), .ref (u_3 7), .ref (u_3 8), .ref (u_3 9), .int 0])), ((u_3 10), .inr (8, [.ref (u_3 11), .ref (u_3 12), .ref (u_3 13), .ref (u_3 14), .int 0])), ((u_3 15), .inr (4, [.ref (u_3 16), .ref (u_3 17), .ref (u_3 18), .int 0])), ((u_7 0), .inl (cy, 44, .inl (fun _ => 0))), (q_1, .inr (11, [.ref (u_3 0), .ref (u_3 2), .ref (u_3 4), .ref (u_3 19), .ref (u_3 34), .ref (u_3 35), .null, .int 0, .int 0, .int 0])), ((u_3 4), .inr (2, [.ref (u_3 5), .ref (u_3 10), .ref (u_3 15), .int 0, .int 0, .int 0])), (q_5, .inr (12, [.ref (u_7 0), .int 0, .int 0, .int 0, .int 0, .int 0, .int 0, .int 0, .ref (u_7 1), .ref (u_7 2), .ref (u_7 3), .ref (u_7 4), .int 0, .ref (u_7 5), .ref (u_7 6), .ref (u_7 7), .ref (u_7 8), .int 0, .int 0, .int 0, .int 0, .ref (u_7 9), .ref (u_7 10), .int 0, .ref (u_7 11), .ref (u_7 12), .int 0, .int (-1), .int 0, .int 0, .int 0, .int 0, .int 0, .int 0, .ref (u_7 13), .ref (u_7 14), .ref (u_7 15), .ref (u_7 16), .ref (u_7 17), .ref (u_7 18), .ref (u_7 19), .ref (u_7 20), .ref (u_7 21), .long 0]))] := hD
      refine lv_icmp_eq (tgt := 828) hx hb dL_law_592 (by decide) (fun c_148 => ?_) (fun c_148 => absurd rfl c_148)
      refine lv_iinc (v := 4) (lv' := [(3, .int 4), (2, .ref q_5), (1, .ref q_1), (0, .ref b)]) hx hb dL_law_828 hl (k := 0) rfl (by decide) (by decide) rfl (fun ls hl => ?_)
      refine lv_goto (tgt := 18) hx hb dL_law_831 (by decide) ?_
      refine lv_iload_n hx hb dL_law_18 rfl (lv_at hl 0 rfl) ?_
      refine lv_aload_n hx hb dL_law_19 rfl (lv_at hl 3 rfl) ?_
      refine va_slen hx hb hX hbl hbA hS dL_law_20 ?_
      refine wk_toi (y := 4) rfl ?_
      refine lv_iconst (v := 4) hx hb dL_law_21 (by decide) ?_
      refine lv_isub hx hb dL_law_22 ?_
      refine wk_toi (show ((4 - 4) : Int32) = 0 by decide) ?_
      refine lv_icmp_gt (tgt := 834) hx hb dL_law_23 (by decide) (fun _ => ?_) (fun c_149 => absurd (by decide) c_149)
      refine lv_iconst (v := 1) hx hb dL_law_834 (by decide) ?_
      refine va_forget (fun q hq => by have h9 := hS.2.2 q hq; rw [hAe] at h9; exact h9) ?_
      refine W.widen (k := 600000) (n := 7302250) (by decide) (by decide) ?_
      exact lw_ret hx hb hr hlocks dL_law_835
    · refine wk_toi (show nI 17 = 17 from rfl) ?_
      refine lv_tableIn (off := 565) (tgt := 597) hx hb dL_law_32 (by decide) (by decide) (by decide) (by decide) ?_
      refine lv_aload_n hx hb dL_law_597 rfl (lv_at hl 2 rfl) ?_
      refine wk_iV (As := []) (rest := []) (wc := [(q_1, .inr (11, [.ref (u_3 0), .ref (u_3 2), .ref (u_3 4), .ref (u_3 19), .ref (u_3 34), .ref (u_3 35), .null, .int 0, .int 0, .int 0]))]) (wr := [((u_3 0), .inr (6, [.ref (u_3 1), .int 0])), ((u_3 1), .inl (cy, 44, .inl (fun _ => 0))), ((u_3 4), .inr (2, [.ref (u_3 5), .ref (u_3 10), .ref (u_3 15), .int 0, .int 0, .int 0])), ((u_3 5), .inr (8, [.ref (u_3 6), .ref (u_3 7), .ref (u_3 8), .ref (u_3 9), .int 0])), ((u_3 10), .inr (8, [.ref (u_3 11), .ref (u_3 12), .ref (u_3 13), .ref (u_3 14), .int 0])), ((u_3 15), .inr (4, [.ref (u_3 16), .ref (u_3 17), .ref (u_3 18), .int 0])), (q_5, .inr (12, [.ref (u_7 0), .int 0, .int 0, .int 0, .int 0, .int 0, .int 0, .int 0, .ref (u_7 1), .ref (u_7 2), .ref (u_7 3), .ref (u_7 4), .int 0, .ref (u_7 5), .ref (u_7 6), .ref (u_7 7), .ref (u_7 8), .int 0, .int 0, .int 0, .int 0, .ref (u_7 9), .ref (u_7 10), .int 0, .ref (u_7 11), .ref (u_7 12), .int 0, .int (-1), .int 0, .int 0, .int 0, .int 0, .int 0, .int 0, .ref (u_7 13), .ref (u_7 14), .ref (u_7 15), .ref (u_7 16), .ref (u_7 17), .ref (u_7 18), .ref (u_7 19), .ref (u_7 20), .ref (u_7 21), .long 0])), ((u_7 0), .inl (cy, 44, .inl (fun _ => 0)))]) (n := 0) (R := _) ⟨hx, hb, hml, hown, htb⟩ (c_X11_cost l D cy q_1 (u_3 0) (u_3 2) (u_3 4) (u_3 19) (u_3 34) (u_3 35)  ) tw_633 tw_630 tw_631 tw_632 tw_64 rfl rfl (by decide +kernel) ⟨Nat.le_of_ble_eq_true rfl, Nat.le_of_ble_eq_true rfl⟩ hK hP hD hS hA [0] [1, 2, 3, 4, 5, 6, 7, 8] rfl rfl rfl rfl (by decide) 0 (ci := 11) rfl rfl rfl hl.1 rfl (Nat.le_of_ble_eq_true rfl) dL_law_598 ⟨Nat.le_of_ble_eq_true rfl, Nat.le_of_ble_eq_true rfl⟩ (fun r_150 u_151 H locs hw_152 hP hD hS => ?_)
      refine W.widen (k := 64) (n := 614) (by decide) (by decide) ?_
      have hw_152 : r_150 = (-103) := hw_152
      subst hw_152
      have hP : va_P D classes [((u_3 0), .inr (6, [.ref (u_3 1), .int 0])), ((u_3 1), .inl (cy, 44, .inl (fun _ => 0))), ((u_3 4), .inr (2, [.ref (u_3 5), .ref (u_3 10), .ref (u_3 15), .int 0, .int 0, .int 0])), ((u_3 5), .inr (8, [.ref (u_3 6), .ref (u_3 7), .ref (u_3 8), .ref (u_3 9), .int 0])), ((u_3 10), .inr (8, [.ref (u_3 11), .ref (u_3 12), .ref (u_3 13), .ref (u_3 14), .int 0])), ((u_3 15), .inr (4, [.ref (u_3 16), .ref (u_3 17), .ref (u_3 18), .int 0])), (q_5, .inr (12, [.ref (u_7 0), .int 0, .int 0, .int 0, .int 0, .int 0, .int 0, .int 0, .ref (u_7 1), .ref (u_7 2), .ref (u_7 3), .ref (u_7 4), .int 0, .ref (u_7 5), .ref (u_7 6), .ref (u_7 7), .ref (u_7 8), .int 0, .int 0, .int 0, .int 0, .ref (u_7 9), .ref (u_7 10), .int 0, .ref (u_7 11), .ref (u_7 12), .int 0, .int (-1), .int 0, .int 0, .int 0, .int 0, .int 0, .int 0, .ref (u_7 13), .ref (u_7 14), .ref (u_7 15), .ref (u_7 16), .ref (u_7 17), .ref (u_7 18), .ref (u_7 19), .ref (u_7 20), .ref (u_7 21), .long 0])), ((u_7 0), .inl (cy, 44, .inl (fun _ => 0))), (q_1, .inr (11, [.ref (u_3 0), .ref (u_3 2), .ref (u_3 4), .ref (u_3 19), .ref (u_3 34), .ref (u_3 35), .null, .int 0, .int 0, .int 0]))] H := hP
      have hD : va_D A [((u_3 0), .inr (6, [.ref (u_3 1), .int 0])), ((u_3 1), .inl (cy, 44, .inl (fun _ => 0))), ((u_3 4), .inr (2, [.ref (u_3 5), .ref (u_3 10), .ref (u_3 15), .int 0, .int 0, .int 0])), ((u_3 5), .inr (8, [.ref (u_3 6), .ref (u_3 7), .ref (u_3 8), .ref (u_3 9), .int 0])), ((u_3 10), .inr (8, [.ref (u_3 11), .ref (u_3 12), .ref (u_3 13), .ref (u_3 14), .int 0])), ((u_3 15), .inr (4, [.ref (u_3 16), .ref (u_3 17), .ref (u_3 18), .int 0])), (q_5, .inr (12, [.ref (u_7 0), .int 0, .int 0, .int 0, .int 0, .int 0, .int 0, .int 0, .ref (u_7 1), .ref (u_7 2), .ref (u_7 3), .ref (u_7 4), .int 0, .ref (u_7 5), .ref (u_7 6), .ref (u_7 7), .ref (u_7 8), .int 0, .int 0, .int 0, .int 0, .ref (u_7 9), .ref (u_7 10), .int 0, .ref (u_7 11), .ref (u_7 12), .int 0, .int (-1), .int 0, .int 0, .int 0, .int 0, .int 0, .int 0, .ref (u_7 13), .ref (u_7 14), .ref (u_7 15), .ref (u_7 16), .ref (u_7 17), .ref (u_7 18), .ref (u_7 19), .ref (u_7 20), .ref (u_7 21), .long 0])), ((u_7 0), .inl (cy, 44, .inl (fun _ => 0))), (q_1, .inr (11, [.ref (u_3 0), .ref (u_3 2), .ref (u_3 4), .ref (u_3 19), .ref (u_3 34), .ref (u_3 35), .null, .int 0, .int 0, .int 0]))] := hD
      refine lv_aload_n hx hb dL_law_601 rfl (lv_at hl 1 rfl) ?_
      refine wk_iV (As := []) (rest := [.int (-103)]) (wc := [(q_5, .inr (12, [.ref (u_7 0), .int 0, .int 0, .int 0, .int 0, .int 0, .int 0, .int 0, .ref (u_7 1), .ref (u_7 2), .ref (u_7 3), .ref (u_7 4), .int 0, .ref (u_7 5), .ref (u_7 6), .ref (u_7 7), .ref (u_7 8), .int 0, .int 0, .int 0, .int 0, .ref (u_7 9), .ref (u_7 10), .int 0, .ref (u_7 11), .ref (u_7 12), .int 0, .int (-1), .int 0, .int 0, .int 0, .int 0, .int 0, .int 0, .ref (u_7 13), .ref (u_7 14), .ref (u_7 15), .ref (u_7 16), .ref (u_7 17), .ref (u_7 18), .ref (u_7 19), .ref (u_7 20), .ref (u_7 21), .long 0]))]) (wr := [((u_3 0), .inr (6, [.ref (u_3 1), .int 0])), ((u_3 1), .inl (cy, 44, .inl (fun _ => 0))), ((u_3 4), .inr (2, [.ref (u_3 5), .ref (u_3 10), .ref (u_3 15), .int 0, .int 0, .int 0])), ((u_3 5), .inr (8, [.ref (u_3 6), .ref (u_3 7), .ref (u_3 8), .ref (u_3 9), .int 0])), ((u_3 10), .inr (8, [.ref (u_3 11), .ref (u_3 12), .ref (u_3 13), .ref (u_3 14), .int 0])), ((u_3 15), .inr (4, [.ref (u_3 16), .ref (u_3 17), .ref (u_3 18), .int 0])), ((u_7 0), .inl (cy, 44, .inl (fun _ => 0))), (q_1, .inr (11, [.ref (u_3 0), .ref (u_3 2), .ref (u_3 4), .ref (u_3 19), .ref (u_3 34), .ref (u_3 35), .null, .int 0, .int 0, .int 0]))]) (n := 0) (R := _) ⟨hx, hb, hml, hown, htb⟩ (c_X12_cost l D cy q_5 (u_7 0) (u_7 1) (u_7 2) (u_7 3) (u_7 4) (u_7 5) (u_7 6) (u_7 7) (u_7 8) (u_7 9) (u_7 10) (u_7 11) (u_7 12) (u_7 13) (u_7 14) (u_7 15) (u_7 16) (u_7 17) (u_7 18) (u_7 19) (u_7 20) (u_7 21)  0) tw_1124 tw_1121 tw_1122 tw_1123 tw_71 rfl rfl (by decide +kernel) ⟨Nat.le_of_ble_eq_true rfl, Nat.le_of_ble_eq_true rfl⟩ hK hP hD hS hA [6] [0, 1, 2, 3, 4, 5, 7, 8] rfl rfl rfl rfl (by decide) 0 (ci := 12) rfl rfl rfl hl.1 rfl (Nat.le_of_ble_eq_true rfl) dL_law_602 ⟨Nat.le_of_ble_eq_true rfl, Nat.le_of_ble_eq_true rfl⟩ (fun r_153 u_154 H locs hw_155 hP hD hS => ?_)
      refine W.widen (k := 64) (n := 614) (by decide) (by decide) ?_
      have hw_155 : r_153 = (-103) := hw_155
      subst hw_155
      have hP : va_P D classes [((u_3 0), .inr (6, [.ref (u_3 1), .int 0])), ((u_3 1), .inl (cy, 44, .inl (fun _ => 0))), ((u_3 4), .inr (2, [.ref (u_3 5), .ref (u_3 10), .ref (u_3 15), .int 0, .int 0, .int 0])), ((u_3 5), .inr (8, [.ref (u_3 6), .ref (u_3 7), .ref (u_3 8), .ref (u_3 9), .int 0])), ((u_3 10), .inr (8, [.ref (u_3 11), .ref (u_3 12), .ref (u_3 13), .ref (u_3 14), .int 0])), ((u_3 15), .inr (4, [.ref (u_3 16), .ref (u_3 17), .ref (u_3 18), .int 0])), ((u_7 0), .inl (cy, 44, .inl (fun _ => 0))), (q_1, .inr (11, [.ref (u_3 0), .ref (u_3 2), .ref (u_3 4), .ref (u_3 19), .ref (u_3 34), .ref (u_3 35), .null, .int 0, .int 0, .int 0])), (q_5, .inr (12, [.ref (u_7 0), .int 0, .int 0, .int 0, .int 0, .int 0, .int 0, .int 0, .ref (u_7 1), .ref (u_7 2), .ref (u_7 3), .ref (u_7 4), .int 0, .ref (u_7 5), .ref (u_7 6), .ref (u_7 7), .ref (u_7 8), .int 0, .int 0, .int 0, .int 0, .ref (u_7 9), .ref (u_7 10), .int 0, .ref (u_7 11), .ref (u_7 12), .int 0, .int (-1), .int 0, .int 0, .int 0, .int 0, .int 0, .int 0, .ref (u_7 13), .ref (u_7 14), .ref (u_7 15), .ref (u_7 16), .ref (u_7 17), .ref (u_7 18), .ref (u_7 19), .ref (u_7 20), .ref (u_7 21), .long 0]))] H := hP
      have hD : va_D A [((u_3 0), .inr (6, [.ref (u_3 1), .int 0])), ((u_3 1), .inl (cy, 44, .inl (fun _ => 0))), ((u_3 4), .inr (2, [.ref (u_3 5), .ref (u_3 10), .ref (u_3 15), .int 0, .int 0, .int 0])), ((u_3 5), .inr (8, [.ref (u_3 6), .ref (u_3 7), .ref (u_3 8), .ref (u_3 9), .int 0])), ((u_3 10), .inr (8, [.ref (u_3 11), .ref (u_3 12), .ref (u_3 13), .ref (u_3 14), .int 0])), ((u_3 15), .inr (4, [.ref (u_3 16), .ref (u_3 17), .ref (u_3 18), .int 0])), ((u_7 0), .inl (cy, 44, .inl (fun _ => 0))), (q_1, .inr (11, [.ref (u_3 0), .ref (u_3 2), .ref (u_3 4), .ref (u_3 19), .ref (u_3 34), .ref (u_3 35), .null, .int 0, .int 0, .int 0])), (q_5, .inr (12, [.ref (u_7 0), .int 0, .int 0, .int 0, .int 0, .int 0, .int 0, .int 0, .ref (u_7 1), .ref (u_7 2), .ref (u_7 3), .ref (u_7 4), .int 0, .ref (u_7 5), .ref (u_7 6), .ref (u_7 7), .ref (u_7 8), .int 0, .int 0, .int 0, .int 0, .ref (u_7 9), .ref (u_7 10), .int 0, .ref (u_7 11), .ref (u_7 12), .int 0, .int (-1), .int 0, .int 0, .int 0, .int 0, .int 0, .int 0, .ref (u_7 13), .ref (u_7 14), .ref (u_7 15), .ref (u_7 16), .ref (u_7 17), .ref (u_7 18), .ref (u_7 19), .ref (u_7 20), .ref (u_7 21), .long 0]))] := hD
      refine lv_icmp_eq (tgt := 828) hx hb dL_law_605 (by decide) (fun c_156 => ?_) (fun c_156 => absurd rfl c_156)
      refine lv_iinc (v := 4) (lv' := [(3, .int 4), (2, .ref q_5), (1, .ref q_1), (0, .ref b)]) hx hb dL_law_828 hl (k := 0) rfl (by decide) (by decide) rfl (fun ls hl => ?_)
      refine lv_goto (tgt := 18) hx hb dL_law_831 (by decide) ?_
      refine lv_iload_n hx hb dL_law_18 rfl (lv_at hl 0 rfl) ?_
      refine lv_aload_n hx hb dL_law_19 rfl (lv_at hl 3 rfl) ?_
      refine va_slen hx hb hX hbl hbA hS dL_law_20 ?_
      refine wk_toi (y := 4) rfl ?_
      refine lv_iconst (v := 4) hx hb dL_law_21 (by decide) ?_
      refine lv_isub hx hb dL_law_22 ?_
      refine wk_toi (show ((4 - 4) : Int32) = 0 by decide) ?_
      refine lv_icmp_gt (tgt := 834) hx hb dL_law_23 (by decide) (fun _ => ?_) (fun c_157 => absurd (by decide) c_157)
      refine lv_iconst (v := 1) hx hb dL_law_834 (by decide) ?_
      refine va_forget (fun q hq => by have h9 := hS.2.2 q hq; rw [hAe] at h9; exact h9) ?_
      refine W.widen (k := 600000) (n := 7302250) (by decide) (by decide) ?_
      exact lw_ret hx hb hr hlocks dL_law_835
    · refine wk_toi (show nI 18 = 18 from rfl) ?_
      refine lv_tableIn (off := 578) (tgt := 610) hx hb dL_law_32 (by decide) (by decide) (by decide) (by decide) ?_
      refine lv_aload_n hx hb dL_law_610 rfl (lv_at hl 2 rfl) ?_
      refine lv_aload_n hx hb dL_law_611 rfl (lv_at hl 3 rfl) ?_
      refine lv_iload_n hx hb dL_law_612 rfl (lv_at hl 0 rfl) ?_
      refine lv_iconst (v := 1) hx hb dL_law_613 (by decide) ?_
      refine lv_iadd hx hb dL_law_614 ?_
      refine wk_toi (show ((0 + 1) : Int32) = 1 by decide) ?_
      refine va_sld hx hb hX hbl hbA hS (show vp_in 1 4 by unfold vp_in; decide) dL_law_615 ?_
      refine wk_toi (y := xs 1) rfl ?_
      refine lv_aload_n hx hb dL_law_616 rfl (lv_at hl 3 rfl) ?_
      refine lv_iload_n hx hb dL_law_617 rfl (lv_at hl 0 rfl) ?_
      refine lv_iconst (v := 2) hx hb dL_law_618 (by decide) ?_
      refine lv_iadd hx hb dL_law_619 ?_
      refine wk_toi (show ((0 + 2) : Int32) = 2 by decide) ?_
      refine va_sld hx hb hX hbl hbA hS (show vp_in 2 4 by unfold vp_in; decide) dL_law_620 ?_
      refine wk_toi (y := xs 2) rfl ?_
      refine wk_iV (As := [.int (xs 1), .int (xs 2)]) (rest := []) (wc := [(q_1, .inr (11, [.ref (u_3 0), .ref (u_3 2), .ref (u_3 4), .ref (u_3 19), .ref (u_3 34), .ref (u_3 35), .null, .int 0, .int 0, .int 0]))]) (wr := [((u_3 0), .inr (6, [.ref (u_3 1), .int 0])), ((u_3 1), .inl (cy, 44, .inl (fun _ => 0))), ((u_3 4), .inr (2, [.ref (u_3 5), .ref (u_3 10), .ref (u_3 15), .int 0, .int 0, .int 0])), ((u_3 5), .inr (8, [.ref (u_3 6), .ref (u_3 7), .ref (u_3 8), .ref (u_3 9), .int 0])), ((u_3 10), .inr (8, [.ref (u_3 11), .ref (u_3 12), .ref (u_3 13), .ref (u_3 14), .int 0])), ((u_3 15), .inr (4, [.ref (u_3 16), .ref (u_3 17), .ref (u_3 18), .int 0])), (q_5, .inr (12, [.ref (u_7 0), .int 0, .int 0, .int 0, .int 0, .int 0, .int 0, .int 0, .ref (u_7 1), .ref (u_7 2), .ref (u_7 3), .ref (u_7 4), .int 0, .ref (u_7 5), .ref (u_7 6), .ref (u_7 7), .ref (u_7 8), .int 0, .int 0, .int 0, .int 0, .ref (u_7 9), .ref (u_7 10), .int 0, .ref (u_7 11), .ref (u_7 12), .int 0, .int (-1), .int 0, .int 0, .int 0, .int 0, .int 0, .int 0, .ref (u_7 13), .ref (u_7 14), .ref (u_7 15), .ref (u_7 16), .ref (u_7 17), .ref (u_7 18), .ref (u_7 19), .ref (u_7 20), .ref (u_7 21), .long 0])), ((u_7 0), .inl (cy, 44, .inl (fun _ => 0)))]) (n := 2) (R := _) ⟨hx, hb, hml, hown, htb⟩ (c_X11_best l D cy q_1 (u_3 0) (u_3 2) (u_3 4) (u_3 19) (u_3 34) (u_3 35) (xs 1) (xs 2) ) tw_641 tw_638 tw_639 tw_640 tw_64 rfl rfl (by decide +kernel) ⟨Nat.le_of_ble_eq_true rfl, Nat.le_of_ble_eq_true rfl⟩ hK hP hD hS hA [0] [1, 2, 3, 4, 5, 6, 7, 8] rfl rfl rfl rfl (by decide) 0 (ci := 11) rfl rfl rfl hl.1 rfl (Nat.le_of_ble_eq_true rfl) dL_law_621 ⟨Nat.le_of_ble_eq_true rfl, Nat.le_of_ble_eq_true rfl⟩ (fun r_158 u_159 H locs hw_160 hP hD hS => ?_)
      refine W.widen (k := 64) (n := 614) (by decide) (by decide) ?_
      have hw_160 : r_158 = if (1 ≤ (xs 1).toInt ∧ (xs 1).toInt ≤ 18) ∧ ((xs 2).toInt = 0 ∨ (xs 2).toInt = 1 ∨ (10 ≤ (xs 2).toInt ∧ (xs 2).toInt ≤ 15)) then (-103) else (-102) := hw_160
      subst hw_160
      have hP : va_P D classes [((u_3 0), .inr (6, [.ref (u_3 1), .int 0])), ((u_3 1), .inl (cy, 44, .inl (fun _ => 0))), ((u_3 4), .inr (2, [.ref (u_3 5), .ref (u_3 10), .ref (u_3 15), .int 0, .int 0, .int 0])), ((u_3 5), .inr (8, [.ref (u_3 6), .ref (u_3 7), .ref (u_3 8), .ref (u_3 9), .int 0])), ((u_3 10), .inr (8, [.ref (u_3 11), .ref (u_3 12), .ref (u_3 13), .ref (u_3 14), .int 0])), ((u_3 15), .inr (4, [.ref (u_3 16), .ref (u_3 17), .ref (u_3 18), .int 0])), (q_5, .inr (12, [.ref (u_7 0), .int 0, .int 0, .int 0, .int 0, .int 0, .int 0, .int 0, .ref (u_7 1), .ref (u_7 2), .ref (u_7 3), .ref (u_7 4), .int 0, .ref (u_7 5), .ref (u_7 6), .ref (u_7 7), .ref (u_7 8), .int 0, .int 0, .int 0, .int 0, .ref (u_7 9), .ref (u_7 10), .int 0, .ref (u_7 11), .ref (u_7 12), .int 0, .int (-1), .int 0, .int 0, .int 0, .int 0, .int 0, .int 0, .ref (u_7 13), .ref (u_7 14), .ref (u_7 15), .ref (u_7 16), .ref (u_7 17), .ref (u_7 18), .ref (u_7 19), .ref (u_7 20), .ref (u_7 21), .long 0])), ((u_7 0), .inl (cy, 44, .inl (fun _ => 0))), (q_1, .inr (11, [.ref (u_3 0), .ref (u_3 2), .ref (u_3 4), .ref (u_3 19), .ref (u_3 34), .ref (u_3 35), .null, .int 0, .int 0, .int 0]))] H := hP
      have hD : va_D A [((u_3 0), .inr (6, [.ref (u_3 1), .int 0])), ((u_3 1), .inl (cy, 44, .inl (fun _ => 0))), ((u_3 4), .inr (2, [.ref (u_3 5), .ref (u_3 10), .ref (u_3 15), .int 0, .int 0, .int 0])), ((u_3 5), .inr (8, [.ref (u_3 6), .ref (u_3 7), .ref (u_3 8), .ref (u_3 9), .int 0])), ((u_3 10), .inr (8, [.ref (u_3 11), .ref (u_3 12), .ref (u_3 13), .ref (u_3 14), .int 0])), ((u_3 15), .inr (4, [.ref (u_3 16), .ref (u_3 17), .ref (u_3 18), .int 0])), (q_5, .inr (12, [.ref (u_7 0), .int 0, .int 0, .int 0, .int 0, .int 0, .int 0, .int 0, .ref (u_7 1), .ref (u_7 2), .ref (u_7 3), .ref (u_7 4), .int 0, .ref (u_7 5), .ref (u_7 6), .ref (u_7 7), .ref (u_7 8), .int 0, .int 0, .int 0, .int 0, .ref (u_7 9), .ref (u_7 10), .int 0, .ref (u_7 11), .ref (u_7 12), .int 0, .int (-1), .int 0, .int 0, .int 0, .int 0, .int 0, .int 0, .ref (u_7 13), .ref (u_7 14), .ref (u_7 15), .ref (u_7 16), .ref (u_7 17), .ref (u_7 18), .ref (u_7 19), .ref (u_7 20), .ref (u_7 21), .long 0])), ((u_7 0), .inl (cy, 44, .inl (fun _ => 0))), (q_1, .inr (11, [.ref (u_3 0), .ref (u_3 2), .ref (u_3 4), .ref (u_3 19), .ref (u_3 34), .ref (u_3 35), .null, .int 0, .int 0, .int 0]))] := hD
      refine lv_aload_n hx hb dL_law_624 rfl (lv_at hl 1 rfl) ?_
      refine lv_aload_n hx hb dL_law_625 rfl (lv_at hl 3 rfl) ?_
      refine lv_iload_n hx hb dL_law_626 rfl (lv_at hl 0 rfl) ?_
      refine lv_iconst (v := 1) hx hb dL_law_627 (by decide) ?_
      refine lv_iadd hx hb dL_law_628 ?_
      refine wk_toi (show ((0 + 1) : Int32) = 1 by decide) ?_
      refine va_sld hx hb hX hbl hbA hS (show vp_in 1 4 by unfold vp_in; decide) dL_law_629 ?_
      refine wk_toi (y := xs 1) rfl ?_
      refine lv_aload_n hx hb dL_law_630 rfl (lv_at hl 3 rfl) ?_
      refine lv_iload_n hx hb dL_law_631 rfl (lv_at hl 0 rfl) ?_
      refine lv_iconst (v := 2) hx hb dL_law_632 (by decide) ?_
      refine lv_iadd hx hb dL_law_633 ?_
      refine wk_toi (show ((0 + 2) : Int32) = 2 by decide) ?_
      refine va_sld hx hb hX hbl hbA hS (show vp_in 2 4 by unfold vp_in; decide) dL_law_634 ?_
      refine wk_toi (y := xs 2) rfl ?_
      refine wk_iV (As := [.int (xs 1), .int (xs 2)]) (rest := [.int (if (1 ≤ (xs 1).toInt ∧ (xs 1).toInt ≤ 18) ∧ ((xs 2).toInt = 0 ∨ (xs 2).toInt = 1 ∨ (10 ≤ (xs 2).toInt ∧ (xs 2).toInt ≤ 15)) then (-103) else (-102))]) (wc := [(q_5, .inr (12, [.ref (u_7 0), .int 0, .int 0, .int 0, .int 0, .int 0, .int 0, .int 0, .ref (u_7 1), .ref (u_7 2), .ref (u_7 3), .ref (u_7 4), .int 0, .ref (u_7 5), .ref (u_7 6), .ref (u_7 7), .ref (u_7 8), .int 0, .int 0, .int 0, .int 0, .ref (u_7 9), .ref (u_7 10), .int 0, .ref (u_7 11), .ref (u_7 12), .int 0, .int (-1), .int 0, .int 0, .int 0, .int 0, .int 0, .int 0, .ref (u_7 13), .ref (u_7 14), .ref (u_7 15), .ref (u_7 16), .ref (u_7 17), .ref (u_7 18), .ref (u_7 19), .ref (u_7 20), .ref (u_7 21), .long 0]))]) (wr := [((u_3 0), .inr (6, [.ref (u_3 1), .int 0])), ((u_3 1), .inl (cy, 44, .inl (fun _ => 0))), ((u_3 4), .inr (2, [.ref (u_3 5), .ref (u_3 10), .ref (u_3 15), .int 0, .int 0, .int 0])), ((u_3 5), .inr (8, [.ref (u_3 6), .ref (u_3 7), .ref (u_3 8), .ref (u_3 9), .int 0])), ((u_3 10), .inr (8, [.ref (u_3 11), .ref (u_3 12), .ref (u_3 13), .ref (u_3 14), .int 0])), ((u_3 15), .inr (4, [.ref (u_3 16), .ref (u_3 17), .ref (u_3 18), .int 0])), ((u_7 0), .inl (cy, 44, .inl (fun _ => 0))), (q_1, .inr (11, [.ref (u_3 0), .ref (u_3 2), .ref (u_3 4), .ref (u_3 19), .ref (u_3 34), .ref (u_3 35), .null, .int 0, .int 0, .int 0]))]) (n := 2) (R := _) ⟨hx, hb, hml, hown, htb⟩ (c_X12_best l D cy q_5 (u_7 0) (u_7 1) (u_7 2) (u_7 3) (u_7 4) (u_7 5) (u_7 6) (u_7 7) (u_7 8) (u_7 9) (u_7 10) (u_7 11) (u_7 12) (u_7 13) (u_7 14) (u_7 15) (u_7 16) (u_7 17) (u_7 18) (u_7 19) (u_7 20) (u_7 21) (xs 1) (xs 2) 0) tw_1132 tw_1129 tw_1130 tw_1131 tw_71 rfl rfl (by decide +kernel) ⟨Nat.le_of_ble_eq_true rfl, Nat.le_of_ble_eq_true rfl⟩ hK hP hD hS hA [6] [0, 1, 2, 3, 4, 5, 7, 8] rfl rfl rfl rfl (by decide) 0 (ci := 12) rfl rfl rfl hl.1 rfl (Nat.le_of_ble_eq_true rfl) dL_law_635 ⟨Nat.le_of_ble_eq_true rfl, Nat.le_of_ble_eq_true rfl⟩ (fun r_161 u_162 H locs hw_163 hP hD hS => ?_)
      refine W.widen (k := 64) (n := 614) (by decide) (by decide) ?_
      have hw_163 : r_161 = if (1 ≤ (xs 1).toInt ∧ (xs 1).toInt ≤ 18) ∧ ((xs 2).toInt = 0 ∨ (xs 2).toInt = 1 ∨ (10 ≤ (xs 2).toInt ∧ (xs 2).toInt ≤ 15)) then (-103) else (-102) := hw_163
      subst hw_163
      have hP : va_P D classes [((u_3 0), .inr (6, [.ref (u_3 1), .int 0])), ((u_3 1), .inl (cy, 44, .inl (fun _ => 0))), ((u_3 4), .inr (2, [.ref (u_3 5), .ref (u_3 10), .ref (u_3 15), .int 0, .int 0, .int 0])), ((u_3 5), .inr (8, [.ref (u_3 6), .ref (u_3 7), .ref (u_3 8), .ref (u_3 9), .int 0])), ((u_3 10), .inr (8, [.ref (u_3 11), .ref (u_3 12), .ref (u_3 13), .ref (u_3 14), .int 0])), ((u_3 15), .inr (4, [.ref (u_3 16), .ref (u_3 17), .ref (u_3 18), .int 0])), ((u_7 0), .inl (cy, 44, .inl (fun _ => 0))), (q_1, .inr (11, [.ref (u_3 0), .ref (u_3 2), .ref (u_3 4), .ref (u_3 19), .ref (u_3 34), .ref (u_3 35), .null, .int 0, .int 0, .int 0])), (q_5, .inr (12, [.ref (u_7 0), .int 0, .int 0, .int 0, .int 0, .int 0, .int 0, .int 0, .ref (u_7 1), .ref (u_7 2), .ref (u_7 3), .ref (u_7 4), .int 0, .ref (u_7 5), .ref (u_7 6), .ref (u_7 7), .ref (u_7 8), .int 0, .int 0, .int 0, .int 0, .ref (u_7 9), .ref (u_7 10), .int 0, .ref (u_7 11), .ref (u_7 12), .int 0, .int (-1), .int 0, .int 0, .int 0, .int 0, .int 0, .int 0, .ref (u_7 13), .ref (u_7 14), .ref (u_7 15), .ref (u_7 16), .ref (u_7 17), .ref (u_7 18), .ref (u_7 19), .ref (u_7 20), .ref (u_7 21), .long 0]))] H := hP
      have hD : va_D A [((u_3 0), .inr (6, [.ref (u_3 1), .int 0])), ((u_3 1), .inl (cy, 44, .inl (fun _ => 0))), ((u_3 4), .inr (2, [.ref (u_3 5), .ref (u_3 10), .ref (u_3 15), .int 0, .int 0, .int 0])), ((u_3 5), .inr (8, [.ref (u_3 6), .ref (u_3 7), .ref (u_3 8), .ref (u_3 9), .int 0])), ((u_3 10), .inr (8, [.ref (u_3 11), .ref (u_3 12), .ref (u_3 13), .ref (u_3 14), .int 0])), ((u_3 15), .inr (4, [.ref (u_3 16), .ref (u_3 17), .ref (u_3 18), .int 0])), ((u_7 0), .inl (cy, 44, .inl (fun _ => 0))), (q_1, .inr (11, [.ref (u_3 0), .ref (u_3 2), .ref (u_3 4), .ref (u_3 19), .ref (u_3 34), .ref (u_3 35), .null, .int 0, .int 0, .int 0])), (q_5, .inr (12, [.ref (u_7 0), .int 0, .int 0, .int 0, .int 0, .int 0, .int 0, .int 0, .ref (u_7 1), .ref (u_7 2), .ref (u_7 3), .ref (u_7 4), .int 0, .ref (u_7 5), .ref (u_7 6), .ref (u_7 7), .ref (u_7 8), .int 0, .int 0, .int 0, .int 0, .ref (u_7 9), .ref (u_7 10), .int 0, .ref (u_7 11), .ref (u_7 12), .int 0, .int (-1), .int 0, .int 0, .int 0, .int 0, .int 0, .int 0, .ref (u_7 13), .ref (u_7 14), .ref (u_7 15), .ref (u_7 16), .ref (u_7 17), .ref (u_7 18), .ref (u_7 19), .ref (u_7 20), .ref (u_7 21), .long 0]))] := hD
      refine lv_icmp_eq (tgt := 828) hx hb dL_law_638 (by decide) (fun c_164 => ?_) (fun c_164 => absurd rfl c_164)
      refine lv_iinc (v := 4) (lv' := [(3, .int 4), (2, .ref q_5), (1, .ref q_1), (0, .ref b)]) hx hb dL_law_828 hl (k := 0) rfl (by decide) (by decide) rfl (fun ls hl => ?_)
      refine lv_goto (tgt := 18) hx hb dL_law_831 (by decide) ?_
      refine lv_iload_n hx hb dL_law_18 rfl (lv_at hl 0 rfl) ?_
      refine lv_aload_n hx hb dL_law_19 rfl (lv_at hl 3 rfl) ?_
      refine va_slen hx hb hX hbl hbA hS dL_law_20 ?_
      refine wk_toi (y := 4) rfl ?_
      refine lv_iconst (v := 4) hx hb dL_law_21 (by decide) ?_
      refine lv_isub hx hb dL_law_22 ?_
      refine wk_toi (show ((4 - 4) : Int32) = 0 by decide) ?_
      refine lv_icmp_gt (tgt := 834) hx hb dL_law_23 (by decide) (fun _ => ?_) (fun c_165 => absurd (by decide) c_165)
      refine lv_iconst (v := 1) hx hb dL_law_834 (by decide) ?_
      refine va_forget (fun q hq => by have h9 := hS.2.2 q hq; rw [hAe] at h9; exact h9) ?_
      refine W.widen (k := 600000) (n := 7302250) (by decide) (by decide) ?_
      exact lw_ret hx hb hr hlocks dL_law_835
    · refine wk_toi (show nI 19 = 19 from rfl) ?_
      refine lv_tableIn (off := 611) (tgt := 643) hx hb dL_law_32 (by decide) (by decide) (by decide) (by decide) ?_
      refine lv_aload_n hx hb dL_law_643 rfl (lv_at hl 2 rfl) ?_
      refine lv_aload_n hx hb dL_law_644 rfl (lv_at hl 3 rfl) ?_
      refine lv_iload_n hx hb dL_law_645 rfl (lv_at hl 0 rfl) ?_
      refine lv_iconst (v := 1) hx hb dL_law_646 (by decide) ?_
      refine lv_iadd hx hb dL_law_647 ?_
      refine wk_toi (show ((0 + 1) : Int32) = 1 by decide) ?_
      refine va_sld hx hb hX hbl hbA hS (show vp_in 1 4 by unfold vp_in; decide) dL_law_648 ?_
      refine wk_toi (y := xs 1) rfl ?_
      refine wk_iV (As := [.int (xs 1)]) (rest := []) (wc := [(q_1, .inr (11, [.ref (u_3 0), .ref (u_3 2), .ref (u_3 4), .ref (u_3 19), .ref (u_3 34), .ref (u_3 35), .null, .int 0, .int 0, .int 0]))]) (wr := [((u_3 0), .inr (6, [.ref (u_3 1), .int 0])), ((u_3 1), .inl (cy, 44, .inl (fun _ => 0))), ((u_3 4), .inr (2, [.ref (u_3 5), .ref (u_3 10), .ref (u_3 15), .int 0, .int 0, .int 0])), ((u_3 5), .inr (8, [.ref (u_3 6), .ref (u_3 7), .ref (u_3 8), .ref (u_3 9), .int 0])), ((u_3 10), .inr (8, [.ref (u_3 11), .ref (u_3 12), .ref (u_3 13), .ref (u_3 14), .int 0])), ((u_3 15), .inr (4, [.ref (u_3 16), .ref (u_3 17), .ref (u_3 18), .int 0])), (q_5, .inr (12, [.ref (u_7 0), .int 0, .int 0, .int 0, .int 0, .int 0, .int 0, .int 0, .ref (u_7 1), .ref (u_7 2), .ref (u_7 3), .ref (u_7 4), .int 0, .ref (u_7 5), .ref (u_7 6), .ref (u_7 7), .ref (u_7 8), .int 0, .int 0, .int 0, .int 0, .ref (u_7 9), .ref (u_7 10), .int 0, .ref (u_7 11), .ref (u_7 12), .int 0, .int (-1), .int 0, .int 0, .int 0, .int 0, .int 0, .int 0, .ref (u_7 13), .ref (u_7 14), .ref (u_7 15), .ref (u_7 16), .ref (u_7 17), .ref (u_7 18), .ref (u_7 19), .ref (u_7 20), .ref (u_7 21), .long 0])), ((u_7 0), .inl (cy, 44, .inl (fun _ => 0)))]) (n := 1) (R := _) ⟨hx, hb, hml, hown, htb⟩ (c_X11_change l D cy q_1 (u_3 0) (u_3 2) (u_3 4) (u_3 19) (u_3 34) (u_3 35) (xs 1) ) tw_666 tw_663 tw_664 tw_665 tw_64 rfl rfl (by decide +kernel) ⟨Nat.le_of_ble_eq_true rfl, Nat.le_of_ble_eq_true rfl⟩ hK hP hD hS hA [0] [1, 2, 3, 4, 5, 6, 7, 8] rfl rfl rfl rfl (by decide) 0 (ci := 11) rfl rfl rfl hl.1 rfl (Nat.le_of_ble_eq_true rfl) dL_law_649 ⟨Nat.le_of_ble_eq_true rfl, Nat.le_of_ble_eq_true rfl⟩ (fun r_166 u_167 H locs hw_168 hP hD hS => ?_)
      refine W.widen (k := 64) (n := 614) (by decide) (by decide) ?_
      have hw_168 : r_166 = if (0 ≤ (xs 1).toInt ∧ (xs 1).toInt ≤ 2) then (-103) else (-102) := hw_168
      subst hw_168
      have hP : va_P D classes [((u_3 0), .inr (6, [.ref (u_3 1), .int 0])), ((u_3 1), .inl (cy, 44, .inl (fun _ => 0))), ((u_3 4), .inr (2, [.ref (u_3 5), .ref (u_3 10), .ref (u_3 15), .int 0, .int 0, .int 0])), ((u_3 5), .inr (8, [.ref (u_3 6), .ref (u_3 7), .ref (u_3 8), .ref (u_3 9), .int 0])), ((u_3 10), .inr (8, [.ref (u_3 11), .ref (u_3 12), .ref (u_3 13), .ref (u_3 14), .int 0])), ((u_3 15), .inr (4, [.ref (u_3 16), .ref (u_3 17), .ref (u_3 18), .int 0])), (q_5, .inr (12, [.ref (u_7 0), .int 0, .int 0, .int 0, .int 0, .int 0, .int 0, .int 0, .ref (u_7 1), .ref (u_7 2), .ref (u_7 3), .ref (u_7 4), .int 0, .ref (u_7 5), .ref (u_7 6), .ref (u_7 7), .ref (u_7 8), .int 0, .int 0, .int 0, .int 0, .ref (u_7 9), .ref (u_7 10), .int 0, .ref (u_7 11), .ref (u_7 12), .int 0, .int (-1), .int 0, .int 0, .int 0, .int 0, .int 0, .int 0, .ref (u_7 13), .ref (u_7 14), .ref (u_7 15), .ref (u_7 16), .ref (u_7 17), .ref (u_7 18), .ref (u_7 19), .ref (u_7 20), .ref (u_7 21), .long 0])), ((u_7 0), .inl (cy, 44, .inl (fun _ => 0))), (q_1, .inr (11, [.ref (u_3 0), .ref (u_3 2), .ref (u_3 4), .ref (u_3 19), .ref (u_3 34), .ref (u_3 35), .null, .int 0, .int 0, .int 0]))] H := hP
      have hD : va_D A [((u_3 0), .inr (6, [.ref (u_3 1), .int 0])), ((u_3 1), .inl (cy, 44, .inl (fun _ => 0))), ((u_3 4), .inr (2, [.ref (u_3 5), .ref (u_3 10), .ref (u_3 15), .int 0, .int 0, .int 0])), ((u_3 5), .inr (8, [.ref (u_3 6), .ref (u_3 7), .ref (u_3 8), .ref (u_3 9), .int 0])), ((u_3 10), .inr (8, [.ref (u_3 11), .ref (u_3 12), .ref (u_3 13), .ref (u_3 14), .int 0])), ((u_3 15), .inr (4, [.ref (u_3 16), .ref (u_3 17), .ref (u_3 18), .int 0])), (q_5, .inr (12, [.ref (u_7 0), .int 0, .int 0, .int 0, .int 0, .int 0, .int 0, .int 0, .ref (u_7 1), .ref (u_7 2), .ref (u_7 3), .ref (u_7 4), .int 0, .ref (u_7 5), .ref (u_7 6), .ref (u_7 7), .ref (u_7 8), .int 0, .int 0, .int 0, .int 0, .ref (u_7 9), .ref (u_7 10), .int 0, .ref (u_7 11), .ref (u_7 12), .int 0, .int (-1), .int 0, .int 0, .int 0, .int 0, .int 0, .int 0, .ref (u_7 13), .ref (u_7 14), .ref (u_7 15), .ref (u_7 16), .ref (u_7 17), .ref (u_7 18), .ref (u_7 19), .ref (u_7 20), .ref (u_7 21), .long 0])), ((u_7 0), .inl (cy, 44, .inl (fun _ => 0))), (q_1, .inr (11, [.ref (u_3 0), .ref (u_3 2), .ref (u_3 4), .ref (u_3 19), .ref (u_3 34), .ref (u_3 35), .null, .int 0, .int 0, .int 0]))] := hD
      refine lv_aload_n hx hb dL_law_652 rfl (lv_at hl 1 rfl) ?_
      refine lv_aload_n hx hb dL_law_653 rfl (lv_at hl 3 rfl) ?_
      refine lv_iload_n hx hb dL_law_654 rfl (lv_at hl 0 rfl) ?_
      refine lv_iconst (v := 1) hx hb dL_law_655 (by decide) ?_
      refine lv_iadd hx hb dL_law_656 ?_
      refine wk_toi (show ((0 + 1) : Int32) = 1 by decide) ?_
      refine va_sld hx hb hX hbl hbA hS (show vp_in 1 4 by unfold vp_in; decide) dL_law_657 ?_
      refine wk_toi (y := xs 1) rfl ?_
      refine wk_iV (As := [.int (xs 1)]) (rest := [.int (if (0 ≤ (xs 1).toInt ∧ (xs 1).toInt ≤ 2) then (-103) else (-102))]) (wc := [(q_5, .inr (12, [.ref (u_7 0), .int 0, .int 0, .int 0, .int 0, .int 0, .int 0, .int 0, .ref (u_7 1), .ref (u_7 2), .ref (u_7 3), .ref (u_7 4), .int 0, .ref (u_7 5), .ref (u_7 6), .ref (u_7 7), .ref (u_7 8), .int 0, .int 0, .int 0, .int 0, .ref (u_7 9), .ref (u_7 10), .int 0, .ref (u_7 11), .ref (u_7 12), .int 0, .int (-1), .int 0, .int 0, .int 0, .int 0, .int 0, .int 0, .ref (u_7 13), .ref (u_7 14), .ref (u_7 15), .ref (u_7 16), .ref (u_7 17), .ref (u_7 18), .ref (u_7 19), .ref (u_7 20), .ref (u_7 21), .long 0]))]) (wr := [((u_3 0), .inr (6, [.ref (u_3 1), .int 0])), ((u_3 1), .inl (cy, 44, .inl (fun _ => 0))), ((u_3 4), .inr (2, [.ref (u_3 5), .ref (u_3 10), .ref (u_3 15), .int 0, .int 0, .int 0])), ((u_3 5), .inr (8, [.ref (u_3 6), .ref (u_3 7), .ref (u_3 8), .ref (u_3 9), .int 0])), ((u_3 10), .inr (8, [.ref (u_3 11), .ref (u_3 12), .ref (u_3 13), .ref (u_3 14), .int 0])), ((u_3 15), .inr (4, [.ref (u_3 16), .ref (u_3 17), .ref (u_3 18), .int 0])), ((u_7 0), .inl (cy, 44, .inl (fun _ => 0))), (q_1, .inr (11, [.ref (u_3 0), .ref (u_3 2), .ref (u_3 4), .ref (u_3 19), .ref (u_3 34), .ref (u_3 35), .null, .int 0, .int 0, .int 0]))]) (n := 1) (R := _) ⟨hx, hb, hml, hown, htb⟩ (c_X12_change l D cy q_5 (u_7 0) (u_7 1) (u_7 2) (u_7 3) (u_7 4) (u_7 5) (u_7 6) (u_7 7) (u_7 8) (u_7 9) (u_7 10) (u_7 11) (u_7 12) (u_7 13) (u_7 14) (u_7 15) (u_7 16) (u_7 17) (u_7 18) (u_7 19) (u_7 20) (u_7 21) (xs 1) 0) tw_1149 tw_1146 tw_1147 tw_1148 tw_71 rfl rfl (by decide +kernel) ⟨Nat.le_of_ble_eq_true rfl, Nat.le_of_ble_eq_true rfl⟩ hK hP hD hS hA [6] [0, 1, 2, 3, 4, 5, 7, 8] rfl rfl rfl rfl (by decide) 0 (ci := 12) rfl rfl rfl hl.1 rfl (Nat.le_of_ble_eq_true rfl) dL_law_658 ⟨Nat.le_of_ble_eq_true rfl, Nat.le_of_ble_eq_true rfl⟩ (fun r_169 u_170 H locs hw_171 hP hD hS => ?_)
      refine W.widen (k := 64) (n := 614) (by decide) (by decide) ?_
      have hw_171 : r_169 = if (0 ≤ (xs 1).toInt ∧ (xs 1).toInt ≤ 2) then (-103) else (-102) := hw_171
      subst hw_171
      have hP : va_P D classes [((u_3 0), .inr (6, [.ref (u_3 1), .int 0])), ((u_3 1), .inl (cy, 44, .inl (fun _ => 0))), ((u_3 4), .inr (2, [.ref (u_3 5), .ref (u_3 10), .ref (u_3 15), .int 0, .int 0, .int 0])), ((u_3 5), .inr (8, [.ref (u_3 6), .ref (u_3 7), .ref (u_3 8), .ref (u_3 9), .int 0])), ((u_3 10), .inr (8, [.ref (u_3 11), .ref (u_3 12), .ref (u_3 13), .ref (u_3 14), .int 0])), ((u_3 15), .inr (4, [.ref (u_3 16), .ref (u_3 17), .ref (u_3 18), .int 0])), ((u_7 0), .inl (cy, 44, .inl (fun _ => 0))), (q_1, .inr (11, [.ref (u_3 0), .ref (u_3 2), .ref (u_3 4), .ref (u_3 19), .ref (u_3 34), .ref (u_3 35), .null, .int 0, .int 0, .int 0])), (q_5, .inr (12, [.ref (u_7 0), .int 0, .int 0, .int 0, .int 0, .int 0, .int 0, .int 0, .ref (u_7 1), .ref (u_7 2), .ref (u_7 3), .ref (u_7 4), .int 0, .ref (u_7 5), .ref (u_7 6), .ref (u_7 7), .ref (u_7 8), .int 0, .int 0, .int 0, .int 0, .ref (u_7 9), .ref (u_7 10), .int 0, .ref (u_7 11), .ref (u_7 12), .int 0, .int (-1), .int 0, .int 0, .int 0, .int 0, .int 0, .int 0, .ref (u_7 13), .ref (u_7 14), .ref (u_7 15), .ref (u_7 16), .ref (u_7 17), .ref (u_7 18), .ref (u_7 19), .ref (u_7 20), .ref (u_7 21), .long 0]))] H := hP
      have hD : va_D A [((u_3 0), .inr (6, [.ref (u_3 1), .int 0])), ((u_3 1), .inl (cy, 44, .inl (fun _ => 0))), ((u_3 4), .inr (2, [.ref (u_3 5), .ref (u_3 10), .ref (u_3 15), .int 0, .int 0, .int 0])), ((u_3 5), .inr (8, [.ref (u_3 6), .ref (u_3 7), .ref (u_3 8), .ref (u_3 9), .int 0])), ((u_3 10), .inr (8, [.ref (u_3 11), .ref (u_3 12), .ref (u_3 13), .ref (u_3 14), .int 0])), ((u_3 15), .inr (4, [.ref (u_3 16), .ref (u_3 17), .ref (u_3 18), .int 0])), ((u_7 0), .inl (cy, 44, .inl (fun _ => 0))), (q_1, .inr (11, [.ref (u_3 0), .ref (u_3 2), .ref (u_3 4), .ref (u_3 19), .ref (u_3 34), .ref (u_3 35), .null, .int 0, .int 0, .int 0])), (q_5, .inr (12, [.ref (u_7 0), .int 0, .int 0, .int 0, .int 0, .int 0, .int 0, .int 0, .ref (u_7 1), .ref (u_7 2), .ref (u_7 3), .ref (u_7 4), .int 0, .ref (u_7 5), .ref (u_7 6), .ref (u_7 7), .ref (u_7 8), .int 0, .int 0, .int 0, .int 0, .ref (u_7 9), .ref (u_7 10), .int 0, .ref (u_7 11), .ref (u_7 12), .int 0, .int (-1), .int 0, .int 0, .int 0, .int 0, .int 0, .int 0, .ref (u_7 13), .ref (u_7 14), .ref (u_7 15), .ref (u_7 16), .ref (u_7 17), .ref (u_7 18), .ref (u_7 19), .ref (u_7 20), .ref (u_7 21), .long 0]))] := hD
      refine lv_icmp_eq (tgt := 828) hx hb dL_law_661 (by decide) (fun c_172 => ?_) (fun c_172 => absurd rfl c_172)
      refine lv_iinc (v := 4) (lv' := [(3, .int 4), (2, .ref q_5), (1, .ref q_1), (0, .ref b)]) hx hb dL_law_828 hl (k := 0) rfl (by decide) (by decide) rfl (fun ls hl => ?_)
      refine lv_goto (tgt := 18) hx hb dL_law_831 (by decide) ?_
      refine lv_iload_n hx hb dL_law_18 rfl (lv_at hl 0 rfl) ?_
      refine lv_aload_n hx hb dL_law_19 rfl (lv_at hl 3 rfl) ?_
      refine va_slen hx hb hX hbl hbA hS dL_law_20 ?_
      refine wk_toi (y := 4) rfl ?_
      refine lv_iconst (v := 4) hx hb dL_law_21 (by decide) ?_
      refine lv_isub hx hb dL_law_22 ?_
      refine wk_toi (show ((4 - 4) : Int32) = 0 by decide) ?_
      refine lv_icmp_gt (tgt := 834) hx hb dL_law_23 (by decide) (fun _ => ?_) (fun c_173 => absurd (by decide) c_173)
      refine lv_iconst (v := 1) hx hb dL_law_834 (by decide) ?_
      refine va_forget (fun q hq => by have h9 := hS.2.2 q hq; rw [hAe] at h9; exact h9) ?_
      refine W.widen (k := 600000) (n := 7302250) (by decide) (by decide) ?_
      exact lw_ret hx hb hr hlocks dL_law_835
    · refine wk_toi (show nI 20 = 20 from rfl) ?_
      refine lv_tableIn (off := 634) (tgt := 666) hx hb dL_law_32 (by decide) (by decide) (by decide) (by decide) ?_
      refine lv_aload_n hx hb dL_law_666 rfl (lv_at hl 2 rfl) ?_
      refine lv_aload_n hx hb dL_law_667 rfl (lv_at hl 3 rfl) ?_
      refine lv_iload_n hx hb dL_law_668 rfl (lv_at hl 0 rfl) ?_
      refine lv_iconst (v := 1) hx hb dL_law_669 (by decide) ?_
      refine lv_iadd hx hb dL_law_670 ?_
      refine wk_toi (show ((0 + 1) : Int32) = 1 by decide) ?_
      refine va_sld hx hb hX hbl hbA hS (show vp_in 1 4 by unfold vp_in; decide) dL_law_671 ?_
      refine wk_toi (y := xs 1) rfl ?_
      refine lv_aload_n hx hb dL_law_672 rfl (lv_at hl 3 rfl) ?_
      refine lv_iload_n hx hb dL_law_673 rfl (lv_at hl 0 rfl) ?_
      refine lv_iconst (v := 2) hx hb dL_law_674 (by decide) ?_
      refine lv_iadd hx hb dL_law_675 ?_
      refine wk_toi (show ((0 + 2) : Int32) = 2 by decide) ?_
      refine va_sld hx hb hX hbl hbA hS (show vp_in 2 4 by unfold vp_in; decide) dL_law_676 ?_
      refine wk_toi (y := xs 2) rfl ?_
      refine lv_aload_n hx hb dL_law_677 rfl (lv_at hl 3 rfl) ?_
      refine lv_iload_n hx hb dL_law_678 rfl (lv_at hl 0 rfl) ?_
      refine lv_iconst (v := 3) hx hb dL_law_679 (by decide) ?_
      refine lv_iadd hx hb dL_law_680 ?_
      refine wk_toi (show ((0 + 3) : Int32) = 3 by decide) ?_
      refine va_sld hx hb hX hbl hbA hS (show vp_in 3 4 by unfold vp_in; decide) dL_law_681 ?_
      refine wk_toi (y := xs 3) rfl ?_
      refine wk_iV (As := [.int (xs 1), .int (xs 2), .int (xs 3)]) (rest := []) (wc := [(q_1, .inr (11, [.ref (u_3 0), .ref (u_3 2), .ref (u_3 4), .ref (u_3 19), .ref (u_3 34), .ref (u_3 35), .null, .int 0, .int 0, .int 0])), ((u_3 4), .inr (2, [.ref (u_3 5), .ref (u_3 10), .ref (u_3 15), .int 0, .int 0, .int 0])), ((u_3 5), .inr (8, [.ref (u_3 6), .ref (u_3 7), .ref (u_3 8), .ref (u_3 9), .int 0]))]) (wr := [((u_3 0), .inr (6, [.ref (u_3 1), .int 0])), ((u_3 1), .inl (cy, 44, .inl (fun _ => 0))), ((u_3 10), .inr (8, [.ref (u_3 11), .ref (u_3 12), .ref (u_3 13), .ref (u_3 14), .int 0])), ((u_3 15), .inr (4, [.ref (u_3 16), .ref (u_3 17), .ref (u_3 18), .int 0])), (q_5, .inr (12, [.ref (u_7 0), .int 0, .int 0, .int 0, .int 0, .int 0, .int 0, .int 0, .ref (u_7 1), .ref (u_7 2), .ref (u_7 3), .ref (u_7 4), .int 0, .ref (u_7 5), .ref (u_7 6), .ref (u_7 7), .ref (u_7 8), .int 0, .int 0, .int 0, .int 0, .ref (u_7 9), .ref (u_7 10), .int 0, .ref (u_7 11), .ref (u_7 12), .int 0, .int (-1), .int 0, .int 0, .int 0, .int 0, .int 0, .int 0, .ref (u_7 13), .ref (u_7 14), .ref (u_7 15), .ref (u_7 16), .ref (u_7 17), .ref (u_7 18), .ref (u_7 19), .ref (u_7 20), .ref (u_7 21), .long 0])), ((u_7 0), .inl (cy, 44, .inl (fun _ => 0)))]) (n := 3) (R := _) ⟨hx, hb, hml, hown, htb⟩ (c_X11_see l D cy q_1 (u_3 0) (u_3 2) (u_3 4) (u_3 19) (u_3 34) (u_3 35) (u_3 5) (u_3 10) (u_3 15) (u_3 6) (u_3 7) (u_3 8) (u_3 9) (xs 1) (xs 2) (xs 3) ) tw_678 tw_675 tw_676 tw_677 tw_64 rfl rfl (by decide +kernel) ⟨Nat.le_of_ble_eq_true rfl, Nat.le_of_ble_eq_true rfl⟩ hK hP hD hS hA [0, 3, 4] [1, 2, 5, 6, 7, 8] rfl rfl rfl rfl (by decide) 0 (ci := 11) rfl rfl rfl hl.1 rfl (Nat.le_of_ble_eq_true rfl) dL_law_682 ⟨Nat.le_of_ble_eq_true rfl, Nat.le_of_ble_eq_true rfl⟩ (fun r_174 u_175 H locs hw_176 hP hD hS => ?_)
      refine W.widen (k := 64) (n := 614) (by decide) (by decide) ?_
      have hw_176 : r_174 = (-101) := hw_176
      subst hw_176
      have hP : va_P D classes [((u_3 0), .inr (6, [.ref (u_3 1), .int 0])), ((u_3 1), .inl (cy, 44, .inl (fun _ => 0))), ((u_3 10), .inr (8, [.ref (u_3 11), .ref (u_3 12), .ref (u_3 13), .ref (u_3 14), .int 0])), ((u_3 15), .inr (4, [.ref (u_3 16), .ref (u_3 17), .ref (u_3 18), .int 0])), (q_5, .inr (12, [.ref (u_7 0), .int 0, .int 0, .int 0, .int 0, .int 0, .int 0, .int 0, .ref (u_7 1), .ref (u_7 2), .ref (u_7 3), .ref (u_7 4), .int 0, .ref (u_7 5), .ref (u_7 6), .ref (u_7 7), .ref (u_7 8), .int 0, .int 0, .int 0, .int 0, .ref (u_7 9), .ref (u_7 10), .int 0, .ref (u_7 11), .ref (u_7 12), .int 0, .int (-1), .int 0, .int 0, .int 0, .int 0, .int 0, .int 0, .ref (u_7 13), .ref (u_7 14), .ref (u_7 15), .ref (u_7 16), .ref (u_7 17), .ref (u_7 18), .ref (u_7 19), .ref (u_7 20), .ref (u_7 21), .long 0])), ((u_7 0), .inl (cy, 44, .inl (fun _ => 0))), (q_1, .inr (11, [.ref (u_3 0), .ref (u_3 2), .ref (u_3 4), .ref (u_3 19), .ref (u_3 34), .ref (u_3 35), .null, .int 0, .int 0, .int 0])), ((u_3 4), .inr (2, [.ref (u_3 5), .ref (u_3 10), .ref (u_3 15), .int 0, .int 0, .int 0])), ((u_3 5), .inr (8, [.ref (u_3 6), .ref (u_3 7), .ref (u_3 8), .ref (u_3 9), .int 0]))] H := hP
      have hD : va_D A [((u_3 0), .inr (6, [.ref (u_3 1), .int 0])), ((u_3 1), .inl (cy, 44, .inl (fun _ => 0))), ((u_3 10), .inr (8, [.ref (u_3 11), .ref (u_3 12), .ref (u_3 13), .ref (u_3 14), .int 0])), ((u_3 15), .inr (4, [.ref (u_3 16), .ref (u_3 17), .ref (u_3 18), .int 0])), (q_5, .inr (12, [.ref (u_7 0), .int 0, .int 0, .int 0, .int 0, .int 0, .int 0, .int 0, .ref (u_7 1), .ref (u_7 2), .ref (u_7 3), .ref (u_7 4), .int 0, .ref (u_7 5), .ref (u_7 6), .ref (u_7 7), .ref (u_7 8), .int 0, .int 0, .int 0, .int 0, .ref (u_7 9), .ref (u_7 10), .int 0, .ref (u_7 11), .ref (u_7 12), .int 0, .int (-1), .int 0, .int 0, .int 0, .int 0, .int 0, .int 0, .ref (u_7 13), .ref (u_7 14), .ref (u_7 15), .ref (u_7 16), .ref (u_7 17), .ref (u_7 18), .ref (u_7 19), .ref (u_7 20), .ref (u_7 21), .long 0])), ((u_7 0), .inl (cy, 44, .inl (fun _ => 0))), (q_1, .inr (11, [.ref (u_3 0), .ref (u_3 2), .ref (u_3 4), .ref (u_3 19), .ref (u_3 34), .ref (u_3 35), .null, .int 0, .int 0, .int 0])), ((u_3 4), .inr (2, [.ref (u_3 5), .ref (u_3 10), .ref (u_3 15), .int 0, .int 0, .int 0])), ((u_3 5), .inr (8, [.ref (u_3 6), .ref (u_3 7), .ref (u_3 8), .ref (u_3 9), .int 0]))] := hD
      refine lv_aload_n hx hb dL_law_685 rfl (lv_at hl 1 rfl) ?_
      refine lv_aload_n hx hb dL_law_686 rfl (lv_at hl 3 rfl) ?_
      refine lv_iload_n hx hb dL_law_687 rfl (lv_at hl 0 rfl) ?_
      refine lv_iconst (v := 1) hx hb dL_law_688 (by decide) ?_
      refine lv_iadd hx hb dL_law_689 ?_
      refine wk_toi (show ((0 + 1) : Int32) = 1 by decide) ?_
      refine va_sld hx hb hX hbl hbA hS (show vp_in 1 4 by unfold vp_in; decide) dL_law_690 ?_
      refine wk_toi (y := xs 1) rfl ?_
      refine lv_aload_n hx hb dL_law_691 rfl (lv_at hl 3 rfl) ?_
      refine lv_iload_n hx hb dL_law_692 rfl (lv_at hl 0 rfl) ?_
      refine lv_iconst (v := 2) hx hb dL_law_693 (by decide) ?_
      refine lv_iadd hx hb dL_law_694 ?_
      refine wk_toi (show ((0 + 2) : Int32) = 2 by decide) ?_
      refine va_sld hx hb hX hbl hbA hS (show vp_in 2 4 by unfold vp_in; decide) dL_law_695 ?_
      refine wk_toi (y := xs 2) rfl ?_
      refine lv_aload_n hx hb dL_law_696 rfl (lv_at hl 3 rfl) ?_
      refine lv_iload_n hx hb dL_law_697 rfl (lv_at hl 0 rfl) ?_
      refine lv_iconst (v := 3) hx hb dL_law_698 (by decide) ?_
      refine lv_iadd hx hb dL_law_699 ?_
      refine wk_toi (show ((0 + 3) : Int32) = 3 by decide) ?_
      refine va_sld hx hb hX hbl hbA hS (show vp_in 3 4 by unfold vp_in; decide) dL_law_700 ?_
      refine wk_toi (y := xs 3) rfl ?_
      refine wk_iV (As := [.int (xs 1), .int (xs 2), .int (xs 3)]) (rest := [.int (-101)]) (wc := [(q_5, .inr (12, [.ref (u_7 0), .int 0, .int 0, .int 0, .int 0, .int 0, .int 0, .int 0, .ref (u_7 1), .ref (u_7 2), .ref (u_7 3), .ref (u_7 4), .int 0, .ref (u_7 5), .ref (u_7 6), .ref (u_7 7), .ref (u_7 8), .int 0, .int 0, .int 0, .int 0, .ref (u_7 9), .ref (u_7 10), .int 0, .ref (u_7 11), .ref (u_7 12), .int 0, .int (-1), .int 0, .int 0, .int 0, .int 0, .int 0, .int 0, .ref (u_7 13), .ref (u_7 14), .ref (u_7 15), .ref (u_7 16), .ref (u_7 17), .ref (u_7 18), .ref (u_7 19), .ref (u_7 20), .ref (u_7 21), .long 0]))]) (wr := [((u_3 0), .inr (6, [.ref (u_3 1), .int 0])), ((u_3 1), .inl (cy, 44, .inl (fun _ => 0))), ((u_3 10), .inr (8, [.ref (u_3 11), .ref (u_3 12), .ref (u_3 13), .ref (u_3 14), .int 0])), ((u_3 15), .inr (4, [.ref (u_3 16), .ref (u_3 17), .ref (u_3 18), .int 0])), ((u_7 0), .inl (cy, 44, .inl (fun _ => 0))), (q_1, .inr (11, [.ref (u_3 0), .ref (u_3 2), .ref (u_3 4), .ref (u_3 19), .ref (u_3 34), .ref (u_3 35), .null, .int 0, .int 0, .int 0])), ((u_3 4), .inr (2, [.ref (u_3 5), .ref (u_3 10), .ref (u_3 15), .int 0, .int 0, .int 0])), ((u_3 5), .inr (8, [.ref (u_3 6), .ref (u_3 7), .ref (u_3 8), .ref (u_3 9), .int 0]))]) (n := 3) (R := _) ⟨hx, hb, hml, hown, htb⟩ (c_X12_see l D cy q_5 (u_7 0) (u_7 1) (u_7 2) (u_7 3) (u_7 4) (u_7 5) (u_7 6) (u_7 7) (u_7 8) (u_7 9) (u_7 10) (u_7 11) (u_7 12) (u_7 13) (u_7 14) (u_7 15) (u_7 16) (u_7 17) (u_7 18) (u_7 19) (u_7 20) (u_7 21) (xs 1) (xs 2) (xs 3) 0) tw_1157 tw_1154 tw_1155 tw_1156 tw_71 rfl rfl (by decide +kernel) ⟨Nat.le_of_ble_eq_true rfl, Nat.le_of_ble_eq_true rfl⟩ hK hP hD hS hA [4] [0, 1, 2, 3, 5, 6, 7, 8] rfl rfl rfl rfl (by decide) 0 (ci := 12) rfl rfl rfl hl.1 rfl (Nat.le_of_ble_eq_true rfl) dL_law_701 ⟨Nat.le_of_ble_eq_true rfl, Nat.le_of_ble_eq_true rfl⟩ (fun r_177 u_178 H locs hw_179 hP hD hS => ?_)
      refine W.widen (k := 64) (n := 614) (by decide) (by decide) ?_
      have hw_179 : r_177 = (-101) := hw_179
      subst hw_179
      have hP : va_P D classes [((u_3 0), .inr (6, [.ref (u_3 1), .int 0])), ((u_3 1), .inl (cy, 44, .inl (fun _ => 0))), ((u_3 10), .inr (8, [.ref (u_3 11), .ref (u_3 12), .ref (u_3 13), .ref (u_3 14), .int 0])), ((u_3 15), .inr (4, [.ref (u_3 16), .ref (u_3 17), .ref (u_3 18), .int 0])), ((u_7 0), .inl (cy, 44, .inl (fun _ => 0))), (q_1, .inr (11, [.ref (u_3 0), .ref (u_3 2), .ref (u_3 4), .ref (u_3 19), .ref (u_3 34), .ref (u_3 35), .null, .int 0, .int 0, .int 0])), ((u_3 4), .inr (2, [.ref (u_3 5), .ref (u_3 10), .ref (u_3 15), .int 0, .int 0, .int 0])), ((u_3 5), .inr (8, [.ref (u_3 6), .ref (u_3 7), .ref (u_3 8), .ref (u_3 9), .int 0])), (q_5, .inr (12, [.ref (u_7 0), .int 0, .int 0, .int 0, .int 0, .int 0, .int 0, .int 0, .ref (u_7 1), .ref (u_7 2), .ref (u_7 3), .ref (u_7 4), .int 0, .ref (u_7 5), .ref (u_7 6), .ref (u_7 7), .ref (u_7 8), .int 0, .int 0, .int 0, .int 0, .ref (u_7 9), .ref (u_7 10), .int 0, .ref (u_7 11), .ref (u_7 12), .int 0, .int (-1), .int 0, .int 0, .int 0, .int 0, .int 0, .int 0, .ref (u_7 13), .ref (u_7 14), .ref (u_7 15), .ref (u_7 16), .ref (u_7 17), .ref (u_7 18), .ref (u_7 19), .ref (u_7 20), .ref (u_7 21), .long 0]))] H := hP
      have hD : va_D A [((u_3 0), .inr (6, [.ref (u_3 1), .int 0])), ((u_3 1), .inl (cy, 44, .inl (fun _ => 0))), ((u_3 10), .inr (8, [.ref (u_3 11), .ref (u_3 12), .ref (u_3 13), .ref (u_3 14), .int 0])), ((u_3 15), .inr (4, [.ref (u_3 16), .ref (u_3 17), .ref (u_3 18), .int 0])), ((u_7 0), .inl (cy, 44, .inl (fun _ => 0))), (q_1, .inr (11, [.ref (u_3 0), .ref (u_3 2), .ref (u_3 4), .ref (u_3 19), .ref (u_3 34), .ref (u_3 35), .null, .int 0, .int 0, .int 0])), ((u_3 4), .inr (2, [.ref (u_3 5), .ref (u_3 10), .ref (u_3 15), .int 0, .int 0, .int 0])), ((u_3 5), .inr (8, [.ref (u_3 6), .ref (u_3 7), .ref (u_3 8), .ref (u_3 9), .int 0])), (q_5, .inr (12, [.ref (u_7 0), .int 0, .int 0, .int 0, .int 0, .int 0, .int 0, .int 0, .ref (u_7 1), .ref (u_7 2), .ref (u_7 3), .ref (u_7 4), .int 0, .ref (u_7 5), .ref (u_7 6), .ref (u_7 7), .ref (u_7 8), .int 0, .int 0, .int 0, .int 0, .ref (u_7 9), .ref (u_7 10), .int 0, .ref (u_7 11), .ref (u_7 12), .int 0, .int (-1), .int 0, .int 0, .int 0, .int 0, .int 0, .int 0, .ref (u_7 13), .ref (u_7 14), .ref (u_7 15), .ref (u_7 16), .ref (u_7 17), .ref (u_7 18), .ref (u_7 19), .ref (u_7 20), .ref (u_7 21), .long 0]))] := hD
      refine lv_icmp_eq (tgt := 828) hx hb dL_law_704 (by decide) (fun c_180 => ?_) (fun c_180 => absurd rfl c_180)
      refine lv_iinc (v := 4) (lv' := [(3, .int 4), (2, .ref q_5), (1, .ref q_1), (0, .ref b)]) hx hb dL_law_828 hl (k := 0) rfl (by decide) (by decide) rfl (fun ls hl => ?_)
      refine lv_goto (tgt := 18) hx hb dL_law_831 (by decide) ?_
      refine lv_iload_n hx hb dL_law_18 rfl (lv_at hl 0 rfl) ?_
      refine lv_aload_n hx hb dL_law_19 rfl (lv_at hl 3 rfl) ?_
      refine va_slen hx hb hX hbl hbA hS dL_law_20 ?_
      refine wk_toi (y := 4) rfl ?_
      refine lv_iconst (v := 4) hx hb dL_law_21 (by decide) ?_
      refine lv_isub hx hb dL_law_22 ?_
      refine wk_toi (show ((4 - 4) : Int32) = 0 by decide) ?_
      refine lv_icmp_gt (tgt := 834) hx hb dL_law_23 (by decide) (fun _ => ?_) (fun c_181 => absurd (by decide) c_181)
      refine lv_iconst (v := 1) hx hb dL_law_834 (by decide) ?_
      refine va_forget (fun q hq => by have h9 := hS.2.2 q hq; rw [hAe] at h9; exact h9) ?_
      refine W.widen (k := 600000) (n := 7302250) (by decide) (by decide) ?_
      exact lw_ret hx hb hr hlocks dL_law_835
    · refine wk_toi (show nI 21 = 21 from rfl) ?_
      refine lv_tableIn (off := 677) (tgt := 709) hx hb dL_law_32 (by decide) (by decide) (by decide) (by decide) ?_
      refine lv_aload_n hx hb dL_law_709 rfl (lv_at hl 2 rfl) ?_
      refine wk_iV (As := []) (rest := []) (wc := [(q_1, .inr (11, [.ref (u_3 0), .ref (u_3 2), .ref (u_3 4), .ref (u_3 19), .ref (u_3 34), .ref (u_3 35), .null, .int 0, .int 0, .int 0])), ((u_3 4), .inr (2, [.ref (u_3 5), .ref (u_3 10), .ref (u_3 15), .int 0, .int 0, .int 0])), ((u_3 15), .inr (4, [.ref (u_3 16), .ref (u_3 17), .ref (u_3 18), .int 0]))]) (wr := [((u_3 0), .inr (6, [.ref (u_3 1), .int 0])), ((u_3 1), .inl (cy, 44, .inl (fun _ => 0))), ((u_3 5), .inr (8, [.ref (u_3 6), .ref (u_3 7), .ref (u_3 8), .ref (u_3 9), .int 0])), ((u_3 10), .inr (8, [.ref (u_3 11), .ref (u_3 12), .ref (u_3 13), .ref (u_3 14), .int 0])), (q_5, .inr (12, [.ref (u_7 0), .int 0, .int 0, .int 0, .int 0, .int 0, .int 0, .int 0, .ref (u_7 1), .ref (u_7 2), .ref (u_7 3), .ref (u_7 4), .int 0, .ref (u_7 5), .ref (u_7 6), .ref (u_7 7), .ref (u_7 8), .int 0, .int 0, .int 0, .int 0, .ref (u_7 9), .ref (u_7 10), .int 0, .ref (u_7 11), .ref (u_7 12), .int 0, .int (-1), .int 0, .int 0, .int 0, .int 0, .int 0, .int 0, .ref (u_7 13), .ref (u_7 14), .ref (u_7 15), .ref (u_7 16), .ref (u_7 17), .ref (u_7 18), .ref (u_7 19), .ref (u_7 20), .ref (u_7 21), .long 0])), ((u_7 0), .inl (cy, 44, .inl (fun _ => 0)))]) (n := 0) (R := _) ⟨hx, hb, hml, hown, htb⟩ (c_X11_forget l D cy q_1 (u_3 0) (u_3 2) (u_3 4) (u_3 19) (u_3 34) (u_3 35) (u_3 5) (u_3 10) (u_3 15) (u_3 16) (u_3 17) (u_3 18)  ) tw_686 tw_683 tw_684 tw_685 tw_64 rfl rfl (by decide +kernel) ⟨Nat.le_of_ble_eq_true rfl, Nat.le_of_ble_eq_true rfl⟩ hK hP hD hS hA [0, 3, 6] [1, 2, 4, 5, 7, 8] rfl rfl rfl rfl (by decide) 0 (ci := 11) rfl rfl rfl hl.1 rfl (Nat.le_of_ble_eq_true rfl) dL_law_710 ⟨Nat.le_of_ble_eq_true rfl, Nat.le_of_ble_eq_true rfl⟩ (fun r_182 u_183 H locs hw_184 hP hD hS => ?_)
      refine W.widen (k := 64) (n := 614) (by decide) (by decide) ?_
      have hw_184 : r_182 = 0 := hw_184
      subst hw_184
      have hP : va_P D classes [((u_3 0), .inr (6, [.ref (u_3 1), .int 0])), ((u_3 1), .inl (cy, 44, .inl (fun _ => 0))), ((u_3 5), .inr (8, [.ref (u_3 6), .ref (u_3 7), .ref (u_3 8), .ref (u_3 9), .int 0])), ((u_3 10), .inr (8, [.ref (u_3 11), .ref (u_3 12), .ref (u_3 13), .ref (u_3 14), .int 0])), (q_5, .inr (12, [.ref (u_7 0), .int 0, .int 0, .int 0, .int 0, .int 0, .int 0, .int 0, .ref (u_7 1), .ref (u_7 2), .ref (u_7 3), .ref (u_7 4), .int 0, .ref (u_7 5), .ref (u_7 6), .ref (u_7 7), .ref (u_7 8), .int 0, .int 0, .int 0, .int 0, .ref (u_7 9), .ref (u_7 10), .int 0, .ref (u_7 11), .ref (u_7 12), .int 0, .int (-1), .int 0, .int 0, .int 0, .int 0, .int 0, .int 0, .ref (u_7 13), .ref (u_7 14), .ref (u_7 15), .ref (u_7 16), .ref (u_7 17), .ref (u_7 18), .ref (u_7 19), .ref (u_7 20), .ref (u_7 21), .long 0])), ((u_7 0), .inl (cy, 44, .inl (fun _ => 0)))] H := hP
      have hD : va_D A [((u_3 0), .inr (6, [.ref (u_3 1), .int 0])), ((u_3 1), .inl (cy, 44, .inl (fun _ => 0))), ((u_3 5), .inr (8, [.ref (u_3 6), .ref (u_3 7), .ref (u_3 8), .ref (u_3 9), .int 0])), ((u_3 10), .inr (8, [.ref (u_3 11), .ref (u_3 12), .ref (u_3 13), .ref (u_3 14), .int 0])), (q_5, .inr (12, [.ref (u_7 0), .int 0, .int 0, .int 0, .int 0, .int 0, .int 0, .int 0, .ref (u_7 1), .ref (u_7 2), .ref (u_7 3), .ref (u_7 4), .int 0, .ref (u_7 5), .ref (u_7 6), .ref (u_7 7), .ref (u_7 8), .int 0, .int 0, .int 0, .int 0, .ref (u_7 9), .ref (u_7 10), .int 0, .ref (u_7 11), .ref (u_7 12), .int 0, .int (-1), .int 0, .int 0, .int 0, .int 0, .int 0, .int 0, .ref (u_7 13), .ref (u_7 14), .ref (u_7 15), .ref (u_7 16), .ref (u_7 17), .ref (u_7 18), .ref (u_7 19), .ref (u_7 20), .ref (u_7 21), .long 0])), ((u_7 0), .inl (cy, 44, .inl (fun _ => 0)))] := hD
      refine lv_aload_n hx hb dL_law_713 rfl (lv_at hl 1 rfl) ?_
      refine wk_iV (As := []) (rest := [.int 0]) (wc := [(q_5, .inr (12, [.ref (u_7 0), .int 0, .int 0, .int 0, .int 0, .int 0, .int 0, .int 0, .ref (u_7 1), .ref (u_7 2), .ref (u_7 3), .ref (u_7 4), .int 0, .ref (u_7 5), .ref (u_7 6), .ref (u_7 7), .ref (u_7 8), .int 0, .int 0, .int 0, .int 0, .ref (u_7 9), .ref (u_7 10), .int 0, .ref (u_7 11), .ref (u_7 12), .int 0, .int (-1), .int 0, .int 0, .int 0, .int 0, .int 0, .int 0, .ref (u_7 13), .ref (u_7 14), .ref (u_7 15), .ref (u_7 16), .ref (u_7 17), .ref (u_7 18), .ref (u_7 19), .ref (u_7 20), .ref (u_7 21), .long 0]))]) (wr := [((u_3 0), .inr (6, [.ref (u_3 1), .int 0])), ((u_3 1), .inl (cy, 44, .inl (fun _ => 0))), ((u_3 5), .inr (8, [.ref (u_3 6), .ref (u_3 7), .ref (u_3 8), .ref (u_3 9), .int 0])), ((u_3 10), .inr (8, [.ref (u_3 11), .ref (u_3 12), .ref (u_3 13), .ref (u_3 14), .int 0])), ((u_7 0), .inl (cy, 44, .inl (fun _ => 0)))]) (n := 0) (R := _) ⟨hx, hb, hml, hown, htb⟩ (c_X12_forget l D cy q_5 (u_7 0) (u_7 1) (u_7 2) (u_7 3) (u_7 4) (u_7 5) (u_7 6) (u_7 7) (u_7 8) (u_7 9) (u_7 10) (u_7 11) (u_7 12) (u_7 13) (u_7 14) (u_7 15) (u_7 16) (u_7 17) (u_7 18) (u_7 19) (u_7 20) (u_7 21)  0) tw_1161 tw_1158 tw_1159 tw_1160 tw_71 rfl rfl (by decide +kernel) ⟨Nat.le_of_ble_eq_true rfl, Nat.le_of_ble_eq_true rfl⟩ hK hP hD hS hA [4] [0, 1, 2, 3, 5] rfl rfl rfl rfl (by decide) 0 (ci := 12) rfl rfl rfl hl.1 rfl (Nat.le_of_ble_eq_true rfl) dL_law_714 ⟨Nat.le_of_ble_eq_true rfl, Nat.le_of_ble_eq_true rfl⟩ (fun r_185 u_186 H locs hw_187 hP hD hS => ?_)
      refine W.widen (k := 64) (n := 614) (by decide) (by decide) ?_
      have hw_187 : r_185 = 0 := hw_187
      subst hw_187
      have hP : va_P D classes [((u_3 0), .inr (6, [.ref (u_3 1), .int 0])), ((u_3 1), .inl (cy, 44, .inl (fun _ => 0))), ((u_3 5), .inr (8, [.ref (u_3 6), .ref (u_3 7), .ref (u_3 8), .ref (u_3 9), .int 0])), ((u_3 10), .inr (8, [.ref (u_3 11), .ref (u_3 12), .ref (u_3 13), .ref (u_3 14), .int 0])), ((u_7 0), .inl (cy, 44, .inl (fun _ => 0)))] H := hP
      have hD : va_D A [((u_3 0), .inr (6, [.ref (u_3 1), .int 0])), ((u_3 1), .inl (cy, 44, .inl (fun _ => 0))), ((u_3 5), .inr (8, [.ref (u_3 6), .ref (u_3 7), .ref (u_3 8), .ref (u_3 9), .int 0])), ((u_3 10), .inr (8, [.ref (u_3 11), .ref (u_3 12), .ref (u_3 13), .ref (u_3 14), .int 0])), ((u_7 0), .inl (cy, 44, .inl (fun _ => 0)))] := hD
      refine lv_icmp_eq (tgt := 828) hx hb dL_law_717 (by decide) (fun c_188 => ?_) (fun c_188 => absurd rfl c_188)
      refine lv_iinc (v := 4) (lv' := [(3, .int 4), (2, .ref q_5), (1, .ref q_1), (0, .ref b)]) hx hb dL_law_828 hl (k := 0) rfl (by decide) (by decide) rfl (fun ls hl => ?_)
      refine lv_goto (tgt := 18) hx hb dL_law_831 (by decide) ?_
      refine lv_iload_n hx hb dL_law_18 rfl (lv_at hl 0 rfl) ?_
      refine lv_aload_n hx hb dL_law_19 rfl (lv_at hl 3 rfl) ?_
      refine va_slen hx hb hX hbl hbA hS dL_law_20 ?_
      refine wk_toi (y := 4) rfl ?_
      refine lv_iconst (v := 4) hx hb dL_law_21 (by decide) ?_
      refine lv_isub hx hb dL_law_22 ?_
      refine wk_toi (show ((4 - 4) : Int32) = 0 by decide) ?_
      refine lv_icmp_gt (tgt := 834) hx hb dL_law_23 (by decide) (fun _ => ?_) (fun c_189 => absurd (by decide) c_189)
      refine lv_iconst (v := 1) hx hb dL_law_834 (by decide) ?_
      refine va_forget (fun q hq => by have h9 := hS.2.2 q hq; rw [hAe] at h9; exact h9) ?_
      refine W.widen (k := 600000) (n := 7302250) (by decide) (by decide) ?_
      exact lw_ret hx hb hr hlocks dL_law_835
    · refine wk_toi (show nI 22 = 22 from rfl) ?_
      refine lv_tableIn (off := 690) (tgt := 722) hx hb dL_law_32 (by decide) (by decide) (by decide) (by decide) ?_
      refine lv_aload_n hx hb dL_law_722 rfl (lv_at hl 2 rfl) ?_
      refine lv_aload_n hx hb dL_law_723 rfl (lv_at hl 3 rfl) ?_
      refine lv_iload_n hx hb dL_law_724 rfl (lv_at hl 0 rfl) ?_
      refine lv_iconst (v := 1) hx hb dL_law_725 (by decide) ?_
      refine lv_iadd hx hb dL_law_726 ?_
      refine wk_toi (show ((0 + 1) : Int32) = 1 by decide) ?_
      refine va_sld hx hb hX hbl hbA hS (show vp_in 1 4 by unfold vp_in; decide) dL_law_727 ?_
      refine wk_toi (y := xs 1) rfl ?_
      refine lv_aload_n hx hb dL_law_728 rfl (lv_at hl 3 rfl) ?_
      refine lv_iload_n hx hb dL_law_729 rfl (lv_at hl 0 rfl) ?_
      refine lv_iconst (v := 2) hx hb dL_law_730 (by decide) ?_
      refine lv_iadd hx hb dL_law_731 ?_
      refine wk_toi (show ((0 + 2) : Int32) = 2 by decide) ?_
      refine va_sld hx hb hX hbl hbA hS (show vp_in 2 4 by unfold vp_in; decide) dL_law_732 ?_
      refine wk_toi (y := xs 2) rfl ?_
      refine lv_aload_n hx hb dL_law_733 rfl (lv_at hl 3 rfl) ?_
      refine lv_iload_n hx hb dL_law_734 rfl (lv_at hl 0 rfl) ?_
      refine lv_iconst (v := 3) hx hb dL_law_735 (by decide) ?_
      refine lv_iadd hx hb dL_law_736 ?_
      refine wk_toi (show ((0 + 3) : Int32) = 3 by decide) ?_
      refine va_sld hx hb hX hbl hbA hS (show vp_in 3 4 by unfold vp_in; decide) dL_law_737 ?_
      refine wk_toi (y := xs 3) rfl ?_
      refine wk_iV (As := [.int (xs 1), .int (xs 2), .int (xs 3)]) (rest := []) (wc := [(q_1, .inr (11, [.ref (u_3 0), .ref (u_3 2), .ref (u_3 4), .ref (u_3 19), .ref (u_3 34), .ref (u_3 35), .null, .int 0, .int 0, .int 0]))]) (wr := [((u_3 0), .inr (6, [.ref (u_3 1), .int 0])), ((u_3 1), .inl (cy, 44, .inl (fun _ => 0))), ((u_3 4), .inr (2, [.ref (u_3 5), .ref (u_3 10), .ref (u_3 15), .int 0, .int 0, .int 0])), ((u_3 5), .inr (8, [.ref (u_3 6), .ref (u_3 7), .ref (u_3 8), .ref (u_3 9), .int 0])), ((u_3 10), .inr (8, [.ref (u_3 11), .ref (u_3 12), .ref (u_3 13), .ref (u_3 14), .int 0])), ((u_3 15), .inr (4, [.ref (u_3 16), .ref (u_3 17), .ref (u_3 18), .int 0])), (q_5, .inr (12, [.ref (u_7 0), .int 0, .int 0, .int 0, .int 0, .int 0, .int 0, .int 0, .ref (u_7 1), .ref (u_7 2), .ref (u_7 3), .ref (u_7 4), .int 0, .ref (u_7 5), .ref (u_7 6), .ref (u_7 7), .ref (u_7 8), .int 0, .int 0, .int 0, .int 0, .ref (u_7 9), .ref (u_7 10), .int 0, .ref (u_7 11), .ref (u_7 12), .int 0, .int (-1), .int 0, .int 0, .int 0, .int 0, .int 0, .int 0, .ref (u_7 13), .ref (u_7 14), .ref (u_7 15), .ref (u_7 16), .ref (u_7 17), .ref (u_7 18), .ref (u_7 19), .ref (u_7 20), .ref (u_7 21), .long 0])), ((u_7 0), .inl (cy, 44, .inl (fun _ => 0)))]) (n := 3) (R := _) ⟨hx, hb, hml, hown, htb⟩ (c_X11_rounds l D cy q_1 (u_3 0) (u_3 2) (u_3 4) (u_3 19) (u_3 34) (u_3 35) (xs 1) (xs 2) (xs 3) ) tw_691 tw_688 tw_689 tw_690 tw_64 rfl rfl (by decide +kernel) ⟨Nat.le_of_ble_eq_true rfl, Nat.le_of_ble_eq_true rfl⟩ hK hP hD hS hA [0] [1, 2, 3, 4, 5, 6, 7, 8] rfl rfl rfl rfl (by decide) 0 (ci := 11) rfl rfl rfl hl.1 rfl (Nat.le_of_ble_eq_true rfl) dL_law_738 ⟨Nat.le_of_ble_eq_true rfl, Nat.le_of_ble_eq_true rfl⟩ (fun r_190 u_191 H locs hw_192 hP hD hS => ?_)
      refine W.widen (k := 64) (n := 614) (by decide) (by decide) ?_
      have hw_192 : r_190 = if (1 ≤ (xs 1).toInt ∧ (xs 1).toInt ≤ 60) ∧ 0 ≤ (xs 2).toInt ∧ (0 ≤ (xs 3).toInt ∧ (xs 3).toInt ≤ 2) then (-103) else (-102) := hw_192
      subst hw_192
      have hP : va_P D classes [((u_3 0), .inr (6, [.ref (u_3 1), .int 0])), ((u_3 1), .inl (cy, 44, .inl (fun _ => 0))), ((u_3 4), .inr (2, [.ref (u_3 5), .ref (u_3 10), .ref (u_3 15), .int 0, .int 0, .int 0])), ((u_3 5), .inr (8, [.ref (u_3 6), .ref (u_3 7), .ref (u_3 8), .ref (u_3 9), .int 0])), ((u_3 10), .inr (8, [.ref (u_3 11), .ref (u_3 12), .ref (u_3 13), .ref (u_3 14), .int 0])), ((u_3 15), .inr (4, [.ref (u_3 16), .ref (u_3 17), .ref (u_3 18), .int 0])), (q_5, .inr (12, [.ref (u_7 0), .int 0, .int 0, .int 0, .int 0, .int 0, .int 0, .int 0, .ref (u_7 1), .ref (u_7 2), .ref (u_7 3), .ref (u_7 4), .int 0, .ref (u_7 5), .ref (u_7 6), .ref (u_7 7), .ref (u_7 8), .int 0, .int 0, .int 0, .int 0, .ref (u_7 9), .ref (u_7 10), .int 0, .ref (u_7 11), .ref (u_7 12), .int 0, .int (-1), .int 0, .int 0, .int 0, .int 0, .int 0, .int 0, .ref (u_7 13), .ref (u_7 14), .ref (u_7 15), .ref (u_7 16), .ref (u_7 17), .ref (u_7 18), .ref (u_7 19), .ref (u_7 20), .ref (u_7 21), .long 0])), ((u_7 0), .inl (cy, 44, .inl (fun _ => 0))), (q_1, .inr (11, [.ref (u_3 0), .ref (u_3 2), .ref (u_3 4), .ref (u_3 19), .ref (u_3 34), .ref (u_3 35), .null, .int 0, .int 0, .int 0]))] H := hP
      have hD : va_D A [((u_3 0), .inr (6, [.ref (u_3 1), .int 0])), ((u_3 1), .inl (cy, 44, .inl (fun _ => 0))), ((u_3 4), .inr (2, [.ref (u_3 5), .ref (u_3 10), .ref (u_3 15), .int 0, .int 0, .int 0])), ((u_3 5), .inr (8, [.ref (u_3 6), .ref (u_3 7), .ref (u_3 8), .ref (u_3 9), .int 0])), ((u_3 10), .inr (8, [.ref (u_3 11), .ref (u_3 12), .ref (u_3 13), .ref (u_3 14), .int 0])), ((u_3 15), .inr (4, [.ref (u_3 16), .ref (u_3 17), .ref (u_3 18), .int 0])), (q_5, .inr (12, [.ref (u_7 0), .int 0, .int 0, .int 0, .int 0, .int 0, .int 0, .int 0, .ref (u_7 1), .ref (u_7 2), .ref (u_7 3), .ref (u_7 4), .int 0, .ref (u_7 5), .ref (u_7 6), .ref (u_7 7), .ref (u_7 8), .int 0, .int 0, .int 0, .int 0, .ref (u_7 9), .ref (u_7 10), .int 0, .ref (u_7 11), .ref (u_7 12), .int 0, .int (-1), .int 0, .int 0, .int 0, .int 0, .int 0, .int 0, .ref (u_7 13), .ref (u_7 14), .ref (u_7 15), .ref (u_7 16), .ref (u_7 17), .ref (u_7 18), .ref (u_7 19), .ref (u_7 20), .ref (u_7 21), .long 0])), ((u_7 0), .inl (cy, 44, .inl (fun _ => 0))), (q_1, .inr (11, [.ref (u_3 0), .ref (u_3 2), .ref (u_3 4), .ref (u_3 19), .ref (u_3 34), .ref (u_3 35), .null, .int 0, .int 0, .int 0]))] := hD
      refine lv_aload_n hx hb dL_law_741 rfl (lv_at hl 1 rfl) ?_
      refine lv_aload_n hx hb dL_law_742 rfl (lv_at hl 3 rfl) ?_
      refine lv_iload_n hx hb dL_law_743 rfl (lv_at hl 0 rfl) ?_
      refine lv_iconst (v := 1) hx hb dL_law_744 (by decide) ?_
      refine lv_iadd hx hb dL_law_745 ?_
      refine wk_toi (show ((0 + 1) : Int32) = 1 by decide) ?_
      refine va_sld hx hb hX hbl hbA hS (show vp_in 1 4 by unfold vp_in; decide) dL_law_746 ?_
      refine wk_toi (y := xs 1) rfl ?_
      refine lv_aload_n hx hb dL_law_747 rfl (lv_at hl 3 rfl) ?_
      refine lv_iload_n hx hb dL_law_748 rfl (lv_at hl 0 rfl) ?_
      refine lv_iconst (v := 2) hx hb dL_law_749 (by decide) ?_
      refine lv_iadd hx hb dL_law_750 ?_
      refine wk_toi (show ((0 + 2) : Int32) = 2 by decide) ?_
      refine va_sld hx hb hX hbl hbA hS (show vp_in 2 4 by unfold vp_in; decide) dL_law_751 ?_
      refine wk_toi (y := xs 2) rfl ?_
      refine lv_aload_n hx hb dL_law_752 rfl (lv_at hl 3 rfl) ?_
      refine lv_iload_n hx hb dL_law_753 rfl (lv_at hl 0 rfl) ?_
      refine lv_iconst (v := 3) hx hb dL_law_754 (by decide) ?_
      refine lv_iadd hx hb dL_law_755 ?_
      refine wk_toi (show ((0 + 3) : Int32) = 3 by decide) ?_
      refine va_sld hx hb hX hbl hbA hS (show vp_in 3 4 by unfold vp_in; decide) dL_law_756 ?_
      refine wk_toi (y := xs 3) rfl ?_
      refine wk_iV (As := [.int (xs 1), .int (xs 2), .int (xs 3)]) (rest := [.int (if (1 ≤ (xs 1).toInt ∧ (xs 1).toInt ≤ 60) ∧ 0 ≤ (xs 2).toInt ∧ (0 ≤ (xs 3).toInt ∧ (xs 3).toInt ≤ 2) then (-103) else (-102))]) (wc := [(q_5, .inr (12, [.ref (u_7 0), .int 0, .int 0, .int 0, .int 0, .int 0, .int 0, .int 0, .ref (u_7 1), .ref (u_7 2), .ref (u_7 3), .ref (u_7 4), .int 0, .ref (u_7 5), .ref (u_7 6), .ref (u_7 7), .ref (u_7 8), .int 0, .int 0, .int 0, .int 0, .ref (u_7 9), .ref (u_7 10), .int 0, .ref (u_7 11), .ref (u_7 12), .int 0, .int (-1), .int 0, .int 0, .int 0, .int 0, .int 0, .int 0, .ref (u_7 13), .ref (u_7 14), .ref (u_7 15), .ref (u_7 16), .ref (u_7 17), .ref (u_7 18), .ref (u_7 19), .ref (u_7 20), .ref (u_7 21), .long 0]))]) (wr := [((u_3 0), .inr (6, [.ref (u_3 1), .int 0])), ((u_3 1), .inl (cy, 44, .inl (fun _ => 0))), ((u_3 4), .inr (2, [.ref (u_3 5), .ref (u_3 10), .ref (u_3 15), .int 0, .int 0, .int 0])), ((u_3 5), .inr (8, [.ref (u_3 6), .ref (u_3 7), .ref (u_3 8), .ref (u_3 9), .int 0])), ((u_3 10), .inr (8, [.ref (u_3 11), .ref (u_3 12), .ref (u_3 13), .ref (u_3 14), .int 0])), ((u_3 15), .inr (4, [.ref (u_3 16), .ref (u_3 17), .ref (u_3 18), .int 0])), ((u_7 0), .inl (cy, 44, .inl (fun _ => 0))), (q_1, .inr (11, [.ref (u_3 0), .ref (u_3 2), .ref (u_3 4), .ref (u_3 19), .ref (u_3 34), .ref (u_3 35), .null, .int 0, .int 0, .int 0]))]) (n := 3) (R := _) ⟨hx, hb, hml, hown, htb⟩ (c_X12_rounds l D cy q_5 (u_7 0) (u_7 1) (u_7 2) (u_7 3) (u_7 4) (u_7 5) (u_7 6) (u_7 7) (u_7 8) (u_7 9) (u_7 10) (u_7 11) (u_7 12) (u_7 13) (u_7 14) (u_7 15) (u_7 16) (u_7 17) (u_7 18) (u_7 19) (u_7 20) (u_7 21) (xs 1) (xs 2) (xs 3) 0) tw_1165 tw_1162 tw_1163 tw_1164 tw_71 rfl rfl (by decide +kernel) ⟨Nat.le_of_ble_eq_true rfl, Nat.le_of_ble_eq_true rfl⟩ hK hP hD hS hA [6] [0, 1, 2, 3, 4, 5, 7, 8] rfl rfl rfl rfl (by decide) 0 (ci := 12) rfl rfl rfl hl.1 rfl (Nat.le_of_ble_eq_true rfl) dL_law_757 ⟨Nat.le_of_ble_eq_true rfl, Nat.le_of_ble_eq_true rfl⟩ (fun r_193 u_194 H locs hw_195 hP hD hS => ?_)
      refine W.widen (k := 64) (n := 614) (by decide) (by decide) ?_
      have hw_195 : r_193 = if (1 ≤ (xs 1).toInt ∧ (xs 1).toInt ≤ 60) ∧ 0 ≤ (xs 2).toInt ∧ (0 ≤ (xs 3).toInt ∧ (xs 3).toInt ≤ 2) then (-103) else (-102) := hw_195
      subst hw_195
      have hP : va_P D classes [((u_3 0), .inr (6, [.ref (u_3 1), .int 0])), ((u_3 1), .inl (cy, 44, .inl (fun _ => 0))), ((u_3 4), .inr (2, [.ref (u_3 5), .ref (u_3 10), .ref (u_3 15), .int 0, .int 0, .int 0])), ((u_3 5), .inr (8, [.ref (u_3 6), .ref (u_3 7), .ref (u_3 8), .ref (u_3 9), .int 0])), ((u_3 10), .inr (8, [.ref (u_3 11), .ref (u_3 12), .ref (u_3 13), .ref (u_3 14), .int 0])), ((u_3 15), .inr (4, [.ref (u_3 16), .ref (u_3 17), .ref (u_3 18), .int 0])), ((u_7 0), .inl (cy, 44, .inl (fun _ => 0))), (q_1, .inr (11, [.ref (u_3 0), .ref (u_3 2), .ref (u_3 4), .ref (u_3 19), .ref (u_3 34), .ref (u_3 35), .null, .int 0, .int 0, .int 0])), (q_5, .inr (12, [.ref (u_7 0), .int 0, .int 0, .int 0, .int 0, .int 0, .int 0, .int 0, .ref (u_7 1), .ref (u_7 2), .ref (u_7 3), .ref (u_7 4), .int 0, .ref (u_7 5), .ref (u_7 6), .ref (u_7 7), .ref (u_7 8), .int 0, .int 0, .int 0, .int 0, .ref (u_7 9), .ref (u_7 10), .int 0, .ref (u_7 11), .ref (u_7 12), .int 0, .int (-1), .int 0, .int 0, .int 0, .int 0, .int 0, .int 0, .ref (u_7 13), .ref (u_7 14), .ref (u_7 15), .ref (u_7 16), .ref (u_7 17), .ref (u_7 18), .ref (u_7 19), .ref (u_7 20), .ref (u_7 21), .long 0]))] H := hP
      have hD : va_D A [((u_3 0), .inr (6, [.ref (u_3 1), .int 0])), ((u_3 1), .inl (cy, 44, .inl (fun _ => 0))), ((u_3 4), .inr (2, [.ref (u_3 5), .ref (u_3 10), .ref (u_3 15), .int 0, .int 0, .int 0])), ((u_3 5), .inr (8, [.ref (u_3 6), .ref (u_3 7), .ref (u_3 8), .ref (u_3 9), .int 0])), ((u_3 10), .inr (8, [.ref (u_3 11), .ref (u_3 12), .ref (u_3 13), .ref (u_3 14), .int 0])), ((u_3 15), .inr (4, [.ref (u_3 16), .ref (u_3 17), .ref (u_3 18), .int 0])), ((u_7 0), .inl (cy, 44, .inl (fun _ => 0))), (q_1, .inr (11, [.ref (u_3 0), .ref (u_3 2), .ref (u_3 4), .ref (u_3 19), .ref (u_3 34), .ref (u_3 35), .null, .int 0, .int 0, .int 0])), (q_5, .inr (12, [.ref (u_7 0), .int 0, .int 0, .int 0, .int 0, .int 0, .int 0, .int 0, .ref (u_7 1), .ref (u_7 2), .ref (u_7 3), .ref (u_7 4), .int 0, .ref (u_7 5), .ref (u_7 6), .ref (u_7 7), .ref (u_7 8), .int 0, .int 0, .int 0, .int 0, .ref (u_7 9), .ref (u_7 10), .int 0, .ref (u_7 11), .ref (u_7 12), .int 0, .int (-1), .int 0, .int 0, .int 0, .int 0, .int 0, .int 0, .ref (u_7 13), .ref (u_7 14), .ref (u_7 15), .ref (u_7 16), .ref (u_7 17), .ref (u_7 18), .ref (u_7 19), .ref (u_7 20), .ref (u_7 21), .long 0]))] := hD
      refine lv_icmp_eq (tgt := 828) hx hb dL_law_760 (by decide) (fun c_196 => ?_) (fun c_196 => absurd rfl c_196)
      refine lv_iinc (v := 4) (lv' := [(3, .int 4), (2, .ref q_5), (1, .ref q_1), (0, .ref b)]) hx hb dL_law_828 hl (k := 0) rfl (by decide) (by decide) rfl (fun ls hl => ?_)
      refine lv_goto (tgt := 18) hx hb dL_law_831 (by decide) ?_
      refine lv_iload_n hx hb dL_law_18 rfl (lv_at hl 0 rfl) ?_
      refine lv_aload_n hx hb dL_law_19 rfl (lv_at hl 3 rfl) ?_
      refine va_slen hx hb hX hbl hbA hS dL_law_20 ?_
      refine wk_toi (y := 4) rfl ?_
      refine lv_iconst (v := 4) hx hb dL_law_21 (by decide) ?_
      refine lv_isub hx hb dL_law_22 ?_
      refine wk_toi (show ((4 - 4) : Int32) = 0 by decide) ?_
      refine lv_icmp_gt (tgt := 834) hx hb dL_law_23 (by decide) (fun _ => ?_) (fun c_197 => absurd (by decide) c_197)
      refine lv_iconst (v := 1) hx hb dL_law_834 (by decide) ?_
      refine va_forget (fun q hq => by have h9 := hS.2.2 q hq; rw [hAe] at h9; exact h9) ?_
      refine W.widen (k := 600000) (n := 7302250) (by decide) (by decide) ?_
      exact lw_ret hx hb hr hlocks dL_law_835
    · refine wk_toi (show nI 23 = 23 from rfl) ?_
      refine lv_tableIn (off := 733) (tgt := 765) hx hb dL_law_32 (by decide) (by decide) (by decide) (by decide) ?_
      refine lv_aload_n hx hb dL_law_765 rfl (lv_at hl 2 rfl) ?_
      refine wk_iV (As := []) (rest := []) (wc := [(q_1, .inr (11, [.ref (u_3 0), .ref (u_3 2), .ref (u_3 4), .ref (u_3 19), .ref (u_3 34), .ref (u_3 35), .null, .int 0, .int 0, .int 0]))]) (wr := [((u_3 0), .inr (6, [.ref (u_3 1), .int 0])), ((u_3 1), .inl (cy, 44, .inl (fun _ => 0))), ((u_3 4), .inr (2, [.ref (u_3 5), .ref (u_3 10), .ref (u_3 15), .int 0, .int 0, .int 0])), ((u_3 5), .inr (8, [.ref (u_3 6), .ref (u_3 7), .ref (u_3 8), .ref (u_3 9), .int 0])), ((u_3 10), .inr (8, [.ref (u_3 11), .ref (u_3 12), .ref (u_3 13), .ref (u_3 14), .int 0])), ((u_3 15), .inr (4, [.ref (u_3 16), .ref (u_3 17), .ref (u_3 18), .int 0])), (q_5, .inr (12, [.ref (u_7 0), .int 0, .int 0, .int 0, .int 0, .int 0, .int 0, .int 0, .ref (u_7 1), .ref (u_7 2), .ref (u_7 3), .ref (u_7 4), .int 0, .ref (u_7 5), .ref (u_7 6), .ref (u_7 7), .ref (u_7 8), .int 0, .int 0, .int 0, .int 0, .ref (u_7 9), .ref (u_7 10), .int 0, .ref (u_7 11), .ref (u_7 12), .int 0, .int (-1), .int 0, .int 0, .int 0, .int 0, .int 0, .int 0, .ref (u_7 13), .ref (u_7 14), .ref (u_7 15), .ref (u_7 16), .ref (u_7 17), .ref (u_7 18), .ref (u_7 19), .ref (u_7 20), .ref (u_7 21), .long 0])), ((u_7 0), .inl (cy, 44, .inl (fun _ => 0)))]) (n := 0) (R := _) ⟨hx, hb, hml, hown, htb⟩ (c_X11_image l D cy q_1 (u_3 0) (u_3 2) (u_3 4) (u_3 19) (u_3 34) (u_3 35)  ) tw_702 tw_699 tw_700 tw_701 tw_64 rfl rfl (by decide +kernel) ⟨Nat.le_of_ble_eq_true rfl, Nat.le_of_ble_eq_true rfl⟩ hK hP hD hS hA [0] [1, 2, 3, 4, 5, 6, 7, 8] rfl rfl rfl rfl (by decide) 0 (ci := 11) rfl rfl rfl hl.1 rfl (Nat.le_of_ble_eq_true rfl) dL_law_766 ⟨Nat.le_of_ble_eq_true rfl, Nat.le_of_ble_eq_true rfl⟩ (fun r_198 u_199 H locs hw_200 hP hD hS => ?_)
      refine W.widen (k := 64) (n := 614) (by decide) (by decide) ?_
      have hw_200 : r_198 = (-103) := hw_200
      subst hw_200
      have hP : va_P D classes [((u_3 0), .inr (6, [.ref (u_3 1), .int 0])), ((u_3 1), .inl (cy, 44, .inl (fun _ => 0))), ((u_3 4), .inr (2, [.ref (u_3 5), .ref (u_3 10), .ref (u_3 15), .int 0, .int 0, .int 0])), ((u_3 5), .inr (8, [.ref (u_3 6), .ref (u_3 7), .ref (u_3 8), .ref (u_3 9), .int 0])), ((u_3 10), .inr (8, [.ref (u_3 11), .ref (u_3 12), .ref (u_3 13), .ref (u_3 14), .int 0])), ((u_3 15), .inr (4, [.ref (u_3 16), .ref (u_3 17), .ref (u_3 18), .int 0])), (q_5, .inr (12, [.ref (u_7 0), .int 0, .int 0, .int 0, .int 0, .int 0, .int 0, .int 0, .ref (u_7 1), .ref (u_7 2), .ref (u_7 3), .ref (u_7 4), .int 0, .ref (u_7 5), .ref (u_7 6), .ref (u_7 7), .ref (u_7 8), .int 0, .int 0, .int 0, .int 0, .ref (u_7 9), .ref (u_7 10), .int 0, .ref (u_7 11), .ref (u_7 12), .int 0, .int (-1), .int 0, .int 0, .int 0, .int 0, .int 0, .int 0, .ref (u_7 13), .ref (u_7 14), .ref (u_7 15), .ref (u_7 16), .ref (u_7 17), .ref (u_7 18), .ref (u_7 19), .ref (u_7 20), .ref (u_7 21), .long 0])), ((u_7 0), .inl (cy, 44, .inl (fun _ => 0))), (q_1, .inr (11, [.ref (u_3 0), .ref (u_3 2), .ref (u_3 4), .ref (u_3 19), .ref (u_3 34), .ref (u_3 35), .null, .int 0, .int 0, .int 0]))] H := hP
      have hD : va_D A [((u_3 0), .inr (6, [.ref (u_3 1), .int 0])), ((u_3 1), .inl (cy, 44, .inl (fun _ => 0))), ((u_3 4), .inr (2, [.ref (u_3 5), .ref (u_3 10), .ref (u_3 15), .int 0, .int 0, .int 0])), ((u_3 5), .inr (8, [.ref (u_3 6), .ref (u_3 7), .ref (u_3 8), .ref (u_3 9), .int 0])), ((u_3 10), .inr (8, [.ref (u_3 11), .ref (u_3 12), .ref (u_3 13), .ref (u_3 14), .int 0])), ((u_3 15), .inr (4, [.ref (u_3 16), .ref (u_3 17), .ref (u_3 18), .int 0])), (q_5, .inr (12, [.ref (u_7 0), .int 0, .int 0, .int 0, .int 0, .int 0, .int 0, .int 0, .ref (u_7 1), .ref (u_7 2), .ref (u_7 3), .ref (u_7 4), .int 0, .ref (u_7 5), .ref (u_7 6), .ref (u_7 7), .ref (u_7 8), .int 0, .int 0, .int 0, .int 0, .ref (u_7 9), .ref (u_7 10), .int 0, .ref (u_7 11), .ref (u_7 12), .int 0, .int (-1), .int 0, .int 0, .int 0, .int 0, .int 0, .int 0, .ref (u_7 13), .ref (u_7 14), .ref (u_7 15), .ref (u_7 16), .ref (u_7 17), .ref (u_7 18), .ref (u_7 19), .ref (u_7 20), .ref (u_7 21), .long 0])), ((u_7 0), .inl (cy, 44, .inl (fun _ => 0))), (q_1, .inr (11, [.ref (u_3 0), .ref (u_3 2), .ref (u_3 4), .ref (u_3 19), .ref (u_3 34), .ref (u_3 35), .null, .int 0, .int 0, .int 0]))] := hD
      refine lv_aload_n hx hb dL_law_769 rfl (lv_at hl 1 rfl) ?_
      refine wk_iV (As := []) (rest := [.int (-103)]) (wc := [(q_5, .inr (12, [.ref (u_7 0), .int 0, .int 0, .int 0, .int 0, .int 0, .int 0, .int 0, .ref (u_7 1), .ref (u_7 2), .ref (u_7 3), .ref (u_7 4), .int 0, .ref (u_7 5), .ref (u_7 6), .ref (u_7 7), .ref (u_7 8), .int 0, .int 0, .int 0, .int 0, .ref (u_7 9), .ref (u_7 10), .int 0, .ref (u_7 11), .ref (u_7 12), .int 0, .int (-1), .int 0, .int 0, .int 0, .int 0, .int 0, .int 0, .ref (u_7 13), .ref (u_7 14), .ref (u_7 15), .ref (u_7 16), .ref (u_7 17), .ref (u_7 18), .ref (u_7 19), .ref (u_7 20), .ref (u_7 21), .long 0]))]) (wr := [((u_3 0), .inr (6, [.ref (u_3 1), .int 0])), ((u_3 1), .inl (cy, 44, .inl (fun _ => 0))), ((u_3 4), .inr (2, [.ref (u_3 5), .ref (u_3 10), .ref (u_3 15), .int 0, .int 0, .int 0])), ((u_3 5), .inr (8, [.ref (u_3 6), .ref (u_3 7), .ref (u_3 8), .ref (u_3 9), .int 0])), ((u_3 10), .inr (8, [.ref (u_3 11), .ref (u_3 12), .ref (u_3 13), .ref (u_3 14), .int 0])), ((u_3 15), .inr (4, [.ref (u_3 16), .ref (u_3 17), .ref (u_3 18), .int 0])), ((u_7 0), .inl (cy, 44, .inl (fun _ => 0))), (q_1, .inr (11, [.ref (u_3 0), .ref (u_3 2), .ref (u_3 4), .ref (u_3 19), .ref (u_3 34), .ref (u_3 35), .null, .int 0, .int 0, .int 0]))]) (n := 0) (R := _) ⟨hx, hb, hml, hown, htb⟩ (c_X12_image l D cy q_5 (u_7 0) (u_7 1) (u_7 2) (u_7 3) (u_7 4) (u_7 5) (u_7 6) (u_7 7) (u_7 8) (u_7 9) (u_7 10) (u_7 11) (u_7 12) (u_7 13) (u_7 14) (u_7 15) (u_7 16) (u_7 17) (u_7 18) (u_7 19) (u_7 20) (u_7 21)  0) tw_1178 tw_1175 tw_1176 tw_1177 tw_71 rfl rfl (by decide +kernel) ⟨Nat.le_of_ble_eq_true rfl, Nat.le_of_ble_eq_true rfl⟩ hK hP hD hS hA [6] [0, 1, 2, 3, 4, 5, 7, 8] rfl rfl rfl rfl (by decide) 0 (ci := 12) rfl rfl rfl hl.1 rfl (Nat.le_of_ble_eq_true rfl) dL_law_770 ⟨Nat.le_of_ble_eq_true rfl, Nat.le_of_ble_eq_true rfl⟩ (fun r_201 u_202 H locs hw_203 hP hD hS => ?_)
      refine W.widen (k := 64) (n := 614) (by decide) (by decide) ?_
      have hw_203 : r_201 = (-103) := hw_203
      subst hw_203
      have hP : va_P D classes [((u_3 0), .inr (6, [.ref (u_3 1), .int 0])), ((u_3 1), .inl (cy, 44, .inl (fun _ => 0))), ((u_3 4), .inr (2, [.ref (u_3 5), .ref (u_3 10), .ref (u_3 15), .int 0, .int 0, .int 0])), ((u_3 5), .inr (8, [.ref (u_3 6), .ref (u_3 7), .ref (u_3 8), .ref (u_3 9), .int 0])), ((u_3 10), .inr (8, [.ref (u_3 11), .ref (u_3 12), .ref (u_3 13), .ref (u_3 14), .int 0])), ((u_3 15), .inr (4, [.ref (u_3 16), .ref (u_3 17), .ref (u_3 18), .int 0])), ((u_7 0), .inl (cy, 44, .inl (fun _ => 0))), (q_1, .inr (11, [.ref (u_3 0), .ref (u_3 2), .ref (u_3 4), .ref (u_3 19), .ref (u_3 34), .ref (u_3 35), .null, .int 0, .int 0, .int 0])), (q_5, .inr (12, [.ref (u_7 0), .int 0, .int 0, .int 0, .int 0, .int 0, .int 0, .int 0, .ref (u_7 1), .ref (u_7 2), .ref (u_7 3), .ref (u_7 4), .int 0, .ref (u_7 5), .ref (u_7 6), .ref (u_7 7), .ref (u_7 8), .int 0, .int 0, .int 0, .int 0, .ref (u_7 9), .ref (u_7 10), .int 0, .ref (u_7 11), .ref (u_7 12), .int 0, .int (-1), .int 0, .int 0, .int 0, .int 0, .int 0, .int 0, .ref (u_7 13), .ref (u_7 14), .ref (u_7 15), .ref (u_7 16), .ref (u_7 17), .ref (u_7 18), .ref (u_7 19), .ref (u_7 20), .ref (u_7 21), .long 0]))] H := hP
      have hD : va_D A [((u_3 0), .inr (6, [.ref (u_3 1), .int 0])), ((u_3 1), .inl (cy, 44, .inl (fun _ => 0))), ((u_3 4), .inr (2, [.ref (u_3 5), .ref (u_3 10), .ref (u_3 15), .int 0, .int 0, .int 0])), ((u_3 5), .inr (8, [.ref (u_3 6), .ref (u_3 7), .ref (u_3 8), .ref (u_3 9), .int 0])), ((u_3 10), .inr (8, [.ref (u_3 11), .ref (u_3 12), .ref (u_3 13), .ref (u_3 14), .int 0])), ((u_3 15), .inr (4, [.ref (u_3 16), .ref (u_3 17), .ref (u_3 18), .int 0])), ((u_7 0), .inl (cy, 44, .inl (fun _ => 0))), (q_1, .inr (11, [.ref (u_3 0), .ref (u_3 2), .ref (u_3 4), .ref (u_3 19), .ref (u_3 34), .ref (u_3 35), .null, .int 0, .int 0, .int 0])), (q_5, .inr (12, [.ref (u_7 0), .int 0, .int 0, .int 0, .int 0, .int 0, .int 0, .int 0, .ref (u_7 1), .ref (u_7 2), .ref (u_7 3), .ref (u_7 4), .int 0, .ref (u_7 5), .ref (u_7 6), .ref (u_7 7), .ref (u_7 8), .int 0, .int 0, .int 0, .int 0, .ref (u_7 9), .ref (u_7 10), .int 0, .ref (u_7 11), .ref (u_7 12), .int 0, .int (-1), .int 0, .int 0, .int 0, .int 0, .int 0, .int 0, .ref (u_7 13), .ref (u_7 14), .ref (u_7 15), .ref (u_7 16), .ref (u_7 17), .ref (u_7 18), .ref (u_7 19), .ref (u_7 20), .ref (u_7 21), .long 0]))] := hD
      refine lv_icmp_eq (tgt := 828) hx hb dL_law_773 (by decide) (fun c_204 => ?_) (fun c_204 => absurd rfl c_204)
      refine lv_iinc (v := 4) (lv' := [(3, .int 4), (2, .ref q_5), (1, .ref q_1), (0, .ref b)]) hx hb dL_law_828 hl (k := 0) rfl (by decide) (by decide) rfl (fun ls hl => ?_)
      refine lv_goto (tgt := 18) hx hb dL_law_831 (by decide) ?_
      refine lv_iload_n hx hb dL_law_18 rfl (lv_at hl 0 rfl) ?_
      refine lv_aload_n hx hb dL_law_19 rfl (lv_at hl 3 rfl) ?_
      refine va_slen hx hb hX hbl hbA hS dL_law_20 ?_
      refine wk_toi (y := 4) rfl ?_
      refine lv_iconst (v := 4) hx hb dL_law_21 (by decide) ?_
      refine lv_isub hx hb dL_law_22 ?_
      refine wk_toi (show ((4 - 4) : Int32) = 0 by decide) ?_
      refine lv_icmp_gt (tgt := 834) hx hb dL_law_23 (by decide) (fun _ => ?_) (fun c_205 => absurd (by decide) c_205)
      refine lv_iconst (v := 1) hx hb dL_law_834 (by decide) ?_
      refine va_forget (fun q hq => by have h9 := hS.2.2 q hq; rw [hAe] at h9; exact h9) ?_
      refine W.widen (k := 600000) (n := 7302250) (by decide) (by decide) ?_
      exact lw_ret hx hb hr hlocks dL_law_835
    · refine wk_toi (show nI 24 = 24 from rfl) ?_
      refine lv_tableIn (off := 746) (tgt := 778) hx hb dL_law_32 (by decide) (by decide) (by decide) (by decide) ?_
      refine lv_aload_n hx hb dL_law_778 rfl (lv_at hl 2 rfl) ?_
      refine wk_iV (As := []) (rest := []) (wc := [(q_1, .inr (11, [.ref (u_3 0), .ref (u_3 2), .ref (u_3 4), .ref (u_3 19), .ref (u_3 34), .ref (u_3 35), .null, .int 0, .int 0, .int 0]))]) (wr := [((u_3 0), .inr (6, [.ref (u_3 1), .int 0])), ((u_3 1), .inl (cy, 44, .inl (fun _ => 0))), ((u_3 4), .inr (2, [.ref (u_3 5), .ref (u_3 10), .ref (u_3 15), .int 0, .int 0, .int 0])), ((u_3 5), .inr (8, [.ref (u_3 6), .ref (u_3 7), .ref (u_3 8), .ref (u_3 9), .int 0])), ((u_3 10), .inr (8, [.ref (u_3 11), .ref (u_3 12), .ref (u_3 13), .ref (u_3 14), .int 0])), ((u_3 15), .inr (4, [.ref (u_3 16), .ref (u_3 17), .ref (u_3 18), .int 0])), (q_5, .inr (12, [.ref (u_7 0), .int 0, .int 0, .int 0, .int 0, .int 0, .int 0, .int 0, .ref (u_7 1), .ref (u_7 2), .ref (u_7 3), .ref (u_7 4), .int 0, .ref (u_7 5), .ref (u_7 6), .ref (u_7 7), .ref (u_7 8), .int 0, .int 0, .int 0, .int 0, .ref (u_7 9), .ref (u_7 10), .int 0, .ref (u_7 11), .ref (u_7 12), .int 0, .int (-1), .int 0, .int 0, .int 0, .int 0, .int 0, .int 0, .ref (u_7 13), .ref (u_7 14), .ref (u_7 15), .ref (u_7 16), .ref (u_7 17), .ref (u_7 18), .ref (u_7 19), .ref (u_7 20), .ref (u_7 21), .long 0])), ((u_7 0), .inl (cy, 44, .inl (fun _ => 0)))]) (n := 0) (R := _) ⟨hx, hb, hml, hown, htb⟩ (c_X11_restore l D cy q_1 (u_3 0) (u_3 2) (u_3 4) (u_3 19) (u_3 34) (u_3 35)  ) tw_720 tw_717 tw_718 tw_719 tw_64 rfl rfl (by decide +kernel) ⟨Nat.le_of_ble_eq_true rfl, Nat.le_of_ble_eq_true rfl⟩ hK hP hD hS hA [0] [1, 2, 3, 4, 5, 6, 7, 8] rfl rfl rfl rfl (by decide) 0 (ci := 11) rfl rfl rfl hl.1 rfl (Nat.le_of_ble_eq_true rfl) dL_law_779 ⟨Nat.le_of_ble_eq_true rfl, Nat.le_of_ble_eq_true rfl⟩ (fun r_206 u_207 H locs hw_208 hP hD hS => ?_)
      refine W.widen (k := 64) (n := 614) (by decide) (by decide) ?_
      have hw_208 : r_206 = (-103) := hw_208
      subst hw_208
      have hP : va_P D classes [((u_3 0), .inr (6, [.ref (u_3 1), .int 0])), ((u_3 1), .inl (cy, 44, .inl (fun _ => 0))), ((u_3 4), .inr (2, [.ref (u_3 5), .ref (u_3 10), .ref (u_3 15), .int 0, .int 0, .int 0])), ((u_3 5), .inr (8, [.ref (u_3 6), .ref (u_3 7), .ref (u_3 8), .ref (u_3 9), .int 0])), ((u_3 10), .inr (8, [.ref (u_3 11), .ref (u_3 12), .ref (u_3 13), .ref (u_3 14), .int 0])), ((u_3 15), .inr (4, [.ref (u_3 16), .ref (u_3 17), .ref (u_3 18), .int 0])), (q_5, .inr (12, [.ref (u_7 0), .int 0, .int 0, .int 0, .int 0, .int 0, .int 0, .int 0, .ref (u_7 1), .ref (u_7 2), .ref (u_7 3), .ref (u_7 4), .int 0, .ref (u_7 5), .ref (u_7 6), .ref (u_7 7), .ref (u_7 8), .int 0, .int 0, .int 0, .int 0, .ref (u_7 9), .ref (u_7 10), .int 0, .ref (u_7 11), .ref (u_7 12), .int 0, .int (-1), .int 0, .int 0, .int 0, .int 0, .int 0, .int 0, .ref (u_7 13), .ref (u_7 14), .ref (u_7 15), .ref (u_7 16), .ref (u_7 17), .ref (u_7 18), .ref (u_7 19), .ref (u_7 20), .ref (u_7 21), .long 0])), ((u_7 0), .inl (cy, 44, .inl (fun _ => 0))), (q_1, .inr (11, [.ref (u_3 0), .ref (u_3 2), .ref (u_3 4), .ref (u_3 19), .ref (u_3 34), .ref (u_3 35), .null, .int 0, .int 0, .int 0]))] H := hP
      have hD : va_D A [((u_3 0), .inr (6, [.ref (u_3 1), .int 0])), ((u_3 1), .inl (cy, 44, .inl (fun _ => 0))), ((u_3 4), .inr (2, [.ref (u_3 5), .ref (u_3 10), .ref (u_3 15), .int 0, .int 0, .int 0])), ((u_3 5), .inr (8, [.ref (u_3 6), .ref (u_3 7), .ref (u_3 8), .ref (u_3 9), .int 0])), ((u_3 10), .inr (8, [.ref (u_3 11), .ref (u_3 12), .ref (u_3 13), .ref (u_3 14), .int 0])), ((u_3 15), .inr (4, [.ref (u_3 16), .ref (u_3 17), .ref (u_3 18), .int 0])), (q_5, .inr (12, [.ref (u_7 0), .int 0, .int 0, .int 0, .int 0, .int 0, .int 0, .int 0, .ref (u_7 1), .ref (u_7 2), .ref (u_7 3), .ref (u_7 4), .int 0, .ref (u_7 5), .ref (u_7 6), .ref (u_7 7), .ref (u_7 8), .int 0, .int 0, .int 0, .int 0, .ref (u_7 9), .ref (u_7 10), .int 0, .ref (u_7 11), .ref (u_7 12), .int 0, .int (-1), .int 0, .int 0, .int 0, .int 0, .int 0, .int 0, .ref (u_7 13), .ref (u_7 14), .ref (u_7 15), .ref (u_7 16), .ref (u_7 17), .ref (u_7 18), .ref (u_7 19), .ref (u_7 20), .ref (u_7 21), .long 0])), ((u_7 0), .inl (cy, 44, .inl (fun _ => 0))), (q_1, .inr (11, [.ref (u_3 0), .ref (u_3 2), .ref (u_3 4), .ref (u_3 19), .ref (u_3 34), .ref (u_3 35), .null, .int 0, .int 0, .int 0]))] := hD
      refine lv_aload_n hx hb dL_law_782 rfl (lv_at hl 1 rfl) ?_
      refine wk_iV (As := []) (rest := [.int (-103)]) (wc := [(q_5, .inr (12, [.ref (u_7 0), .int 0, .int 0, .int 0, .int 0, .int 0, .int 0, .int 0, .ref (u_7 1), .ref (u_7 2), .ref (u_7 3), .ref (u_7 4), .int 0, .ref (u_7 5), .ref (u_7 6), .ref (u_7 7), .ref (u_7 8), .int 0, .int 0, .int 0, .int 0, .ref (u_7 9), .ref (u_7 10), .int 0, .ref (u_7 11), .ref (u_7 12), .int 0, .int (-1), .int 0, .int 0, .int 0, .int 0, .int 0, .int 0, .ref (u_7 13), .ref (u_7 14), .ref (u_7 15), .ref (u_7 16), .ref (u_7 17), .ref (u_7 18), .ref (u_7 19), .ref (u_7 20), .ref (u_7 21), .long 0]))]) (wr := [((u_3 0), .inr (6, [.ref (u_3 1), .int 0])), ((u_3 1), .inl (cy, 44, .inl (fun _ => 0))), ((u_3 4), .inr (2, [.ref (u_3 5), .ref (u_3 10), .ref (u_3 15), .int 0, .int 0, .int 0])), ((u_3 5), .inr (8, [.ref (u_3 6), .ref (u_3 7), .ref (u_3 8), .ref (u_3 9), .int 0])), ((u_3 10), .inr (8, [.ref (u_3 11), .ref (u_3 12), .ref (u_3 13), .ref (u_3 14), .int 0])), ((u_3 15), .inr (4, [.ref (u_3 16), .ref (u_3 17), .ref (u_3 18), .int 0])), ((u_7 0), .inl (cy, 44, .inl (fun _ => 0))), (q_1, .inr (11, [.ref (u_3 0), .ref (u_3 2), .ref (u_3 4), .ref (u_3 19), .ref (u_3 34), .ref (u_3 35), .null, .int 0, .int 0, .int 0]))]) (n := 0) (R := _) ⟨hx, hb, hml, hown, htb⟩ (c_X12_restore l D cy q_5 (u_7 0) (u_7 1) (u_7 2) (u_7 3) (u_7 4) (u_7 5) (u_7 6) (u_7 7) (u_7 8) (u_7 9) (u_7 10) (u_7 11) (u_7 12) (u_7 13) (u_7 14) (u_7 15) (u_7 16) (u_7 17) (u_7 18) (u_7 19) (u_7 20) (u_7 21)  0) tw_1182 tw_1179 tw_1180 tw_1181 tw_71 rfl rfl (by decide +kernel) ⟨Nat.le_of_ble_eq_true rfl, Nat.le_of_ble_eq_true rfl⟩ hK hP hD hS hA [6] [0, 1, 2, 3, 4, 5, 7, 8] rfl rfl rfl rfl (by decide) 0 (ci := 12) rfl rfl rfl hl.1 rfl (Nat.le_of_ble_eq_true rfl) dL_law_783 ⟨Nat.le_of_ble_eq_true rfl, Nat.le_of_ble_eq_true rfl⟩ (fun r_209 u_210 H locs hw_211 hP hD hS => ?_)
      refine W.widen (k := 64) (n := 614) (by decide) (by decide) ?_
      have hw_211 : r_209 = (-103) := hw_211
      subst hw_211
      have hP : va_P D classes [((u_3 0), .inr (6, [.ref (u_3 1), .int 0])), ((u_3 1), .inl (cy, 44, .inl (fun _ => 0))), ((u_3 4), .inr (2, [.ref (u_3 5), .ref (u_3 10), .ref (u_3 15), .int 0, .int 0, .int 0])), ((u_3 5), .inr (8, [.ref (u_3 6), .ref (u_3 7), .ref (u_3 8), .ref (u_3 9), .int 0])), ((u_3 10), .inr (8, [.ref (u_3 11), .ref (u_3 12), .ref (u_3 13), .ref (u_3 14), .int 0])), ((u_3 15), .inr (4, [.ref (u_3 16), .ref (u_3 17), .ref (u_3 18), .int 0])), ((u_7 0), .inl (cy, 44, .inl (fun _ => 0))), (q_1, .inr (11, [.ref (u_3 0), .ref (u_3 2), .ref (u_3 4), .ref (u_3 19), .ref (u_3 34), .ref (u_3 35), .null, .int 0, .int 0, .int 0])), (q_5, .inr (12, [.ref (u_7 0), .int 0, .int 0, .int 0, .int 0, .int 0, .int 0, .int 0, .ref (u_7 1), .ref (u_7 2), .ref (u_7 3), .ref (u_7 4), .int 0, .ref (u_7 5), .ref (u_7 6), .ref (u_7 7), .ref (u_7 8), .int 0, .int 0, .int 0, .int 0, .ref (u_7 9), .ref (u_7 10), .int 0, .ref (u_7 11), .ref (u_7 12), .int 0, .int (-1), .int 0, .int 0, .int 0, .int 0, .int 0, .int 0, .ref (u_7 13), .ref (u_7 14), .ref (u_7 15), .ref (u_7 16), .ref (u_7 17), .ref (u_7 18), .ref (u_7 19), .ref (u_7 20), .ref (u_7 21), .long 0]))] H := hP
      have hD : va_D A [((u_3 0), .inr (6, [.ref (u_3 1), .int 0])), ((u_3 1), .inl (cy, 44, .inl (fun _ => 0))), ((u_3 4), .inr (2, [.ref (u_3 5), .ref (u_3 10), .ref (u_3 15), .int 0, .int 0, .int 0])), ((u_3 5), .inr (8, [.ref (u_3 6), .ref (u_3 7), .ref (u_3 8), .ref (u_3 9), .int 0])), ((u_3 10), .inr (8, [.ref (u_3 11), .ref (u_3 12), .ref (u_3 13), .ref (u_3 14), .int 0])), ((u_3 15), .inr (4, [.ref (u_3 16), .ref (u_3 17), .ref (u_3 18), .int 0])), ((u_7 0), .inl (cy, 44, .inl (fun _ => 0))), (q_1, .inr (11, [.ref (u_3 0), .ref (u_3 2), .ref (u_3 4), .ref (u_3 19), .ref (u_3 34), .ref (u_3 35), .null, .int 0, .int 0, .int 0])), (q_5, .inr (12, [.ref (u_7 0), .int 0, .int 0, .int 0, .int 0, .int 0, .int 0, .int 0, .ref (u_7 1), .ref (u_7 2), .ref (u_7 3), .ref (u_7 4), .int 0, .ref (u_7 5), .ref (u_7 6), .ref (u_7 7), .ref (u_7 8), .int 0, .int 0, .int 0, .int 0, .ref (u_7 9), .ref (u_7 10), .int 0, .ref (u_7 11), .ref (u_7 12), .int 0, .int (-1), .int 0, .int 0, .int 0, .int 0, .int 0, .int 0, .ref (u_7 13), .ref (u_7 14), .ref (u_7 15), .ref (u_7 16), .ref (u_7 17), .ref (u_7 18), .ref (u_7 19), .ref (u_7 20), .ref (u_7 21), .long 0]))] := hD
      refine lv_icmp_eq (tgt := 828) hx hb dL_law_786 (by decide) (fun c_212 => ?_) (fun c_212 => absurd rfl c_212)
      refine lv_iinc (v := 4) (lv' := [(3, .int 4), (2, .ref q_5), (1, .ref q_1), (0, .ref b)]) hx hb dL_law_828 hl (k := 0) rfl (by decide) (by decide) rfl (fun ls hl => ?_)
      refine lv_goto (tgt := 18) hx hb dL_law_831 (by decide) ?_
      refine lv_iload_n hx hb dL_law_18 rfl (lv_at hl 0 rfl) ?_
      refine lv_aload_n hx hb dL_law_19 rfl (lv_at hl 3 rfl) ?_
      refine va_slen hx hb hX hbl hbA hS dL_law_20 ?_
      refine wk_toi (y := 4) rfl ?_
      refine lv_iconst (v := 4) hx hb dL_law_21 (by decide) ?_
      refine lv_isub hx hb dL_law_22 ?_
      refine wk_toi (show ((4 - 4) : Int32) = 0 by decide) ?_
      refine lv_icmp_gt (tgt := 834) hx hb dL_law_23 (by decide) (fun _ => ?_) (fun c_213 => absurd (by decide) c_213)
      refine lv_iconst (v := 1) hx hb dL_law_834 (by decide) ?_
      refine va_forget (fun q hq => by have h9 := hS.2.2 q hq; rw [hAe] at h9; exact h9) ?_
      refine W.widen (k := 600000) (n := 7302250) (by decide) (by decide) ?_
      exact lw_ret hx hb hr hlocks dL_law_835
    · refine wk_toi (show nI 25 = 25 from rfl) ?_
      refine lv_tableIn (off := 759) (tgt := 791) hx hb dL_law_32 (by decide) (by decide) (by decide) (by decide) ?_
      refine lv_aload_n hx hb dL_law_791 rfl (lv_at hl 2 rfl) ?_
      refine lv_aload_n hx hb dL_law_792 rfl (lv_at hl 3 rfl) ?_
      refine lv_iload_n hx hb dL_law_793 rfl (lv_at hl 0 rfl) ?_
      refine lv_iconst (v := 1) hx hb dL_law_794 (by decide) ?_
      refine lv_iadd hx hb dL_law_795 ?_
      refine wk_toi (show ((0 + 1) : Int32) = 1 by decide) ?_
      refine va_sld hx hb hX hbl hbA hS (show vp_in 1 4 by unfold vp_in; decide) dL_law_796 ?_
      refine wk_toi (y := xs 1) rfl ?_
      refine wk_iV (As := [.int (xs 1)]) (rest := []) (wc := [(q_1, .inr (11, [.ref (u_3 0), .ref (u_3 2), .ref (u_3 4), .ref (u_3 19), .ref (u_3 34), .ref (u_3 35), .null, .int 0, .int 0, .int 0])), ((u_3 0), .inr (6, [.ref (u_3 1), .int 0])), ((u_3 4), .inr (2, [.ref (u_3 5), .ref (u_3 10), .ref (u_3 15), .int 0, .int 0, .int 0])), ((u_3 5), .inr (8, [.ref (u_3 6), .ref (u_3 7), .ref (u_3 8), .ref (u_3 9), .int 0])), ((u_3 10), .inr (8, [.ref (u_3 11), .ref (u_3 12), .ref (u_3 13), .ref (u_3 14), .int 0])), ((u_3 15), .inr (4, [.ref (u_3 16), .ref (u_3 17), .ref (u_3 18), .int 0]))]) (wr := [((u_3 1), .inl (cy, 44, .inl (fun _ => 0))), (q_5, .inr (12, [.ref (u_7 0), .int 0, .int 0, .int 0, .int 0, .int 0, .int 0, .int 0, .ref (u_7 1), .ref (u_7 2), .ref (u_7 3), .ref (u_7 4), .int 0, .ref (u_7 5), .ref (u_7 6), .ref (u_7 7), .ref (u_7 8), .int 0, .int 0, .int 0, .int 0, .ref (u_7 9), .ref (u_7 10), .int 0, .ref (u_7 11), .ref (u_7 12), .int 0, .int (-1), .int 0, .int 0, .int 0, .int 0, .int 0, .int 0, .ref (u_7 13), .ref (u_7 14), .ref (u_7 15), .ref (u_7 16), .ref (u_7 17), .ref (u_7 18), .ref (u_7 19), .ref (u_7 20), .ref (u_7 21), .long 0])), ((u_7 0), .inl (cy, 44, .inl (fun _ => 0)))]) (n := 1) (R := _) ⟨hx, hb, hml, hown, htb⟩ (c_X11_count l D cy q_1 (u_3 0) (u_3 2) (u_3 4) (u_3 19) (u_3 34) (u_3 35) (u_3 1) (u_3 5) (u_3 10) (u_3 15) (u_3 6) (u_3 7) (u_3 8) (u_3 9) (u_3 11) (u_3 12) (u_3 13) (u_3 14) (u_3 16) (u_3 17) (u_3 18) (xs 1) ) tw_724 tw_721 tw_722 tw_723 tw_64 rfl rfl (by decide +kernel) ⟨Nat.le_of_ble_eq_true rfl, Nat.le_of_ble_eq_true rfl⟩ hK hP hD hS hA [0, 1, 3, 4, 5, 6] [2, 7, 8] rfl rfl rfl rfl (by decide) 0 (ci := 11) rfl rfl rfl hl.1 rfl (Nat.le_of_ble_eq_true rfl) dL_law_797 ⟨Nat.le_of_ble_eq_true rfl, Nat.le_of_ble_eq_true rfl⟩ (fun r_214 u_215 H locs hw_216 hP hD hS => ?_)
      refine W.widen (k := 64) (n := 614) (by decide) (by decide) ?_
      have hw_216 : r_214 = if (0 ≤ ((xs 1) : Int32).toInt ∧ ((xs 1) : Int32).toInt ≤ 12) then 0 else (-102) := hw_216
      subst hw_216
      have hP : va_P D classes [((u_3 1), .inl (cy, 44, .inl (fun _ => 0))), (q_5, .inr (12, [.ref (u_7 0), .int 0, .int 0, .int 0, .int 0, .int 0, .int 0, .int 0, .ref (u_7 1), .ref (u_7 2), .ref (u_7 3), .ref (u_7 4), .int 0, .ref (u_7 5), .ref (u_7 6), .ref (u_7 7), .ref (u_7 8), .int 0, .int 0, .int 0, .int 0, .ref (u_7 9), .ref (u_7 10), .int 0, .ref (u_7 11), .ref (u_7 12), .int 0, .int (-1), .int 0, .int 0, .int 0, .int 0, .int 0, .int 0, .ref (u_7 13), .ref (u_7 14), .ref (u_7 15), .ref (u_7 16), .ref (u_7 17), .ref (u_7 18), .ref (u_7 19), .ref (u_7 20), .ref (u_7 21), .long 0])), ((u_7 0), .inl (cy, 44, .inl (fun _ => 0))), (q_1, .inr (11, [.ref (u_3 0), .ref (u_3 2), .ref (u_3 4), .ref (u_3 19), .ref (u_3 34), .ref (u_3 35), .null, .int 0, .int 0, .int 0])), ((u_3 0), .inr (6, [.ref (u_3 1), .int 0])), ((u_3 4), .inr (2, [.ref (u_3 5), .ref (u_3 10), .ref (u_3 15), .int 0, .int 0, .int 0])), ((u_3 5), .inr (8, [.ref (u_3 6), .ref (u_3 7), .ref (u_3 8), .ref (u_3 9), .int 0])), ((u_3 10), .inr (8, [.ref (u_3 11), .ref (u_3 12), .ref (u_3 13), .ref (u_3 14), .int 0])), ((u_3 15), .inr (4, [.ref (u_3 16), .ref (u_3 17), .ref (u_3 18), .int 0]))] H := hP
      have hD : va_D A [((u_3 1), .inl (cy, 44, .inl (fun _ => 0))), (q_5, .inr (12, [.ref (u_7 0), .int 0, .int 0, .int 0, .int 0, .int 0, .int 0, .int 0, .ref (u_7 1), .ref (u_7 2), .ref (u_7 3), .ref (u_7 4), .int 0, .ref (u_7 5), .ref (u_7 6), .ref (u_7 7), .ref (u_7 8), .int 0, .int 0, .int 0, .int 0, .ref (u_7 9), .ref (u_7 10), .int 0, .ref (u_7 11), .ref (u_7 12), .int 0, .int (-1), .int 0, .int 0, .int 0, .int 0, .int 0, .int 0, .ref (u_7 13), .ref (u_7 14), .ref (u_7 15), .ref (u_7 16), .ref (u_7 17), .ref (u_7 18), .ref (u_7 19), .ref (u_7 20), .ref (u_7 21), .long 0])), ((u_7 0), .inl (cy, 44, .inl (fun _ => 0))), (q_1, .inr (11, [.ref (u_3 0), .ref (u_3 2), .ref (u_3 4), .ref (u_3 19), .ref (u_3 34), .ref (u_3 35), .null, .int 0, .int 0, .int 0])), ((u_3 0), .inr (6, [.ref (u_3 1), .int 0])), ((u_3 4), .inr (2, [.ref (u_3 5), .ref (u_3 10), .ref (u_3 15), .int 0, .int 0, .int 0])), ((u_3 5), .inr (8, [.ref (u_3 6), .ref (u_3 7), .ref (u_3 8), .ref (u_3 9), .int 0])), ((u_3 10), .inr (8, [.ref (u_3 11), .ref (u_3 12), .ref (u_3 13), .ref (u_3 14), .int 0])), ((u_3 15), .inr (4, [.ref (u_3 16), .ref (u_3 17), .ref (u_3 18), .int 0]))] := hD
      refine lv_aload_n hx hb dL_law_800 rfl (lv_at hl 1 rfl) ?_
      refine lv_aload_n hx hb dL_law_801 rfl (lv_at hl 3 rfl) ?_
      refine lv_iload_n hx hb dL_law_802 rfl (lv_at hl 0 rfl) ?_
      refine lv_iconst (v := 1) hx hb dL_law_803 (by decide) ?_
      refine lv_iadd hx hb dL_law_804 ?_
      refine wk_toi (show ((0 + 1) : Int32) = 1 by decide) ?_
      refine va_sld hx hb hX hbl hbA hS (show vp_in 1 4 by unfold vp_in; decide) dL_law_805 ?_
      refine wk_toi (y := xs 1) rfl ?_
      refine wk_iV (As := [.int (xs 1)]) (rest := [.int (if (0 ≤ ((xs 1) : Int32).toInt ∧ ((xs 1) : Int32).toInt ≤ 12) then 0 else (-102))]) (wc := [(q_5, .inr (12, [.ref (u_7 0), .int 0, .int 0, .int 0, .int 0, .int 0, .int 0, .int 0, .ref (u_7 1), .ref (u_7 2), .ref (u_7 3), .ref (u_7 4), .int 0, .ref (u_7 5), .ref (u_7 6), .ref (u_7 7), .ref (u_7 8), .int 0, .int 0, .int 0, .int 0, .ref (u_7 9), .ref (u_7 10), .int 0, .ref (u_7 11), .ref (u_7 12), .int 0, .int (-1), .int 0, .int 0, .int 0, .int 0, .int 0, .int 0, .ref (u_7 13), .ref (u_7 14), .ref (u_7 15), .ref (u_7 16), .ref (u_7 17), .ref (u_7 18), .ref (u_7 19), .ref (u_7 20), .ref (u_7 21), .long 0]))]) (wr := [((u_3 1), .inl (cy, 44, .inl (fun _ => 0))), ((u_7 0), .inl (cy, 44, .inl (fun _ => 0))), (q_1, .inr (11, [.ref (u_3 0), .ref (u_3 2), .ref (u_3 4), .ref (u_3 19), .ref (u_3 34), .ref (u_3 35), .null, .int 0, .int 0, .int 0])), ((u_3 0), .inr (6, [.ref (u_3 1), .int 0])), ((u_3 4), .inr (2, [.ref (u_3 5), .ref (u_3 10), .ref (u_3 15), .int 0, .int 0, .int 0])), ((u_3 5), .inr (8, [.ref (u_3 6), .ref (u_3 7), .ref (u_3 8), .ref (u_3 9), .int 0])), ((u_3 10), .inr (8, [.ref (u_3 11), .ref (u_3 12), .ref (u_3 13), .ref (u_3 14), .int 0])), ((u_3 15), .inr (4, [.ref (u_3 16), .ref (u_3 17), .ref (u_3 18), .int 0]))]) (n := 1) (R := _) ⟨hx, hb, hml, hown, htb⟩ (c_X12_count l D cy q_5 (u_7 0) (u_7 1) (u_7 2) (u_7 3) (u_7 4) (u_7 5) (u_7 6) (u_7 7) (u_7 8) (u_7 9) (u_7 10) (u_7 11) (u_7 12) (u_7 13) (u_7 14) (u_7 15) (u_7 16) (u_7 17) (u_7 18) (u_7 19) (u_7 20) (u_7 21) (xs 1) 0) tw_1186 tw_1183 tw_1184 tw_1185 tw_71 rfl rfl (by decide +kernel) ⟨Nat.le_of_ble_eq_true rfl, Nat.le_of_ble_eq_true rfl⟩ hK hP hD hS hA [1] [0, 2, 3, 4, 5, 6, 7, 8] rfl rfl rfl rfl (by decide) 0 (ci := 12) rfl rfl rfl hl.1 rfl (Nat.le_of_ble_eq_true rfl) dL_law_806 ⟨Nat.le_of_ble_eq_true rfl, Nat.le_of_ble_eq_true rfl⟩ (fun r_217 u_218 H locs hw_219 hP hD hS => ?_)
      refine W.widen (k := 64) (n := 614) (by decide) (by decide) ?_
      have hw_219 : r_217 = if (0 ≤ ((xs 1) : Int32).toInt ∧ ((xs 1) : Int32).toInt ≤ 12) then 0 else (-102) := hw_219
      subst hw_219
      have hP : va_P D classes [((u_3 1), .inl (cy, 44, .inl (fun _ => 0))), ((u_7 0), .inl (cy, 44, .inl (fun _ => 0))), (q_1, .inr (11, [.ref (u_3 0), .ref (u_3 2), .ref (u_3 4), .ref (u_3 19), .ref (u_3 34), .ref (u_3 35), .null, .int 0, .int 0, .int 0])), ((u_3 0), .inr (6, [.ref (u_3 1), .int 0])), ((u_3 4), .inr (2, [.ref (u_3 5), .ref (u_3 10), .ref (u_3 15), .int 0, .int 0, .int 0])), ((u_3 5), .inr (8, [.ref (u_3 6), .ref (u_3 7), .ref (u_3 8), .ref (u_3 9), .int 0])), ((u_3 10), .inr (8, [.ref (u_3 11), .ref (u_3 12), .ref (u_3 13), .ref (u_3 14), .int 0])), ((u_3 15), .inr (4, [.ref (u_3 16), .ref (u_3 17), .ref (u_3 18), .int 0])), (q_5, .inr (12, [.ref (u_7 0), .int 0, .int 0, .int 0, .int 0, .int 0, .int 0, .int 0, .ref (u_7 1), .ref (u_7 2), .ref (u_7 3), .ref (u_7 4), .int 0, .ref (u_7 5), .ref (u_7 6), .ref (u_7 7), .ref (u_7 8), .int 0, .int 0, .int 0, .int 0, .ref (u_7 9), .ref (u_7 10), .int 0, .ref (u_7 11), .ref (u_7 12), .int 0, .int (-1), .int 0, .int 0, .int 0, .int 0, .int 0, .int 0, .ref (u_7 13), .ref (u_7 14), .ref (u_7 15), .ref (u_7 16), .ref (u_7 17), .ref (u_7 18), .ref (u_7 19), .ref (u_7 20), .ref (u_7 21), .long 0]))] H := hP
      have hD : va_D A [((u_3 1), .inl (cy, 44, .inl (fun _ => 0))), ((u_7 0), .inl (cy, 44, .inl (fun _ => 0))), (q_1, .inr (11, [.ref (u_3 0), .ref (u_3 2), .ref (u_3 4), .ref (u_3 19), .ref (u_3 34), .ref (u_3 35), .null, .int 0, .int 0, .int 0])), ((u_3 0), .inr (6, [.ref (u_3 1), .int 0])), ((u_3 4), .inr (2, [.ref (u_3 5), .ref (u_3 10), .ref (u_3 15), .int 0, .int 0, .int 0])), ((u_3 5), .inr (8, [.ref (u_3 6), .ref (u_3 7), .ref (u_3 8), .ref (u_3 9), .int 0])), ((u_3 10), .inr (8, [.ref (u_3 11), .ref (u_3 12), .ref (u_3 13), .ref (u_3 14), .int 0])), ((u_3 15), .inr (4, [.ref (u_3 16), .ref (u_3 17), .ref (u_3 18), .int 0])), (q_5, .inr (12, [.ref (u_7 0), .int 0, .int 0, .int 0, .int 0, .int 0, .int 0, .int 0, .ref (u_7 1), .ref (u_7 2), .ref (u_7 3), .ref (u_7 4), .int 0, .ref (u_7 5), .ref (u_7 6), .ref (u_7 7), .ref (u_7 8), .int 0, .int 0, .int 0, .int 0, .ref (u_7 9), .ref (u_7 10), .int 0, .ref (u_7 11), .ref (u_7 12), .int 0, .int (-1), .int 0, .int 0, .int 0, .int 0, .int 0, .int 0, .ref (u_7 13), .ref (u_7 14), .ref (u_7 15), .ref (u_7 16), .ref (u_7 17), .ref (u_7 18), .ref (u_7 19), .ref (u_7 20), .ref (u_7 21), .long 0]))] := hD
      refine lv_icmp_eq (tgt := 828) hx hb dL_law_809 (by decide) (fun c_220 => ?_) (fun c_220 => absurd rfl c_220)
      refine lv_iinc (v := 4) (lv' := [(3, .int 4), (2, .ref q_5), (1, .ref q_1), (0, .ref b)]) hx hb dL_law_828 hl (k := 0) rfl (by decide) (by decide) rfl (fun ls hl => ?_)
      refine lv_goto (tgt := 18) hx hb dL_law_831 (by decide) ?_
      refine lv_iload_n hx hb dL_law_18 rfl (lv_at hl 0 rfl) ?_
      refine lv_aload_n hx hb dL_law_19 rfl (lv_at hl 3 rfl) ?_
      refine va_slen hx hb hX hbl hbA hS dL_law_20 ?_
      refine wk_toi (y := 4) rfl ?_
      refine lv_iconst (v := 4) hx hb dL_law_21 (by decide) ?_
      refine lv_isub hx hb dL_law_22 ?_
      refine wk_toi (show ((4 - 4) : Int32) = 0 by decide) ?_
      refine lv_icmp_gt (tgt := 834) hx hb dL_law_23 (by decide) (fun _ => ?_) (fun c_221 => absurd (by decide) c_221)
      refine lv_iconst (v := 1) hx hb dL_law_834 (by decide) ?_
      refine va_forget (fun q hq => by have h9 := hS.2.2 q hq; rw [hAe] at h9; exact h9) ?_
      refine W.widen (k := 600000) (n := 7302250) (by decide) (by decide) ?_
      exact lw_ret hx hb hr hlocks dL_law_835
    · refine wk_toi (show nI 26 = 26 from rfl) ?_
      refine lv_tableIn (off := 782) (tgt := 814) hx hb dL_law_32 (by decide) (by decide) (by decide) (by decide) ?_
      refine lv_aload_n hx hb dL_law_814 rfl (lv_at hl 2 rfl) ?_
      refine wk_lV (As := []) (rest := []) (wc := [(q_1, .inr (11, [.ref (u_3 0), .ref (u_3 2), .ref (u_3 4), .ref (u_3 19), .ref (u_3 34), .ref (u_3 35), .null, .int 0, .int 0, .int 0])), ((u_3 0), .inr (6, [.ref (u_3 1), .int 0])), ((u_3 4), .inr (2, [.ref (u_3 5), .ref (u_3 10), .ref (u_3 15), .int 0, .int 0, .int 0])), ((u_3 5), .inr (8, [.ref (u_3 6), .ref (u_3 7), .ref (u_3 8), .ref (u_3 9), .int 0])), ((u_3 10), .inr (8, [.ref (u_3 11), .ref (u_3 12), .ref (u_3 13), .ref (u_3 14), .int 0])), ((u_3 15), .inr (4, [.ref (u_3 16), .ref (u_3 17), .ref (u_3 18), .int 0]))]) (wr := [((u_3 1), .inl (cy, 44, .inl (fun _ => 0))), (q_5, .inr (12, [.ref (u_7 0), .int 0, .int 0, .int 0, .int 0, .int 0, .int 0, .int 0, .ref (u_7 1), .ref (u_7 2), .ref (u_7 3), .ref (u_7 4), .int 0, .ref (u_7 5), .ref (u_7 6), .ref (u_7 7), .ref (u_7 8), .int 0, .int 0, .int 0, .int 0, .ref (u_7 9), .ref (u_7 10), .int 0, .ref (u_7 11), .ref (u_7 12), .int 0, .int (-1), .int 0, .int 0, .int 0, .int 0, .int 0, .int 0, .ref (u_7 13), .ref (u_7 14), .ref (u_7 15), .ref (u_7 16), .ref (u_7 17), .ref (u_7 18), .ref (u_7 19), .ref (u_7 20), .ref (u_7 21), .long 0])), ((u_7 0), .inl (cy, 44, .inl (fun _ => 0)))]) (n := 0) (R := _) ⟨hx, hb, hml, hown, htb⟩ (c_X11_digest l D cy q_1 (u_3 0) (u_3 2) (u_3 4) (u_3 19) (u_3 34) (u_3 35) (u_3 1) (u_3 5) (u_3 10) (u_3 15) (u_3 6) (u_3 7) (u_3 8) (u_3 9) (u_3 11) (u_3 12) (u_3 13) (u_3 14) (u_3 16) (u_3 17) (u_3 18)  ) tw_734 tw_731 tw_732 tw_733 tw_64 rfl rfl (by decide +kernel) ⟨Nat.le_of_ble_eq_true rfl, Nat.le_of_ble_eq_true rfl⟩ hK hP hD hS hA [0, 1, 3, 4, 5, 6] [2, 7, 8] rfl rfl rfl rfl (by decide) 0 (ci := 11) rfl rfl rfl hl.1 rfl (Nat.le_of_ble_eq_true rfl) dL_law_815 ⟨Nat.le_of_ble_eq_true rfl, Nat.le_of_ble_eq_true rfl⟩ (fun r_222 u_223 H locs hw_224 hP hD hS => ?_)
      refine W.widen (k := 64) (n := 614) (by decide) (by decide) ?_
      have hw_224 : r_222 = (-8242179974112640543) := hw_224
      subst hw_224
      have hP : va_P D classes [((u_3 1), .inl (cy, 44, .inl (fun _ => 0))), (q_5, .inr (12, [.ref (u_7 0), .int 0, .int 0, .int 0, .int 0, .int 0, .int 0, .int 0, .ref (u_7 1), .ref (u_7 2), .ref (u_7 3), .ref (u_7 4), .int 0, .ref (u_7 5), .ref (u_7 6), .ref (u_7 7), .ref (u_7 8), .int 0, .int 0, .int 0, .int 0, .ref (u_7 9), .ref (u_7 10), .int 0, .ref (u_7 11), .ref (u_7 12), .int 0, .int (-1), .int 0, .int 0, .int 0, .int 0, .int 0, .int 0, .ref (u_7 13), .ref (u_7 14), .ref (u_7 15), .ref (u_7 16), .ref (u_7 17), .ref (u_7 18), .ref (u_7 19), .ref (u_7 20), .ref (u_7 21), .long 0])), ((u_7 0), .inl (cy, 44, .inl (fun _ => 0))), (q_1, .inr (11, [.ref (u_3 0), .ref (u_3 2), .ref (u_3 4), .ref (u_3 19), .ref (u_3 34), .ref (u_3 35), .null, .int 0, .int 0, .int 0])), ((u_3 0), .inr (6, [.ref (u_3 1), .int 0])), ((u_3 4), .inr (2, [.ref (u_3 5), .ref (u_3 10), .ref (u_3 15), .int 0, .int 0, .int 0])), ((u_3 5), .inr (8, [.ref (u_3 6), .ref (u_3 7), .ref (u_3 8), .ref (u_3 9), .int 0])), ((u_3 10), .inr (8, [.ref (u_3 11), .ref (u_3 12), .ref (u_3 13), .ref (u_3 14), .int 0])), ((u_3 15), .inr (4, [.ref (u_3 16), .ref (u_3 17), .ref (u_3 18), .int 0]))] H := hP
      have hD : va_D A [((u_3 1), .inl (cy, 44, .inl (fun _ => 0))), (q_5, .inr (12, [.ref (u_7 0), .int 0, .int 0, .int 0, .int 0, .int 0, .int 0, .int 0, .ref (u_7 1), .ref (u_7 2), .ref (u_7 3), .ref (u_7 4), .int 0, .ref (u_7 5), .ref (u_7 6), .ref (u_7 7), .ref (u_7 8), .int 0, .int 0, .int 0, .int 0, .ref (u_7 9), .ref (u_7 10), .int 0, .ref (u_7 11), .ref (u_7 12), .int 0, .int (-1), .int 0, .int 0, .int 0, .int 0, .int 0, .int 0, .ref (u_7 13), .ref (u_7 14), .ref (u_7 15), .ref (u_7 16), .ref (u_7 17), .ref (u_7 18), .ref (u_7 19), .ref (u_7 20), .ref (u_7 21), .long 0])), ((u_7 0), .inl (cy, 44, .inl (fun _ => 0))), (q_1, .inr (11, [.ref (u_3 0), .ref (u_3 2), .ref (u_3 4), .ref (u_3 19), .ref (u_3 34), .ref (u_3 35), .null, .int 0, .int 0, .int 0])), ((u_3 0), .inr (6, [.ref (u_3 1), .int 0])), ((u_3 4), .inr (2, [.ref (u_3 5), .ref (u_3 10), .ref (u_3 15), .int 0, .int 0, .int 0])), ((u_3 5), .inr (8, [.ref (u_3 6), .ref (u_3 7), .ref (u_3 8), .ref (u_3 9), .int 0])), ((u_3 10), .inr (8, [.ref (u_3 11), .ref (u_3 12), .ref (u_3 13), .ref (u_3 14), .int 0])), ((u_3 15), .inr (4, [.ref (u_3 16), .ref (u_3 17), .ref (u_3 18), .int 0]))] := hD
      refine lv_aload_n hx hb dL_law_818 rfl (lv_at hl 1 rfl) ?_
      refine wk_lV (As := []) (rest := [.long (-8242179974112640543)]) (wc := [(q_5, .inr (12, [.ref (u_7 0), .int 0, .int 0, .int 0, .int 0, .int 0, .int 0, .int 0, .ref (u_7 1), .ref (u_7 2), .ref (u_7 3), .ref (u_7 4), .int 0, .ref (u_7 5), .ref (u_7 6), .ref (u_7 7), .ref (u_7 8), .int 0, .int 0, .int 0, .int 0, .ref (u_7 9), .ref (u_7 10), .int 0, .ref (u_7 11), .ref (u_7 12), .int 0, .int (-1), .int 0, .int 0, .int 0, .int 0, .int 0, .int 0, .ref (u_7 13), .ref (u_7 14), .ref (u_7 15), .ref (u_7 16), .ref (u_7 17), .ref (u_7 18), .ref (u_7 19), .ref (u_7 20), .ref (u_7 21), .long 0]))]) (wr := [((u_3 1), .inl (cy, 44, .inl (fun _ => 0))), ((u_7 0), .inl (cy, 44, .inl (fun _ => 0))), (q_1, .inr (11, [.ref (u_3 0), .ref (u_3 2), .ref (u_3 4), .ref (u_3 19), .ref (u_3 34), .ref (u_3 35), .null, .int 0, .int 0, .int 0])), ((u_3 0), .inr (6, [.ref (u_3 1), .int 0])), ((u_3 4), .inr (2, [.ref (u_3 5), .ref (u_3 10), .ref (u_3 15), .int 0, .int 0, .int 0])), ((u_3 5), .inr (8, [.ref (u_3 6), .ref (u_3 7), .ref (u_3 8), .ref (u_3 9), .int 0])), ((u_3 10), .inr (8, [.ref (u_3 11), .ref (u_3 12), .ref (u_3 13), .ref (u_3 14), .int 0])), ((u_3 15), .inr (4, [.ref (u_3 16), .ref (u_3 17), .ref (u_3 18), .int 0]))]) (n := 0) (R := _) ⟨hx, hb, hml, hown, htb⟩ (c_X12_digest l D cy q_5 (u_7 0) (u_7 1) (u_7 2) (u_7 3) (u_7 4) (u_7 5) (u_7 6) (u_7 7) (u_7 8) (u_7 9) (u_7 10) (u_7 11) (u_7 12) (u_7 13) (u_7 14) (u_7 15) (u_7 16) (u_7 17) (u_7 18) (u_7 19) (u_7 20) (u_7 21)  0) tw_1198 tw_1195 tw_1196 tw_1197 tw_71 rfl rfl (by decide +kernel) ⟨Nat.le_of_ble_eq_true rfl, Nat.le_of_ble_eq_true rfl⟩ hK hP hD hS hA [1] [0, 2, 3, 4, 5, 6, 7, 8] rfl rfl rfl rfl (by decide) 0 (ci := 12) rfl rfl rfl hl.1 rfl (Nat.le_of_ble_eq_true rfl) dL_law_819 ⟨Nat.le_of_ble_eq_true rfl, Nat.le_of_ble_eq_true rfl⟩ (fun r_225 u_226 H locs hw_227 hP hD hS => ?_)
      refine W.widen (k := 64) (n := 614) (by decide) (by decide) ?_
      have hw_227 : r_225 = (-8242179974112640543) := hw_227
      subst hw_227
      have hP : va_P D classes [((u_3 1), .inl (cy, 44, .inl (fun _ => 0))), ((u_7 0), .inl (cy, 44, .inl (fun _ => 0))), (q_1, .inr (11, [.ref (u_3 0), .ref (u_3 2), .ref (u_3 4), .ref (u_3 19), .ref (u_3 34), .ref (u_3 35), .null, .int 0, .int 0, .int 0])), ((u_3 0), .inr (6, [.ref (u_3 1), .int 0])), ((u_3 4), .inr (2, [.ref (u_3 5), .ref (u_3 10), .ref (u_3 15), .int 0, .int 0, .int 0])), ((u_3 5), .inr (8, [.ref (u_3 6), .ref (u_3 7), .ref (u_3 8), .ref (u_3 9), .int 0])), ((u_3 10), .inr (8, [.ref (u_3 11), .ref (u_3 12), .ref (u_3 13), .ref (u_3 14), .int 0])), ((u_3 15), .inr (4, [.ref (u_3 16), .ref (u_3 17), .ref (u_3 18), .int 0]))] H := hP
      have hD : va_D A [((u_3 1), .inl (cy, 44, .inl (fun _ => 0))), ((u_7 0), .inl (cy, 44, .inl (fun _ => 0))), (q_1, .inr (11, [.ref (u_3 0), .ref (u_3 2), .ref (u_3 4), .ref (u_3 19), .ref (u_3 34), .ref (u_3 35), .null, .int 0, .int 0, .int 0])), ((u_3 0), .inr (6, [.ref (u_3 1), .int 0])), ((u_3 4), .inr (2, [.ref (u_3 5), .ref (u_3 10), .ref (u_3 15), .int 0, .int 0, .int 0])), ((u_3 5), .inr (8, [.ref (u_3 6), .ref (u_3 7), .ref (u_3 8), .ref (u_3 9), .int 0])), ((u_3 10), .inr (8, [.ref (u_3 11), .ref (u_3 12), .ref (u_3 13), .ref (u_3 14), .int 0])), ((u_3 15), .inr (4, [.ref (u_3 16), .ref (u_3 17), .ref (u_3 18), .int 0]))] := hD
      refine W.lcmp hx hb dL_law_822 ?_
      refine wk_toi (show ((lg_cmp (-8242179974112640543) (-8242179974112640543)) : Int32) = 0 by decide) ?_
      refine lv_if_eq (tgt := 828) hx hb dL_law_823 (by decide) (fun _ => ?_) (fun c_228 => absurd (by decide) c_228)
      refine lv_iinc (v := 4) (lv' := [(3, .int 4), (2, .ref q_5), (1, .ref q_1), (0, .ref b)]) hx hb dL_law_828 hl (k := 0) rfl (by decide) (by decide) rfl (fun ls hl => ?_)
      refine lv_goto (tgt := 18) hx hb dL_law_831 (by decide) ?_
      refine lv_iload_n hx hb dL_law_18 rfl (lv_at hl 0 rfl) ?_
      refine lv_aload_n hx hb dL_law_19 rfl (lv_at hl 3 rfl) ?_
      refine va_slen hx hb hX hbl hbA hS dL_law_20 ?_
      refine wk_toi (y := 4) rfl ?_
      refine lv_iconst (v := 4) hx hb dL_law_21 (by decide) ?_
      refine lv_isub hx hb dL_law_22 ?_
      refine wk_toi (show ((4 - 4) : Int32) = 0 by decide) ?_
      refine lv_icmp_gt (tgt := 834) hx hb dL_law_23 (by decide) (fun _ => ?_) (fun c_229 => absurd (by decide) c_229)
      refine lv_iconst (v := 1) hx hb dL_law_834 (by decide) ?_
      refine va_forget (fun q hq => by have h9 := hS.2.2 q hq; rw [hAe] at h9; exact h9) ?_
      refine W.widen (k := 600000) (n := 7302250) (by decide) (by decide) ?_
      exact lw_ret hx hb hr hlocks dL_law_835
    · refine wk_toi (show nI 27 = 27 from rfl) ?_
      refine lv_tableOut (tgt := 828) hx hb dL_law_32 (by decide) (by decide) ?_
      refine lv_iinc (v := 4) (lv' := [(3, .int 4), (2, .ref q_5), (1, .ref q_1), (0, .ref b)]) hx hb dL_law_828 hl (k := 0) rfl (by decide) (by decide) rfl (fun ls hl => ?_)
      refine lv_goto (tgt := 18) hx hb dL_law_831 (by decide) ?_
      refine lv_iload_n hx hb dL_law_18 rfl (lv_at hl 0 rfl) ?_
      refine lv_aload_n hx hb dL_law_19 rfl (lv_at hl 3 rfl) ?_
      refine va_slen hx hb hX hbl hbA hS dL_law_20 ?_
      refine wk_toi (y := 4) rfl ?_
      refine lv_iconst (v := 4) hx hb dL_law_21 (by decide) ?_
      refine lv_isub hx hb dL_law_22 ?_
      refine wk_toi (show ((4 - 4) : Int32) = 0 by decide) ?_
      refine lv_icmp_gt (tgt := 834) hx hb dL_law_23 (by decide) (fun _ => ?_) (fun c_230 => absurd (by decide) c_230)
      refine lv_iconst (v := 1) hx hb dL_law_834 (by decide) ?_
      refine va_forget (fun q hq => by have h9 := hS.2.2 q hq; rw [hAe] at h9; exact h9) ?_
      refine W.widen (k := 600000) (n := 7302250) (by decide) (by decide) ?_
      exact lw_ret hx hb hr hlocks dL_law_835
    · refine wk_toi (show nI 28 = 28 from rfl) ?_
      refine lv_tableOut (tgt := 828) hx hb dL_law_32 (by decide) (by decide) ?_
      refine lv_iinc (v := 4) (lv' := [(3, .int 4), (2, .ref q_5), (1, .ref q_1), (0, .ref b)]) hx hb dL_law_828 hl (k := 0) rfl (by decide) (by decide) rfl (fun ls hl => ?_)
      refine lv_goto (tgt := 18) hx hb dL_law_831 (by decide) ?_
      refine lv_iload_n hx hb dL_law_18 rfl (lv_at hl 0 rfl) ?_
      refine lv_aload_n hx hb dL_law_19 rfl (lv_at hl 3 rfl) ?_
      refine va_slen hx hb hX hbl hbA hS dL_law_20 ?_
      refine wk_toi (y := 4) rfl ?_
      refine lv_iconst (v := 4) hx hb dL_law_21 (by decide) ?_
      refine lv_isub hx hb dL_law_22 ?_
      refine wk_toi (show ((4 - 4) : Int32) = 0 by decide) ?_
      refine lv_icmp_gt (tgt := 834) hx hb dL_law_23 (by decide) (fun _ => ?_) (fun c_231 => absurd (by decide) c_231)
      refine lv_iconst (v := 1) hx hb dL_law_834 (by decide) ?_
      refine va_forget (fun q hq => by have h9 := hS.2.2 q hq; rw [hAe] at h9; exact h9) ?_
      refine W.widen (k := 600000) (n := 7302250) (by decide) (by decide) ?_
      exact lw_ret hx hb hr hlocks dL_law_835
    · refine wk_toi (show nI 29 = 29 from rfl) ?_
      refine lv_tableOut (tgt := 828) hx hb dL_law_32 (by decide) (by decide) ?_
      refine lv_iinc (v := 4) (lv' := [(3, .int 4), (2, .ref q_5), (1, .ref q_1), (0, .ref b)]) hx hb dL_law_828 hl (k := 0) rfl (by decide) (by decide) rfl (fun ls hl => ?_)
      refine lv_goto (tgt := 18) hx hb dL_law_831 (by decide) ?_
      refine lv_iload_n hx hb dL_law_18 rfl (lv_at hl 0 rfl) ?_
      refine lv_aload_n hx hb dL_law_19 rfl (lv_at hl 3 rfl) ?_
      refine va_slen hx hb hX hbl hbA hS dL_law_20 ?_
      refine wk_toi (y := 4) rfl ?_
      refine lv_iconst (v := 4) hx hb dL_law_21 (by decide) ?_
      refine lv_isub hx hb dL_law_22 ?_
      refine wk_toi (show ((4 - 4) : Int32) = 0 by decide) ?_
      refine lv_icmp_gt (tgt := 834) hx hb dL_law_23 (by decide) (fun _ => ?_) (fun c_232 => absurd (by decide) c_232)
      refine lv_iconst (v := 1) hx hb dL_law_834 (by decide) ?_
      refine va_forget (fun q hq => by have h9 := hS.2.2 q hq; rw [hAe] at h9; exact h9) ?_
      refine W.widen (k := 600000) (n := 7302250) (by decide) (by decide) ?_
      exact lw_ret hx hb hr hlocks dL_law_835
    · refine wk_toi (show nI 30 = 30 from rfl) ?_
      refine lv_tableOut (tgt := 828) hx hb dL_law_32 (by decide) (by decide) ?_
      refine lv_iinc (v := 4) (lv' := [(3, .int 4), (2, .ref q_5), (1, .ref q_1), (0, .ref b)]) hx hb dL_law_828 hl (k := 0) rfl (by decide) (by decide) rfl (fun ls hl => ?_)
      refine lv_goto (tgt := 18) hx hb dL_law_831 (by decide) ?_
      refine lv_iload_n hx hb dL_law_18 rfl (lv_at hl 0 rfl) ?_
      refine lv_aload_n hx hb dL_law_19 rfl (lv_at hl 3 rfl) ?_
      refine va_slen hx hb hX hbl hbA hS dL_law_20 ?_
      refine wk_toi (y := 4) rfl ?_
      refine lv_iconst (v := 4) hx hb dL_law_21 (by decide) ?_
      refine lv_isub hx hb dL_law_22 ?_
      refine wk_toi (show ((4 - 4) : Int32) = 0 by decide) ?_
      refine lv_icmp_gt (tgt := 834) hx hb dL_law_23 (by decide) (fun _ => ?_) (fun c_233 => absurd (by decide) c_233)
      refine lv_iconst (v := 1) hx hb dL_law_834 (by decide) ?_
      refine va_forget (fun q hq => by have h9 := hS.2.2 q hq; rw [hAe] at h9; exact h9) ?_
      refine W.widen (k := 600000) (n := 7302250) (by decide) (by decide) ?_
      exact lw_ret hx hb hr hlocks dL_law_835
    · refine wk_toi (show nI 31 = 31 from rfl) ?_
      refine lv_tableOut (tgt := 828) hx hb dL_law_32 (by decide) (by decide) ?_
      refine lv_iinc (v := 4) (lv' := [(3, .int 4), (2, .ref q_5), (1, .ref q_1), (0, .ref b)]) hx hb dL_law_828 hl (k := 0) rfl (by decide) (by decide) rfl (fun ls hl => ?_)
      refine lv_goto (tgt := 18) hx hb dL_law_831 (by decide) ?_
      refine lv_iload_n hx hb dL_law_18 rfl (lv_at hl 0 rfl) ?_
      refine lv_aload_n hx hb dL_law_19 rfl (lv_at hl 3 rfl) ?_
      refine va_slen hx hb hX hbl hbA hS dL_law_20 ?_
      refine wk_toi (y := 4) rfl ?_
      refine lv_iconst (v := 4) hx hb dL_law_21 (by decide) ?_
      refine lv_isub hx hb dL_law_22 ?_
      refine wk_toi (show ((4 - 4) : Int32) = 0 by decide) ?_
      refine lv_icmp_gt (tgt := 834) hx hb dL_law_23 (by decide) (fun _ => ?_) (fun c_234 => absurd (by decide) c_234)
      refine lv_iconst (v := 1) hx hb dL_law_834 (by decide) ?_
      refine va_forget (fun q hq => by have h9 := hS.2.2 q hq; rw [hAe] at h9; exact h9) ?_
      refine W.widen (k := 600000) (n := 7302250) (by decide) (by decide) ?_
      exact lw_ret hx hb hr hlocks dL_law_835
