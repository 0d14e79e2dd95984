set_option maxRecDepth 100000 in
set_option maxHeartbeats 4000000 in
theorem j_L_law_s_J244 {l : Launch} {g : Gt} {b u : Nat} (hl : l.stackTraces = false) (hu : u ≤ 2090) {μ : Mm} {ν : Mm} {o : Nat → Int64} {dd : Nat → UInt64} {Ls : Nat} {xs : Nat → Int32} {kb28 : (Int32 → Mm → Mm → (Nat → Int64) → (Nat → UInt64) → Option Unit)} {x5 : Int32}  {res : Unit} (hb28 : ∀ (v5 : Int32) (μ' : Mm) (ν' : Mm) (o' : Nat → Int64) (dd' : Nat → UInt64), kb28 v5 μ' ν' o' dd' = some res → E l g z_L_law 28 [(0, .ref b), (1, .ref (gaC g 0)), (2, .ref (gaM g 0)), (3, .ref (gao g 0)), (4, .ref (gao g 1)), (5, .int v5)] [] (μ', ν', o', dd') (u + 4) (Qlaw g b Ls xs)) (hf : f_L_law_s_J244 Ls xs kb28 x5 μ ν o dd = some res) : E l g z_L_law 244 [(0, .ref b), (1, .ref (gaC g 0)), (2, .ref (gaM g 0)), (3, .ref (gao g 0)), (4, .ref (gao g 1)), (5, .int x5)] [] (μ, ν, o, dd) (u + 0) (Qlaw g b Ls xs) := by
  unfold f_L_law_s_J244 at hf
  refine E_aload_n 245 1 dL_law_244 rfl rfl rfl ?_
  refine E_aload_n 246 0 dL_law_245 rfl rfl rfl ?_
  refine E_iload 248 5 dL_law_246 rfl rfl ?_
  refine E_iconst 249 1 dL_law_248 cst_iconst1 rfl ?_
  refine E_iadd 250 dL_law_249 rfl ?_
  obtain ⟨h4, hf⟩ := chk_some hf
  refine E_sld 251 h4 dL_law_250 rfl ?_
  refine E_i2c 252 dL_law_251 rfl ?_
  refine E_aload_n 253 3 dL_law_252 rfl rfl rfl ?_
  obtain ⟨r5, hc6, hf⟩ := bnd hf
  refine E_callH1 256 (u + 1) [] [.int r5.1] (c_L_open_0_o hl hc6) my_L_open kl_L_157 rfl rfl (Nat.le_of_ble_eq_true rfl) (rmlaw (by omega) rfl) dL_law_253 rfl rfl rfl ?_
  refine E_istore 258 [(6, .int r5.1), (0, .ref b), (1, .ref (gaC g 0)), (2, .ref (gaM g 0)), (3, .ref (gao g 0)), (4, .ref (gao g 1)), (5, .int x5)] dL_law_256 (by decide) rfl rfl ?_
  refine E_aload_n 259 3 dL_law_258 rfl rfl rfl ?_
  refine E_aload_n 260 1 dL_law_259 rfl rfl rfl ?_
  refine E_iload 262 6 dL_law_260 rfl rfl ?_
  refine E_iconst 263 1 dL_law_262 cst_iconst1 rfl ?_
  refine E_iadd 264 dL_law_263 rfl ?_
  obtain ⟨h7, hf⟩ := chk_some hf
  refine E_sld 265 h7 dL_law_264 rfl ?_
  refine E_i2c 266 dL_law_265 rfl ?_
  obtain ⟨r8, hc9, hf⟩ := bnd hf
  refine E_callVM1 269 (u + 1) [] [.int r8.1] (c_X8_open hl hc9) my_X8_open rc_X8 kl_L_162 rfl rfl (Nat.le_of_ble_eq_true rfl) (rmlaw (by omega) rfl) dL_law_266 rfl rfl rfl ?_
  refine E_istore 271 [(7, .int r8.1), (6, .int r5.1), (0, .ref b), (1, .ref (gaC g 0)), (2, .ref (gaM g 0)), (3, .ref (gao g 0)), (4, .ref (gao g 1)), (5, .int x5)] dL_law_269 (by decide) rfl rfl ?_
  refine E_aload_n 272 4 dL_law_271 rfl rfl rfl ?_
  obtain ⟨r10, hc11, hf⟩ := bnd hf
  refine E_callVM1 275 (u + 1) [] [.int r10] (c_X8_thrown hl hc11) my_X8_thrown rc_X8 kl_L_163 rfl rfl (Nat.le_of_ble_eq_true rfl) (rmlaw (by omega) rfl) dL_law_272 rfl rfl rfl ?_
  refine E_iload 277 1 dL_law_275 rfl rfl ?_
  refine E_icmp_eq 282 280 dL_law_277 (by decide) rfl (fun c12 => ?_) (fun c12 => ?_)
  · have hf := ite_t c12 hf
    refine E_iload 284 1 dL_law_282 rfl rfl ?_
    refine E_if_ne 299 287 dL_law_284 (by decide) rfl (fun c13 => ?_) (fun c13 => ?_)
    · have hf := ite_e c13 hf
      refine E_goto 2972 dL_law_299 (by decide) ?_
      refine E_iinc 2975 [(5, .int (x5 + 5)), (7, .int r8.1), (6, .int r5.1), (0, .ref b), (1, .ref (gaC g 0)), (2, .ref (gaM g 0)), (3, .ref (gao g 0)), (4, .ref (gao g 1))] 7 (v := x5 + 5) dL_law_2972 rfl (by rw [cst_iconst5]) (by decide) rfl rfl ?_
      refine E_goto 28 dL_law_2975 (by decide) ?_
      refine E_sub [3, 4, 5, 6, 7, 0] rfl ?_
      refine E_up (u' := u + 4) (by omega) ?_
      exact hb28 (x5 + 5) r5.2.1 r8.2 r5.2.2 dd hf
    · have hf := ite_t c13 hf
      refine E_aload_n 288 5 dL_law_287 rfl rfl rfl ?_
      refine E_iconst 289 0 dL_law_288 cst_iconst0 rfl ?_
      obtain ⟨h14, hf⟩ := chk_some hf
      refine E_lald 290 h14 dL_law_289 rfl ?_
      refine E_iload 292 0 dL_law_290 rfl rfl ?_
      refine E_i2l 293 dL_law_292 rfl ?_
      refine E_lcmp 294 dL_law_293 rfl ?_
      refine E_if_eq 299 297 dL_law_294 (by decide) rfl (fun c15 => ?_) (fun c15 => ?_)
      · have hf := ite_t c15 hf
        refine E_goto 2972 dL_law_299 (by decide) ?_
        refine E_iinc 2975 [(5, .int (x5 + 5)), (7, .int r8.1), (6, .int r5.1), (0, .ref b), (1, .ref (gaC g 0)), (2, .ref (gaM g 0)), (3, .ref (gao g 0)), (4, .ref (gao g 1))] 7 (v := x5 + 5) dL_law_2972 rfl (by rw [cst_iconst5]) (by decide) rfl rfl ?_
        refine E_goto 28 dL_law_2975 (by decide) ?_
        refine E_sub [3, 4, 5, 6, 7, 0] rfl ?_
        refine E_up (u' := u + 4) (by omega) ?_
        exact hb28 (x5 + 5) r5.2.1 r8.2 r5.2.2 dd hf
      · have hf := ite_e c15 hf
        refine E_iconst 298 0 dL_law_297 cst_iconst0 rfl ?_
        cases hf
  · have hf := ite_e c12 hf
    refine E_iconst 281 0 dL_law_280 cst_iconst0 rfl ?_
    cases hf
set_option maxRecDepth 100000 in
set_option maxHeartbeats 4000000 in
theorem j_L_law_s_J350 {l : Launch} {g : Gt} {b u : Nat} (hl : l.stackTraces = false) (hu : u ≤ 2090) {μ : Mm} {ν : Mm} {o : Nat → Int64} {dd : Nat → UInt64} {Ls : Nat} {xs : Nat → Int32} {kb28 : (Int32 → Mm → Mm → (Nat → Int64) → (Nat → UInt64) → Option Unit)} {x5 : Int32} {x6 : Int32} {s0 : Int32} {s1 : Int32} {res : Unit} (hb28 : ∀ (v5 : Int32) (μ' : Mm) (ν' : Mm) (o' : Nat → Int64) (dd' : Nat → UInt64), kb28 v5 μ' ν' o' dd' = some res → E l g z_L_law 28 [(0, .ref b), (1, .ref (gaC g 0)), (2, .ref (gaM g 0)), (3, .ref (gao g 0)), (4, .ref (gao g 1)), (5, .int v5)] [] (μ', ν', o', dd') (u + 4) (Qlaw g b Ls xs)) (hf : f_L_law_s_J350 Ls xs kb28 x5 x6 s0 s1 μ ν o dd = some res) : E l g z_L_law 350 [(0, .ref b), (1, .ref (gaC g 0)), (2, .ref (gaM g 0)), (3, .ref (gao g 0)), (4, .ref (gao g 1)), (5, .int x5), (6, .int x6)] [.int s0, .int s1, .ref (gaM g 0)] (μ, ν, o, dd) (u + 1) (Qlaw g b Ls xs) := by
  unfold f_L_law_s_J350 at hf
  obtain ⟨r24, hc25, hf⟩ := bnd hf
  refine E_callVM1 353 (u + 1) [] [.int r24.1] (c_X8_setMarked hl hc25) my_X8_setMarked rc_X8 kl_L_169 rfl rfl (Nat.le_of_ble_eq_true rfl) (rmlaw (by omega) rfl) dL_law_350 rfl rfl rfl ?_
  refine E_istore 355 [(7, .int r24.1), (0, .ref b), (1, .ref (gaC g 0)), (2, .ref (gaM g 0)), (3, .ref (gao g 0)), (4, .ref (gao g 1)), (5, .int x5), (6, .int x6)] dL_law_353 (by decide) rfl rfl ?_
  refine E_aload_n 356 3 dL_law_355 rfl rfl rfl ?_
  obtain ⟨r26, hc27, hf⟩ := bnd hf
  refine E_callVM1 359 (u + 1) [] [.int r26] (c_X8_thrown hl hc27) my_X8_thrown rc_X8 kl_L_163 rfl rfl (Nat.le_of_ble_eq_true rfl) (rmlaw (by omega) rfl) dL_law_356 rfl rfl rfl ?_
  refine E_iload 361 7 dL_law_359 rfl rfl ?_
  refine E_icmp_eq 366 364 dL_law_361 (by decide) rfl (fun c28 => ?_) (fun c28 => ?_)
  · have hf := ite_t c28 hf
    refine E_iload 368 7 dL_law_366 rfl rfl ?_
    refine E_if_ne 390 371 dL_law_368 (by decide) rfl (fun c29 => ?_) (fun c29 => ?_)
    · have hf := ite_e c29 hf
      refine E_goto 2972 dL_law_390 (by decide) ?_
      refine E_iinc 2975 [(5, .int (x5 + 5)), (7, .int r24.1), (0, .ref b), (1, .ref (gaC g 0)), (2, .ref (gaM g 0)), (3, .ref (gao g 0)), (4, .ref (gao g 1)), (6, .int x6)] 6 (v := x5 + 5) dL_law_2972 rfl (by rw [cst_iconst5]) (by decide) rfl rfl ?_
      refine E_goto 28 dL_law_2975 (by decide) ?_
      refine E_sub [2, 3, 4, 5, 6, 0] rfl ?_
      refine E_up (u' := u + 4) (by omega) ?_
      exact hb28 (x5 + 5) μ r24.2 o dd hf
    · have hf := ite_t c29 hf
      refine E_aload_n 372 4 dL_law_371 rfl rfl rfl ?_
      refine E_iconst 373 0 dL_law_372 cst_iconst0 rfl ?_
      obtain ⟨h30, hf⟩ := chk_some hf
      refine E_lald 374 h30 dL_law_373 rfl ?_
      refine E_iload 376 0 dL_law_374 rfl rfl ?_
      refine E_if_eq 383 379 dL_law_376 (by decide) rfl (fun c31 => ?_) (fun c31 => ?_)
      · have hf := ite_t c31 hf
        refine E_lconst 384 0 dL_law_383 (by decide) rfl ?_
        refine E_lcmp 385 dL_law_384 rfl ?_
        refine E_if_eq 390 388 dL_law_385 (by decide) rfl (fun c32 => ?_) (fun c32 => ?_)
        · have hf := ite_t c32 hf
          refine E_goto 2972 dL_law_390 (by decide) ?_
          refine E_iinc 2975 [(5, .int (x5 + 5)), (7, .int r24.1), (0, .ref b), (1, .ref (gaC g 0)), (2, .ref (gaM g 0)), (3, .ref (gao g 0)), (4, .ref (gao g 1)), (6, .int x6)] 6 (v := x5 + 5) dL_law_2972 rfl (by rw [cst_iconst5]) (by decide) rfl rfl ?_
          refine E_goto 28 dL_law_2975 (by decide) ?_
          refine E_sub [2, 3, 4, 5, 6, 0] rfl ?_
          refine E_up (u' := u + 4) (by omega) ?_
          exact hb28 (x5 + 5) μ r24.2 o dd hf
        · have hf := ite_e c32 hf
          refine E_iconst 389 0 dL_law_388 cst_iconst0 rfl ?_
          cases hf
      · have hf := ite_e c31 hf
        refine E_lconst 380 1 dL_law_379 (by decide) rfl ?_
        refine E_goto 384 dL_law_380 (by decide) ?_
        refine E_lcmp 385 dL_law_384 rfl ?_
        refine E_if_eq 390 388 dL_law_385 (by decide) rfl (fun c33 => ?_) (fun c33 => ?_)
        · have hf := ite_t c33 hf
          refine E_goto 2972 dL_law_390 (by decide) ?_
          refine E_iinc 2975 [(5, .int (x5 + 5)), (7, .int r24.1), (0, .ref b), (1, .ref (gaC g 0)), (2, .ref (gaM g 0)), (3, .ref (gao g 0)), (4, .ref (gao g 1)), (6, .int x6)] 6 (v := x5 + 5) dL_law_2972 rfl (by rw [cst_iconst5]) (by decide) rfl rfl ?_
          refine E_goto 28 dL_law_2975 (by decide) ?_
          refine E_sub [2, 3, 4, 5, 6, 0] rfl ?_
          refine E_up (u' := u + 4) (by omega) ?_
          exact hb28 (x5 + 5) μ r24.2 o dd hf
        · have hf := ite_e c33 hf
          refine E_iconst 389 0 dL_law_388 cst_iconst0 rfl ?_
          cases hf
  · have hf := ite_e c28 hf
    refine E_iconst 365 0 dL_law_364 cst_iconst0 rfl ?_
    cases hf
set_option maxRecDepth 100000 in
set_option maxHeartbeats 4000000 in
theorem j_L_law_s_J323 {l : Launch} {g : Gt} {b u : Nat} (hl : l.stackTraces = false) (hu : u ≤ 2090) {μ : Mm} {ν : Mm} {o : Nat → Int64} {dd : Nat → UInt64} {Ls : Nat} {xs : Nat → Int32} {kb28 : (Int32 → Mm → Mm → (Nat → Int64) → (Nat → UInt64) → Option Unit)} {x5 : Int32} {s0 : Int32} {s1 : Int32} {res : Unit} (hb28 : ∀ (v5 : Int32) (μ' : Mm) (ν' : Mm) (o' : Nat → Int64) (dd' : Nat → UInt64), kb28 v5 μ' ν' o' dd' = some res → E l g z_L_law 28 [(0, .ref b), (1, .ref (gaC g 0)), (2, .ref (gaM g 0)), (3, .ref (gao g 0)), (4, .ref (gao g 1)), (5, .int v5)] [] (μ', ν', o', dd') (u + 4) (Qlaw g b Ls xs)) (hf : f_L_law_s_J323 Ls xs kb28 x5 s0 s1 μ ν o dd = some res) : E l g z_L_law 323 [(0, .ref b), (1, .ref (gaC g 0)), (2, .ref (gaM g 0)), (3, .ref (gao g 0)), (4, .ref (gao g 1)), (5, .int x5)] [.int s0, .int s1, .ref (gaC g 0)] (μ, ν, o, dd) (u + 0) (Qlaw g b Ls xs) := by
  unfold f_L_law_s_J323 at hf
  refine E_aload_n 324 3 dL_law_323 rfl rfl rfl ?_
  obtain ⟨r19, hc20, hf⟩ := bnd hf
  refine E_callH1 327 (u + 1) [] [.int r19.1] (c_L_setMarked_0_o hl hc20) my_L_setMarked kl_L_166 rfl rfl (Nat.le_of_ble_eq_true rfl) (rmlaw (by omega) rfl) dL_law_324 rfl rfl rfl ?_
  refine E_istore 329 [(6, .int r19.1), (0, .ref b), (1, .ref (gaC g 0)), (2, .ref (gaM g 0)), (3, .ref (gao g 0)), (4, .ref (gao g 1)), (5, .int x5)] dL_law_327 (by decide) rfl rfl ?_
  refine E_aload_n 330 3 dL_law_329 rfl rfl rfl ?_
  refine E_aload_n 331 1 dL_law_330 rfl rfl rfl ?_
  refine E_iload 333 6 dL_law_331 rfl rfl ?_
  refine E_iconst 334 1 dL_law_333 cst_iconst1 rfl ?_
  refine E_iadd 335 dL_law_334 rfl ?_
  obtain ⟨h21, hf⟩ := chk_some hf
  refine E_sld 336 h21 dL_law_335 rfl ?_
  refine E_aload_n 337 1 dL_law_336 rfl rfl rfl ?_
  refine E_iload 339 6 dL_law_337 rfl rfl ?_
  refine E_iconst 340 2 dL_law_339 cst_iconst2 rfl ?_
  refine E_iadd 341 dL_law_340 rfl ?_
  obtain ⟨h22, hf⟩ := chk_some hf
  refine E_sld 342 h22 dL_law_341 rfl ?_
  refine E_if_eq 349 345 dL_law_342 (by decide) rfl (fun c23 => ?_) (fun c23 => ?_)
  · have hf := ite_t c23 hf
    refine E_iconst 350 0 dL_law_349 cst_iconst0 rfl ?_
    refine E_sub [1, 2, 3, 4, 5, 6, 0] rfl ?_
    exact j_L_law_s_J350 hl hu hb28 hf
  · have hf := ite_e c23 hf
    refine E_iconst 346 1 dL_law_345 cst_iconst1 rfl ?_
    refine E_goto 350 dL_law_346 (by decide) ?_
    refine E_sub [1, 2, 3, 4, 5, 6, 0] rfl ?_
    exact j_L_law_s_J350 hl hu hb28 hf
set_option maxRecDepth 100000 in
set_option maxHeartbeats 4000000 in
theorem j_L_law_s_J302 {l : Launch} {g : Gt} {b u : Nat} (hl : l.stackTraces = false) (hu : u ≤ 2090) {μ : Mm} {ν : Mm} {o : Nat → Int64} {dd : Nat → UInt64} {Ls : Nat} {xs : Nat → Int32} {kb28 : (Int32 → Mm → Mm → (Nat → Int64) → (Nat → UInt64) → Option Unit)} {x5 : Int32}  {res : Unit} (hb28 : ∀ (v5 : Int32) (μ' : Mm) (ν' : Mm) (o' : Nat → Int64) (dd' : Nat → UInt64), kb28 v5 μ' ν' o' dd' = some res → E l g z_L_law 28 [(0, .ref b), (1, .ref (gaC g 0)), (2, .ref (gaM g 0)), (3, .ref (gao g 0)), (4, .ref (gao g 1)), (5, .int v5)] [] (μ', ν', o', dd') (u + 4) (Qlaw g b Ls xs)) (hf : f_L_law_s_J302 Ls xs kb28 x5 μ ν o dd = some res) : E l g z_L_law 302 [(0, .ref b), (1, .ref (gaC g 0)), (2, .ref (gaM g 0)), (3, .ref (gao g 0)), (4, .ref (gao g 1)), (5, .int x5)] [] (μ, ν, o, dd) (u + 0) (Qlaw g b Ls xs) := by
  unfold f_L_law_s_J302 at hf
  refine E_aload_n 303 1 dL_law_302 rfl rfl rfl ?_
  refine E_aload_n 304 0 dL_law_303 rfl rfl rfl ?_
  refine E_iload 306 5 dL_law_304 rfl rfl ?_
  refine E_iconst 307 1 dL_law_306 cst_iconst1 rfl ?_
  refine E_iadd 308 dL_law_307 rfl ?_
  obtain ⟨h16, hf⟩ := chk_some hf
  refine E_sld 309 h16 dL_law_308 rfl ?_
  refine E_aload_n 310 0 dL_law_309 rfl rfl rfl ?_
  refine E_iload 312 5 dL_law_310 rfl rfl ?_
  refine E_iconst 313 2 dL_law_312 cst_iconst2 rfl ?_
  refine E_iadd 314 dL_law_313 rfl ?_
  obtain ⟨h17, hf⟩ := chk_some hf
  refine E_sld 315 h17 dL_law_314 rfl ?_
  refine E_if_eq 322 318 dL_law_315 (by decide) rfl (fun c18 => ?_) (fun c18 => ?_)
  · have hf := ite_t c18 hf
    refine E_iconst 323 0 dL_law_322 cst_iconst0 rfl ?_
    refine E_sub [0, 1, 2, 3, 4, 5] rfl ?_
    exact j_L_law_s_J323 hl hu hb28 hf
  · have hf := ite_e c18 hf
    refine E_iconst 319 1 dL_law_318 cst_iconst1 rfl ?_
    refine E_goto 323 dL_law_319 (by decide) ?_
    refine E_sub [0, 1, 2, 3, 4, 5] rfl ?_
    exact j_L_law_s_J323 hl hu hb28 hf
set_option maxRecDepth 100000 in
set_option maxHeartbeats 4000000 in
theorem j_L_law_s_J441 {l : Launch} {g : Gt} {b u : Nat} (hl : l.stackTraces = false) (hu : u ≤ 2090) {μ : Mm} {ν : Mm} {o : Nat → Int64} {dd : Nat → UInt64} {Ls : Nat} {xs : Nat → Int32} {kb28 : (Int32 → Mm → Mm → (Nat → Int64) → (Nat → UInt64) → Option Unit)} {x5 : Int32} {x6 : Int32} {s0 : Int32} {s1 : Int32} {res : Unit} (hb28 : ∀ (v5 : Int32) (μ' : Mm) (ν' : Mm) (o' : Nat → Int64) (dd' : Nat → UInt64), kb28 v5 μ' ν' o' dd' = some res → E l g z_L_law 28 [(0, .ref b), (1, .ref (gaC g 0)), (2, .ref (gaM g 0)), (3, .ref (gao g 0)), (4, .ref (gao g 1)), (5, .int v5)] [] (μ', ν', o', dd') (u + 4) (Qlaw g b Ls xs)) (hf : f_L_law_s_J441 Ls xs kb28 x5 x6 s0 s1 μ ν o dd = some res) : E l g z_L_law 441 [(0, .ref b), (1, .ref (gaC g 0)), (2, .ref (gaM g 0)), (3, .ref (gao g 0)), (4, .ref (gao g 1)), (5, .int x5), (6, .int x6)] [.int s0, .int s1, .ref (gaM g 0)] (μ, ν, o, dd) (u + 1) (Qlaw g b Ls xs) := by
  unfold f_L_law_s_J441 at hf
  obtain ⟨r42, hc43, hf⟩ := bnd hf
  refine E_callVM1 444 (u + 1) [] [.int r42.1] (c_X8_setBlocked hl hc43) my_X8_setBlocked rc_X8 kl_L_172 rfl rfl (Nat.le_of_ble_eq_true rfl) (rmlaw (by omega) rfl) dL_law_441 rfl rfl rfl ?_
  refine E_istore 446 [(7, .int r42.1), (0, .ref b), (1, .ref (gaC g 0)), (2, .ref (gaM g 0)), (3, .ref (gao g 0)), (4, .ref (gao g 1)), (5, .int x5), (6, .int x6)] dL_law_444 (by decide) rfl rfl ?_
  refine E_aload_n 447 3 dL_law_446 rfl rfl rfl ?_
  obtain ⟨r44, hc45, hf⟩ := bnd hf
  refine E_callVM1 450 (u + 1) [] [.int r44] (c_X8_thrown hl hc45) my_X8_thrown rc_X8 kl_L_163 rfl rfl (Nat.le_of_ble_eq_true rfl) (rmlaw (by omega) rfl) dL_law_447 rfl rfl rfl ?_
  refine E_iload 452 7 dL_law_450 rfl rfl ?_
  refine E_icmp_eq 457 455 dL_law_452 (by decide) rfl (fun c46 => ?_) (fun c46 => ?_)
  · have hf := ite_t c46 hf
    refine E_iload 459 7 dL_law_457 rfl rfl ?_
    refine E_if_ne 481 462 dL_law_459 (by decide) rfl (fun c47 => ?_) (fun c47 => ?_)
    · have hf := ite_e c47 hf
      refine E_goto 2972 dL_law_481 (by decide) ?_
      refine E_iinc 2975 [(5, .int (x5 + 5)), (7, .int r42.1), (0, .ref b), (1, .ref (gaC g 0)), (2, .ref (gaM g 0)), (3, .ref (gao g 0)), (4, .ref (gao g 1)), (6, .int x6)] 6 (v := x5 + 5) dL_law_2972 rfl (by rw [cst_iconst5]) (by decide) rfl rfl ?_
      refine E_goto 28 dL_law_2975 (by decide) ?_
      refine E_sub [2, 3, 4, 5, 6, 0] rfl ?_
      refine E_up (u' := u + 4) (by omega) ?_
      exact hb28 (x5 + 5) μ r42.2 o dd hf
    · have hf := ite_t c47 hf
      refine E_aload_n 463 4 dL_law_462 rfl rfl rfl ?_
      refine E_iconst 464 0 dL_law_463 cst_iconst0 rfl ?_
      obtain ⟨h48, hf⟩ := chk_some hf
      refine E_lald 465 h48 dL_law_464 rfl ?_
      refine E_iload 467 0 dL_law_465 rfl rfl ?_
      refine E_if_eq 474 470 dL_law_467 (by decide) rfl (fun c49 => ?_) (fun c49 => ?_)
      · have hf := ite_t c49 hf
        refine E_lconst 475 0 dL_law_474 (by decide) rfl ?_
        refine E_lcmp 476 dL_law_475 rfl ?_
        refine E_if_eq 481 479 dL_law_476 (by decide) rfl (fun c50 => ?_) (fun c50 => ?_)
        · have hf := ite_t c50 hf
          refine E_goto 2972 dL_law_481 (by decide) ?_
          refine E_iinc 2975 [(5, .int (x5 + 5)), (7, .int r42.1), (0, .ref b), (1, .ref (gaC g 0)), (2, .ref (gaM g 0)), (3, .ref (gao g 0)), (4, .ref (gao g 1)), (6, .int x6)] 6 (v := x5 + 5) dL_law_2972 rfl (by rw [cst_iconst5]) (by decide) rfl rfl ?_
          refine E_goto 28 dL_law_2975 (by decide) ?_
          refine E_sub [2, 3, 4, 5, 6, 0] rfl ?_
          refine E_up (u' := u + 4) (by omega) ?_
          exact hb28 (x5 + 5) μ r42.2 o dd hf
        · have hf := ite_e c50 hf
          refine E_iconst 480 0 dL_law_479 cst_iconst0 rfl ?_
          cases hf
      · have hf := ite_e c49 hf
        refine E_lconst 471 1 dL_law_470 (by decide) rfl ?_
        refine E_goto 475 dL_law_471 (by decide) ?_
        refine E_lcmp 476 dL_law_475 rfl ?_
        refine E_if_eq 481 479 dL_law_476 (by decide) rfl (fun c51 => ?_) (fun c51 => ?_)
        · have hf := ite_t c51 hf
          refine E_goto 2972 dL_law_481 (by decide) ?_
          refine E_iinc 2975 [(5, .int (x5 + 5)), (7, .int r42.1), (0, .ref b), (1, .ref (gaC g 0)), (2, .ref (gaM g 0)), (3, .ref (gao g 0)), (4, .ref (gao g 1)), (6, .int x6)] 6 (v := x5 + 5) dL_law_2972 rfl (by rw [cst_iconst5]) (by decide) rfl rfl ?_
          refine E_goto 28 dL_law_2975 (by decide) ?_
          refine E_sub [2, 3, 4, 5, 6, 0] rfl ?_
          refine E_up (u' := u + 4) (by omega) ?_
          exact hb28 (x5 + 5) μ r42.2 o dd hf
        · have hf := ite_e c51 hf
          refine E_iconst 480 0 dL_law_479 cst_iconst0 rfl ?_
          cases hf
  · have hf := ite_e c46 hf
    refine E_iconst 456 0 dL_law_455 cst_iconst0 rfl ?_
    cases hf
set_option maxRecDepth 100000 in
set_option maxHeartbeats 4000000 in
theorem j_L_law_s_J414 {l : Launch} {g : Gt} {b u : Nat} (hl : l.stackTraces = false) (hu : u ≤ 2090) {μ : Mm} {ν : Mm} {o : Nat → Int64} {dd : Nat → UInt64} {Ls : Nat} {xs : Nat → Int32} {kb28 : (Int32 → Mm → Mm → (Nat → Int64) → (Nat → UInt64) → Option Unit)} {x5 : Int32} {s0 : Int32} {s1 : Int32} {res : Unit} (hb28 : ∀ (v5 : Int32) (μ' : Mm) (ν' : Mm) (o' : Nat → Int64) (dd' : Nat → UInt64), kb28 v5 μ' ν' o' dd' = some res → E l g z_L_law 28 [(0, .ref b), (1, .ref (gaC g 0)), (2, .ref (gaM g 0)), (3, .ref (gao g 0)), (4, .ref (gao g 1)), (5, .int v5)] [] (μ', ν', o', dd') (u + 4) (Qlaw g b Ls xs)) (hf : f_L_law_s_J414 Ls xs kb28 x5 s0 s1 μ ν o dd = some res) : E l g z_L_law 414 [(0, .ref b), (1, .ref (gaC g 0)), (2, .ref (gaM g 0)), (3, .ref (gao g 0)), (4, .ref (gao g 1)), (5, .int x5)] [.int s0, .int s1, .ref (gaC g 0)] (μ, ν, o, dd) (u + 0) (Qlaw g b Ls xs) := by
  unfold f_L_law_s_J414 at hf
  refine E_aload_n 415 3 dL_law_414 rfl rfl rfl ?_
  obtain ⟨r37, hc38, hf⟩ := bnd hf
  refine E_callH1 418 (u + 1) [] [.int r37.1] (c_L_setBlocked_0_o hl hc38) my_L_setBlocked kl_L_170 rfl rfl (Nat.le_of_ble_eq_true rfl) (rmlaw (by omega) rfl) dL_law_415 rfl rfl rfl ?_
  refine E_istore 420 [(6, .int r37.1), (0, .ref b), (1, .ref (gaC g 0)), (2, .ref (gaM g 0)), (3, .ref (gao g 0)), (4, .ref (gao g 1)), (5, .int x5)] dL_law_418 (by decide) rfl rfl ?_
  refine E_aload_n 421 3 dL_law_420 rfl rfl rfl ?_
  refine E_aload_n 422 1 dL_law_421 rfl rfl rfl ?_
  refine E_iload 424 6 dL_law_422 rfl rfl ?_
  refine E_iconst 425 1 dL_law_424 cst_iconst1 rfl ?_
  refine E_iadd 426 dL_law_425 rfl ?_
  obtain ⟨h39, hf⟩ := chk_some hf
  refine E_sld 427 h39 dL_law_426 rfl ?_
  refine E_aload_n 428 1 dL_law_427 rfl rfl rfl ?_
  refine E_iload 430 6 dL_law_428 rfl rfl ?_
  refine E_iconst 431 2 dL_law_430 cst_iconst2 rfl ?_
  refine E_iadd 432 dL_law_431 rfl ?_
  obtain ⟨h40, hf⟩ := chk_some hf
  refine E_sld 433 h40 dL_law_432 rfl ?_
  refine E_if_eq 440 436 dL_law_433 (by decide) rfl (fun c41 => ?_) (fun c41 => ?_)
  · have hf := ite_t c41 hf
    refine E_iconst 441 0 dL_law_440 cst_iconst0 rfl ?_
    refine E_sub [1, 2, 3, 4, 5, 6, 0] rfl ?_
    exact j_L_law_s_J441 hl hu hb28 hf
  · have hf := ite_e c41 hf
    refine E_iconst 437 1 dL_law_436 cst_iconst1 rfl ?_
    refine E_goto 441 dL_law_437 (by decide) ?_
    refine E_sub [1, 2, 3, 4, 5, 6, 0] rfl ?_
    exact j_L_law_s_J441 hl hu hb28 hf
set_option maxRecDepth 100000 in
set_option maxHeartbeats 4000000 in
theorem j_L_law_s_J393 {l : Launch} {g : Gt} {b u : Nat} (hl : l.stackTraces = false) (hu : u ≤ 2090) {μ : Mm} {ν : Mm} {o : Nat → Int64} {dd : Nat → UInt64} {Ls : Nat} {xs : Nat → Int32} {kb28 : (Int32 → Mm → Mm → (Nat → Int64) → (Nat → UInt64) → Option Unit)} {x5 : Int32}  {res : Unit} (hb28 : ∀ (v5 : Int32) (μ' : Mm) (ν' : Mm) (o' : Nat → Int64) (dd' : Nat → UInt64), kb28 v5 μ' ν' o' dd' = some res → E l g z_L_law 28 [(0, .ref b), (1, .ref (gaC g 0)), (2, .ref (gaM g 0)), (3, .ref (gao g 0)), (4, .ref (gao g 1)), (5, .int v5)] [] (μ', ν', o', dd') (u + 4) (Qlaw g b Ls xs)) (hf : f_L_law_s_J393 Ls xs kb28 x5 μ ν o dd = some res) : E l g z_L_law 393 [(0, .ref b), (1, .ref (gaC g 0)), (2, .ref (gaM g 0)), (3, .ref (gao g 0)), (4, .ref (gao g 1)), (5, .int x5)] [] (μ, ν, o, dd) (u + 0) (Qlaw g b Ls xs) := by
  unfold f_L_law_s_J393 at hf
  refine E_aload_n 394 1 dL_law_393 rfl rfl rfl ?_
  refine E_aload_n 395 0 dL_law_394 rfl rfl rfl ?_
  refine E_iload 397 5 dL_law_395 rfl rfl ?_
  refine E_iconst 398 1 dL_law_397 cst_iconst1 rfl ?_
  refine E_iadd 399 dL_law_398 rfl ?_
  obtain ⟨h34, hf⟩ := chk_some hf
  refine E_sld 400 h34 dL_law_399 rfl ?_
  refine E_aload_n 401 0 dL_law_400 rfl rfl rfl ?_
  refine E_iload 403 5 dL_law_401 rfl rfl ?_
  refine E_iconst 404 2 dL_law_403 cst_iconst2 rfl ?_
  refine E_iadd 405 dL_law_404 rfl ?_
  obtain ⟨h35, hf⟩ := chk_some hf
  refine E_sld 406 h35 dL_law_405 rfl ?_
  refine E_if_eq 413 409 dL_law_406 (by decide) rfl (fun c36 => ?_) (fun c36 => ?_)
  · have hf := ite_t c36 hf
    refine E_iconst 414 0 dL_law_413 cst_iconst0 rfl ?_
    refine E_sub [0, 1, 2, 3, 4, 5] rfl ?_
    exact j_L_law_s_J414 hl hu hb28 hf
  · have hf := ite_e c36 hf
    refine E_iconst 410 1 dL_law_409 cst_iconst1 rfl ?_
    refine E_goto 414 dL_law_410 (by decide) ?_
    refine E_sub [0, 1, 2, 3, 4, 5] rfl ?_
    exact j_L_law_s_J414 hl hu hb28 hf
set_option maxRecDepth 100000 in
set_option maxHeartbeats 4000000 in
theorem j_L_law_s_J484 {l : Launch} {g : Gt} {b u : Nat} (hl : l.stackTraces = false) (hu : u ≤ 2090) {μ : Mm} {ν : Mm} {o : Nat → Int64} {dd : Nat → UInt64} {Ls : Nat} {xs : Nat → Int32} {kb28 : (Int32 → Mm → Mm → (Nat → Int64) → (Nat → UInt64) → Option Unit)} {x5 : Int32}  {res : Unit} (hb28 : ∀ (v5 : Int32) (μ' : Mm) (ν' : Mm) (o' : Nat → Int64) (dd' : Nat → UInt64), kb28 v5 μ' ν' o' dd' = some res → E l g z_L_law 28 [(0, .ref b), (1, .ref (gaC g 0)), (2, .ref (gaM g 0)), (3, .ref (gao g 0)), (4, .ref (gao g 1)), (5, .int v5)] [] (μ', ν', o', dd') (u + 4) (Qlaw g b Ls xs)) (hf : f_L_law_s_J484 Ls xs kb28 x5 μ ν o dd = some res) : E l g z_L_law 484 [(0, .ref b), (1, .ref (gaC g 0)), (2, .ref (gaM g 0)), (3, .ref (gao g 0)), (4, .ref (gao g 1)), (5, .int x5)] [] (μ, ν, o, dd) (u + 0) (Qlaw g b Ls xs) := by
  unfold f_L_law_s_J484 at hf
  refine E_aload_n 485 1 dL_law_484 rfl rfl rfl ?_
  refine E_aload_n 486 0 dL_law_485 rfl rfl rfl ?_
  refine E_iload 488 5 dL_law_486 rfl rfl ?_
  refine E_iconst 489 1 dL_law_488 cst_iconst1 rfl ?_
  refine E_iadd 490 dL_law_489 rfl ?_
  obtain ⟨h52, hf⟩ := chk_some hf
  refine E_sld 491 h52 dL_law_490 rfl ?_
  refine E_aload_n 492 3 dL_law_491 rfl rfl rfl ?_
  obtain ⟨r53, hc54, hf⟩ := bnd hf
  refine E_callH1 495 (u + 1) [] [.int r53.1] (c_L_isMarked_0_o hl hc54) my_L_isMarked kl_L_173 rfl rfl (Nat.le_of_ble_eq_true rfl) (rmlaw (by omega) rfl) dL_law_492 rfl rfl rfl ?_
  refine E_istore 497 [(6, .int r53.1), (0, .ref b), (1, .ref (gaC g 0)), (2, .ref (gaM g 0)), (3, .ref (gao g 0)), (4, .ref (gao g 1)), (5, .int x5)] dL_law_495 (by decide) rfl rfl ?_
  refine E_aload_n 498 3 dL_law_497 rfl rfl rfl ?_
  refine E_aload_n 499 1 dL_law_498 rfl rfl rfl ?_
  refine E_iload 501 6 dL_law_499 rfl rfl ?_
  refine E_iconst 502 1 dL_law_501 cst_iconst1 rfl ?_
  refine E_iadd 503 dL_law_502 rfl ?_
  obtain ⟨h55, hf⟩ := chk_some hf
  refine E_sld 504 h55 dL_law_503 rfl ?_
  obtain ⟨r56, hc57, hf⟩ := bnd hf
  refine E_callVM1 507 (u + 1) [] [.int r56.1] (c_X8_isMarked hl hc57) my_X8_isMarked rc_X8 kl_L_176 rfl rfl (Nat.le_of_ble_eq_true rfl) (rmlaw (by omega) rfl) dL_law_504 rfl rfl rfl ?_
  refine E_istore 509 [(7, .int r56.1), (6, .int r53.1), (0, .ref b), (1, .ref (gaC g 0)), (2, .ref (gaM g 0)), (3, .ref (gao g 0)), (4, .ref (gao g 1)), (5, .int x5)] dL_law_507 (by decide) rfl rfl ?_
  refine E_aload_n 510 4 dL_law_509 rfl rfl rfl ?_
  obtain ⟨r58, hc59, hf⟩ := bnd hf
  refine E_callVM1 513 (u + 1) [] [.int r58] (c_X8_thrown hl hc59) my_X8_thrown rc_X8 kl_L_163 rfl rfl (Nat.le_of_ble_eq_true rfl) (rmlaw (by omega) rfl) dL_law_510 rfl rfl rfl ?_
  refine E_iload 515 1 dL_law_513 rfl rfl ?_
  refine E_icmp_eq 520 518 dL_law_515 (by decide) rfl (fun c60 => ?_) (fun c60 => ?_)
  · have hf := ite_t c60 hf
    refine E_iload 522 1 dL_law_520 rfl rfl ?_
    refine E_if_ne 544 525 dL_law_522 (by decide) rfl (fun c61 => ?_) (fun c61 => ?_)
    · have hf := ite_e c61 hf
      refine E_goto 2972 dL_law_544 (by decide) ?_
      refine E_iinc 2975 [(5, .int (x5 + 5)), (7, .int r56.1), (6, .int r53.1), (0, .ref b), (1, .ref (gaC g 0)), (2, .ref (gaM g 0)), (3, .ref (gao g 0)), (4, .ref (gao g 1))] 7 (v := x5 + 5) dL_law_2972 rfl (by rw [cst_iconst5]) (by decide) rfl rfl ?_
      refine E_goto 28 dL_law_2975 (by decide) ?_
      refine E_sub [3, 4, 5, 6, 7, 0] rfl ?_
      refine E_up (u' := u + 4) (by omega) ?_
      exact hb28 (x5 + 5) μ r56.2 r53.2 dd hf
    · have hf := ite_t c61 hf
      refine E_aload_n 526 5 dL_law_525 rfl rfl rfl ?_
      refine E_iconst 527 0 dL_law_526 cst_iconst0 rfl ?_
      obtain ⟨h62, hf⟩ := chk_some hf
      refine E_lald 528 h62 dL_law_527 rfl ?_
      refine E_iload 530 0 dL_law_528 rfl rfl ?_
      refine E_if_eq 537 533 dL_law_530 (by decide) rfl (fun c63 => ?_) (fun c63 => ?_)
      · have hf := ite_t c63 hf
        refine E_lconst 538 0 dL_law_537 (by decide) rfl ?_
        refine E_lcmp 539 dL_law_538 rfl ?_
        refine E_if_eq 544 542 dL_law_539 (by decide) rfl (fun c64 => ?_) (fun c64 => ?_)
        · have hf := ite_t c64 hf
          refine E_goto 2972 dL_law_544 (by decide) ?_
          refine E_iinc 2975 [(5, .int (x5 + 5)), (7, .int r56.1), (6, .int r53.1), (0, .ref b), (1, .ref (gaC g 0)), (2, .ref (gaM g 0)), (3, .ref (gao g 0)), (4, .ref (gao g 1))] 7 (v := x5 + 5) dL_law_2972 rfl (by rw [cst_iconst5]) (by decide) rfl rfl ?_
          refine E_goto 28 dL_law_2975 (by decide) ?_
          refine E_sub [3, 4, 5, 6, 7, 0] rfl ?_
          refine E_up (u' := u + 4) (by omega) ?_
          exact hb28 (x5 + 5) μ r56.2 r53.2 dd hf
        · have hf := ite_e c64 hf
          refine E_iconst 543 0 dL_law_542 cst_iconst0 rfl ?_
          cases hf
      · have hf := ite_e c63 hf
        refine E_lconst 534 1 dL_law_533 (by decide) rfl ?_
        refine E_goto 538 dL_law_534 (by decide) ?_
        refine E_lcmp 539 dL_law_538 rfl ?_
        refine E_if_eq 544 542 dL_law_539 (by decide) rfl (fun c65 => ?_) (fun c65 => ?_)
        · have hf := ite_t c65 hf
          refine E_goto 2972 dL_law_544 (by decide) ?_
          refine E_iinc 2975 [(5, .int (x5 + 5)), (7, .int r56.1), (6, .int r53.1), (0, .ref b), (1, .ref (gaC g 0)), (2, .ref (gaM g 0)), (3, .ref (gao g 0)), (4, .ref (gao g 1))] 7 (v := x5 + 5) dL_law_2972 rfl (by rw [cst_iconst5]) (by decide) rfl rfl ?_
          refine E_goto 28 dL_law_2975 (by decide) ?_
          refine E_sub [3, 4, 5, 6, 7, 0] rfl ?_
          refine E_up (u' := u + 4) (by omega) ?_
          exact hb28 (x5 + 5) μ r56.2 r53.2 dd hf
        · have hf := ite_e c65 hf
          refine E_iconst 543 0 dL_law_542 cst_iconst0 rfl ?_
          cases hf
  · have hf := ite_e c60 hf
    refine E_iconst 519 0 dL_law_518 cst_iconst0 rfl ?_
    cases hf
set_option maxRecDepth 100000 in
set_option maxHeartbeats 4000000 in
theorem j_L_law_s_J547 {l : Launch} {g : Gt} {b u : Nat} (hl : l.stackTraces = false) (hu : u ≤ 2090) {μ : Mm} {ν : Mm} {o : Nat → Int64} {dd : Nat → UInt64} {Ls : Nat} {xs : Nat → Int32} {kb28 : (Int32 → Mm → Mm → (Nat → Int64) → (Nat → UInt64) → Option Unit)} {x5 : Int32}  {res : Unit} (hb28 : ∀ (v5 : Int32) (μ' : Mm) (ν' : Mm) (o' : Nat → Int64) (dd' : Nat → UInt64), kb28 v5 μ' ν' o' dd' = some res → E l g z_L_law 28 [(0, .ref b), (1, .ref (gaC g 0)), (2, .ref (gaM g 0)), (3, .ref (gao g 0)), (4, .ref (gao g 1)), (5, .int v5)] [] (μ', ν', o', dd') (u + 4) (Qlaw g b Ls xs)) (hf : f_L_law_s_J547 Ls xs kb28 x5 μ ν o dd = some res) : E l g z_L_law 547 [(0, .ref b), (1, .ref (gaC g 0)), (2, .ref (gaM g 0)), (3, .ref (gao g 0)), (4, .ref (gao g 1)), (5, .int x5)] [] (μ, ν, o, dd) (u + 0) (Qlaw g b Ls xs) := by
  unfold f_L_law_s_J547 at hf
  refine E_aload_n 548 1 dL_law_547 rfl rfl rfl ?_
  refine E_aload_n 549 0 dL_law_548 rfl rfl rfl ?_
  refine E_iload 551 5 dL_law_549 rfl rfl ?_
  refine E_iconst 552 1 dL_law_551 cst_iconst1 rfl ?_
  refine E_iadd 553 dL_law_552 rfl ?_
  obtain ⟨h66, hf⟩ := chk_some hf
  refine E_sld 554 h66 dL_law_553 rfl ?_
  refine E_aload_n 555 3 dL_law_554 rfl rfl rfl ?_
  obtain ⟨r67, hc68, hf⟩ := bnd hf
  refine E_callH1 558 (u + 1) [] [.int r67.1] (c_L_countryOf_0_o hl hc68) my_L_countryOf kl_L_177 rfl rfl (Nat.le_of_ble_eq_true rfl) (rmlaw (by omega) rfl) dL_law_555 rfl rfl rfl ?_
  refine E_istore 560 [(6, .int r67.1), (0, .ref b), (1, .ref (gaC g 0)), (2, .ref (gaM g 0)), (3, .ref (gao g 0)), (4, .ref (gao g 1)), (5, .int x5)] dL_law_558 (by decide) rfl rfl ?_
  refine E_aload_n 561 3 dL_law_560 rfl rfl rfl ?_
  refine E_aload_n 562 1 dL_law_561 rfl rfl rfl ?_
  refine E_iload 564 6 dL_law_562 rfl rfl ?_
  refine E_iconst 565 1 dL_law_564 cst_iconst1 rfl ?_
  refine E_iadd 566 dL_law_565 rfl ?_
  obtain ⟨h69, hf⟩ := chk_some hf
  refine E_sld 567 h69 dL_law_566 rfl ?_
  obtain ⟨r70, hc71, hf⟩ := bnd hf
  refine E_callVM1 570 (u + 1) [] [.int r70.1] (c_X8_countryOf hl hc71) my_X8_countryOf rc_X8 kl_L_179 rfl rfl (Nat.le_of_ble_eq_true rfl) (rmlaw (by omega) rfl) dL_law_567 rfl rfl rfl ?_
  refine E_istore 572 [(7, .int r70.1), (6, .int r67.1), (0, .ref b), (1, .ref (gaC g 0)), (2, .ref (gaM g 0)), (3, .ref (gao g 0)), (4, .ref (gao g 1)), (5, .int x5)] dL_law_570 (by decide) rfl rfl ?_
  refine E_aload_n 573 4 dL_law_572 rfl rfl rfl ?_
  obtain ⟨r72, hc73, hf⟩ := bnd hf
  refine E_callVM1 576 (u + 1) [] [.int r72] (c_X8_thrown hl hc73) my_X8_thrown rc_X8 kl_L_163 rfl rfl (Nat.le_of_ble_eq_true rfl) (rmlaw (by omega) rfl) dL_law_573 rfl rfl rfl ?_
  refine E_iload 578 1 dL_law_576 rfl rfl ?_
  refine E_icmp_eq 583 581 dL_law_578 (by decide) rfl (fun c74 => ?_) (fun c74 => ?_)
  · have hf := ite_t c74 hf
    refine E_iload 585 1 dL_law_583 rfl rfl ?_
    refine E_if_ne 600 588 dL_law_585 (by decide) rfl (fun c75 => ?_) (fun c75 => ?_)
    · have hf := ite_e c75 hf
      refine E_goto 2972 dL_law_600 (by decide) ?_
      refine E_iinc 2975 [(5, .int (x5 + 5)), (7, .int r70.1), (6, .int r67.1), (0, .ref b), (1, .ref (gaC g 0)), (2, .ref (gaM g 0)), (3, .ref (gao g 0)), (4, .ref (gao g 1))] 7 (v := x5 + 5) dL_law_2972 rfl (by rw [cst_iconst5]) (by decide) rfl rfl ?_
      refine E_goto 28 dL_law_2975 (by decide) ?_
      refine E_sub [3, 4, 5, 6, 7, 0] rfl ?_
      refine E_up (u' := u + 4) (by omega) ?_
      exact hb28 (x5 + 5) μ r70.2 r67.2 dd hf
    · have hf := ite_t c75 hf
      refine E_aload_n 589 5 dL_law_588 rfl rfl rfl ?_
      refine E_iconst 590 0 dL_law_589 cst_iconst0 rfl ?_
      obtain ⟨h76, hf⟩ := chk_some hf
      refine E_lald 591 h76 dL_law_590 rfl ?_
      refine E_iload 593 0 dL_law_591 rfl rfl ?_
      refine E_i2l 594 dL_law_593 rfl ?_
      refine E_lcmp 595 dL_law_594 rfl ?_
      refine E_if_eq 600 598 dL_law_595 (by decide) rfl (fun c77 => ?_) (fun c77 => ?_)
      · have hf := ite_t c77 hf
        refine E_goto 2972 dL_law_600 (by decide) ?_
        refine E_iinc 2975 [(5, .int (x5 + 5)), (7, .int r70.1), (6, .int r67.1), (0, .ref b), (1, .ref (gaC g 0)), (2, .ref (gaM g 0)), (3, .ref (gao g 0)), (4, .ref (gao g 1))] 7 (v := x5 + 5) dL_law_2972 rfl (by rw [cst_iconst5]) (by decide) rfl rfl ?_
        refine E_goto 28 dL_law_2975 (by decide) ?_
        refine E_sub [3, 4, 5, 6, 7, 0] rfl ?_
        refine E_up (u' := u + 4) (by omega) ?_
        exact hb28 (x5 + 5) μ r70.2 r67.2 dd hf
      · have hf := ite_e c77 hf
        refine E_iconst 599 0 dL_law_598 cst_iconst0 rfl ?_
        cases hf
  · have hf := ite_e c74 hf
    refine E_iconst 582 0 dL_law_581 cst_iconst0 rfl ?_
    cases hf
set_option maxRecDepth 100000 in
set_option maxHeartbeats 4000000 in
theorem j_L_law_s_J603 {l : Launch} {g : Gt} {b u : Nat} (hl : l.stackTraces = false) (hu : u ≤ 2090) {μ : Mm} {ν : Mm} {o : Nat → Int64} {dd : Nat → UInt64} {Ls : Nat} {xs : Nat → Int32} {kb28 : (Int32 → Mm → Mm → (Nat → Int64) → (Nat → UInt64) → Option Unit)} {x5 : Int32}  {res : Unit} (hb28 : ∀ (v5 : Int32) (μ' : Mm) (ν' : Mm) (o' : Nat → Int64) (dd' : Nat → UInt64), kb28 v5 μ' ν' o' dd' = some res → E l g z_L_law 28 [(0, .ref b), (1, .ref (gaC g 0)), (2, .ref (gaM g 0)), (3, .ref (gao g 0)), (4, .ref (gao g 1)), (5, .int v5)] [] (μ', ν', o', dd') (u + 4) (Qlaw g b Ls xs)) (hf : f_L_law_s_J603 Ls xs kb28 x5 μ ν o dd = some res) : E l g z_L_law 603 [(0, .ref b), (1, .ref (gaC g 0)), (2, .ref (gaM g 0)), (3, .ref (gao g 0)), (4, .ref (gao g 1)), (5, .int x5)] [] (μ, ν, o, dd) (u + 0) (Qlaw g b Ls xs) := by
  unfold f_L_law_s_J603 at hf
  refine E_aload_n 604 1 dL_law_603 rfl rfl rfl ?_
  obtain ⟨r78, hc79, hf⟩ := bnd hf
  refine E_callVC1 607 (u + 0) [] [.int r78] (c_X7_accounts hl hc79) my_X7_accounts rc_X7 kl_L_180 rfl rfl (Nat.le_of_ble_eq_true rfl) (rmlaw (by omega) rfl) dL_law_604 rfl rfl rfl ?_
  refine E_aload_n 608 2 dL_law_607 rfl rfl rfl ?_
  obtain ⟨r80, hc81, hf⟩ := bnd hf
  refine E_callVM1 611 (u + 0) [.int r78] [.int r80.1, .int r78] (c_X8_accounts hl hc81) my_X8_accounts rc_X8 kl_L_183 rfl rfl (Nat.le_of_ble_eq_true rfl) (rmlaw (by omega) rfl) dL_law_608 rfl rfl rfl ?_
  refine E_icmp_eq 2972 614 dL_law_611 (by decide) rfl (fun c82 => ?_) (fun c82 => ?_)
  · have hf := ite_t c82 hf
    refine E_iinc 2975 [(5, .int (x5 + 5)), (0, .ref b), (1, .ref (gaC g 0)), (2, .ref (gaM g 0)), (3, .ref (gao g 0)), (4, .ref (gao g 1))] 5 (v := x5 + 5) dL_law_2972 rfl (by rw [cst_iconst5]) (by decide) rfl rfl ?_
    refine E_goto 28 dL_law_2975 (by decide) ?_
    refine E_sub [1, 2, 3, 4, 5, 0] rfl ?_
    refine E_up (u' := u + 4) (by omega) ?_
    exact hb28 (x5 + 5) μ r80.2 o dd hf
  · have hf := ite_e c82 hf
    refine E_iconst 615 0 dL_law_614 cst_iconst0 rfl ?_
    cases hf
set_option maxRecDepth 100000 in
set_option maxHeartbeats 4000000 in
theorem j_L_law_s_J616 {l : Launch} {g : Gt} {b u : Nat} (hl : l.stackTraces = false) (hu : u ≤ 2090) {μ : Mm} {ν : Mm} {o : Nat → Int64} {dd : Nat → UInt64} {Ls : Nat} {xs : Nat → Int32} {kb28 : (Int32 → Mm → Mm → (Nat → Int64) → (Nat → UInt64) → Option Unit)} {x5 : Int32}  {res : Unit} (hb28 : ∀ (v5 : Int32) (μ' : Mm) (ν' : Mm) (o' : Nat → Int64) (dd' : Nat → UInt64), kb28 v5 μ' ν' o' dd' = some res → E l g z_L_law 28 [(0, .ref b), (1, .ref (gaC g 0)), (2, .ref (gaM g 0)), (3, .ref (gao g 0)), (4, .ref (gao g 1)), (5, .int v5)] [] (μ', ν', o', dd') (u + 4) (Qlaw g b Ls xs)) (hf : f_L_law_s_J616 Ls xs kb28 x5 μ ν o dd = some res) : E l g z_L_law 616 [(0, .ref b), (1, .ref (gaC g 0)), (2, .ref (gaM g 0)), (3, .ref (gao g 0)), (4, .ref (gao g 1)), (5, .int x5)] [] (μ, ν, o, dd) (u + 0) (Qlaw g b Ls xs) := by
  unfold f_L_law_s_J616 at hf
  refine E_aload_n 617 1 dL_law_616 rfl rfl rfl ?_
  refine E_aload_n 618 0 dL_law_617 rfl rfl rfl ?_
  refine E_iload 620 5 dL_law_618 rfl rfl ?_
  refine E_iconst 621 1 dL_law_620 cst_iconst1 rfl ?_
  refine E_iadd 622 dL_law_621 rfl ?_
  obtain ⟨h83, hf⟩ := chk_some hf
  refine E_sld 623 h83 dL_law_622 rfl ?_
  refine E_aload_n 624 3 dL_law_623 rfl rfl rfl ?_
  obtain ⟨r84, hc85, hf⟩ := bnd hf
  refine E_callH1 627 (u + 1) [] [.int r84.1] (c_L_pass_0_o hl hc85) my_L_pass kl_L_184 rfl rfl (Nat.le_of_ble_eq_true rfl) (rmlaw (by omega) rfl) dL_law_624 rfl rfl rfl ?_
  refine E_istore 629 [(6, .int r84.1), (0, .ref b), (1, .ref (gaC g 0)), (2, .ref (gaM g 0)), (3, .ref (gao g 0)), (4, .ref (gao g 1)), (5, .int x5)] dL_law_627 (by decide) rfl rfl ?_
  refine E_aload_n 630 3 dL_law_629 rfl rfl rfl ?_
  refine E_aload_n 631 1 dL_law_630 rfl rfl rfl ?_
  refine E_iload 633 6 dL_law_631 rfl rfl ?_
  refine E_iconst 634 1 dL_law_633 cst_iconst1 rfl ?_
  refine E_iadd 635 dL_law_634 rfl ?_
  obtain ⟨h86, hf⟩ := chk_some hf
  refine E_sld 636 h86 dL_law_635 rfl ?_
  obtain ⟨r87, hc88, hf⟩ := bnd hf
  refine E_callVM1 639 (u + 1) [] [.int r87.1] (c_X8_pass hl hc88) my_X8_pass rc_X8 kl_L_186 rfl rfl (Nat.le_of_ble_eq_true rfl) (rmlaw (by omega) rfl) dL_law_636 rfl rfl rfl ?_
  refine E_istore 641 [(7, .int r87.1), (6, .int r84.1), (0, .ref b), (1, .ref (gaC g 0)), (2, .ref (gaM g 0)), (3, .ref (gao g 0)), (4, .ref (gao g 1)), (5, .int x5)] dL_law_639 (by decide) rfl rfl ?_
  refine E_aload_n 642 4 dL_law_641 rfl rfl rfl ?_
  obtain ⟨r89, hc90, hf⟩ := bnd hf
  refine E_callVM1 645 (u + 1) [] [.int r89] (c_X8_thrown hl hc90) my_X8_thrown rc_X8 kl_L_163 rfl rfl (Nat.le_of_ble_eq_true rfl) (rmlaw (by omega) rfl) dL_law_642 rfl rfl rfl ?_
  refine E_iload 647 1 dL_law_645 rfl rfl ?_
  refine E_icmp_eq 652 650 dL_law_647 (by decide) rfl (fun c91 => ?_) (fun c91 => ?_)
  · have hf := ite_t c91 hf
    refine E_iload 654 1 dL_law_652 rfl rfl ?_
    refine E_if_ne 669 657 dL_law_654 (by decide) rfl (fun c92 => ?_) (fun c92 => ?_)
    · have hf := ite_e c92 hf
      refine E_goto 2972 dL_law_669 (by decide) ?_
      refine E_iinc 2975 [(5, .int (x5 + 5)), (7, .int r87.1), (6, .int r84.1), (0, .ref b), (1, .ref (gaC g 0)), (2, .ref (gaM g 0)), (3, .ref (gao g 0)), (4, .ref (gao g 1))] 7 (v := x5 + 5) dL_law_2972 rfl (by rw [cst_iconst5]) (by decide) rfl rfl ?_
      refine E_goto 28 dL_law_2975 (by decide) ?_
      refine E_sub [3, 4, 5, 6, 7, 0] rfl ?_
      refine E_up (u' := u + 4) (by omega) ?_
      exact hb28 (x5 + 5) r84.2.1 r87.2 r84.2.2 dd hf
    · have hf := ite_t c92 hf
      refine E_aload_n 658 5 dL_law_657 rfl rfl rfl ?_
      refine E_iconst 659 0 dL_law_658 cst_iconst0 rfl ?_
      obtain ⟨h93, hf⟩ := chk_some hf
      refine E_lald 660 h93 dL_law_659 rfl ?_
      refine E_iload 662 0 dL_law_660 rfl rfl ?_
      refine E_i2l 663 dL_law_662 rfl ?_
      refine E_lcmp 664 dL_law_663 rfl ?_
      refine E_if_eq 669 667 dL_law_664 (by decide) rfl (fun c94 => ?_) (fun c94 => ?_)
      · have hf := ite_t c94 hf
        refine E_goto 2972 dL_law_669 (by decide) ?_
        refine E_iinc 2975 [(5, .int (x5 + 5)), (7, .int r87.1), (6, .int r84.1), (0, .ref b), (1, .ref (gaC g 0)), (2, .ref (gaM g 0)), (3, .ref (gao g 0)), (4, .ref (gao g 1))] 7 (v := x5 + 5) dL_law_2972 rfl (by rw [cst_iconst5]) (by decide) rfl rfl ?_
        refine E_goto 28 dL_law_2975 (by decide) ?_
        refine E_sub [3, 4, 5, 6, 7, 0] rfl ?_
        refine E_up (u' := u + 4) (by omega) ?_
        exact hb28 (x5 + 5) r84.2.1 r87.2 r84.2.2 dd hf
      · have hf := ite_e c94 hf
        refine E_iconst 668 0 dL_law_667 cst_iconst0 rfl ?_
        cases hf
  · have hf := ite_e c91 hf
    refine E_iconst 651 0 dL_law_650 cst_iconst0 rfl ?_
    cases hf
set_option maxRecDepth 100000 in
set_option maxHeartbeats 4000000 in
theorem j_L_law_s_J672 {l : Launch} {g : Gt} {b u : Nat} (hl : l.stackTraces = false) (hu : u ≤ 2090) {μ : Mm} {ν : Mm} {o : Nat → Int64} {dd : Nat → UInt64} {Ls : Nat} {xs : Nat → Int32} {kb28 : (Int32 → Mm → Mm → (Nat → Int64) → (Nat → UInt64) → Option Unit)} {x5 : Int32}  {res : Unit} (hb28 : ∀ (v5 : Int32) (μ' : Mm) (ν' : Mm) (o' : Nat → Int64) (dd' : Nat → UInt64), kb28 v5 μ' ν' o' dd' = some res → E l g z_L_law 28 [(0, .ref b), (1, .ref (gaC g 0)), (2, .ref (gaM g 0)), (3, .ref (gao g 0)), (4, .ref (gao g 1)), (5, .int v5)] [] (μ', ν', o', dd') (u + 4) (Qlaw g b Ls xs)) (hf : f_L_law_s_J672 Ls xs kb28 x5 μ ν o dd = some res) : E l g z_L_law 672 [(0, .ref b), (1, .ref (gaC g 0)), (2, .ref (gaM g 0)), (3, .ref (gao g 0)), (4, .ref (gao g 1)), (5, .int x5)] [] (μ, ν, o, dd) (u + 0) (Qlaw g b Ls xs) := by
  unfold f_L_law_s_J672 at hf
  refine E_aload_n 673 1 dL_law_672 rfl rfl rfl ?_
  obtain ⟨r95, hc96, hf⟩ := bnd hf
  refine E_callVC1 676 (u + 0) [] [.int r95] (c_X7_time hl hc96) my_X7_time rc_X7 kl_L_187 rfl rfl (Nat.le_of_ble_eq_true rfl) (rmlaw (by omega) rfl) dL_law_673 rfl rfl rfl ?_
  refine E_aload_n 677 2 dL_law_676 rfl rfl rfl ?_
  obtain ⟨r97, hc98, hf⟩ := bnd hf
  refine E_callVM1 680 (u + 0) [.int r95] [.int r97.1, .int r95] (c_X8_time hl hc98) my_X8_time rc_X8 kl_L_190 rfl rfl (Nat.le_of_ble_eq_true rfl) (rmlaw (by omega) rfl) dL_law_677 rfl rfl rfl ?_
  refine E_icmp_eq 2972 683 dL_law_680 (by decide) rfl (fun c99 => ?_) (fun c99 => ?_)
  · have hf := ite_t c99 hf
    refine E_iinc 2975 [(5, .int (x5 + 5)), (0, .ref b), (1, .ref (gaC g 0)), (2, .ref (gaM g 0)), (3, .ref (gao g 0)), (4, .ref (gao g 1))] 5 (v := x5 + 5) dL_law_2972 rfl (by rw [cst_iconst5]) (by decide) rfl rfl ?_
    refine E_goto 28 dL_law_2975 (by decide) ?_
    refine E_sub [1, 2, 3, 4, 5, 0] rfl ?_
    refine E_up (u' := u + 4) (by omega) ?_
    exact hb28 (x5 + 5) μ r97.2 o dd hf
  · have hf := ite_e c99 hf
    refine E_iconst 684 0 dL_law_683 cst_iconst0 rfl ?_
    cases hf
set_option maxRecDepth 100000 in
set_option maxHeartbeats 4000000 in
theorem j_L_law_s_J685 {l : Launch} {g : Gt} {b u : Nat} (hl : l.stackTraces = false) (hu : u ≤ 2090) {μ : Mm} {ν : Mm} {o : Nat → Int64} {dd : Nat → UInt64} {Ls : Nat} {xs : Nat → Int32} {kb28 : (Int32 → Mm → Mm → (Nat → Int64) → (Nat → UInt64) → Option Unit)} {x5 : Int32}  {res : Unit} (hb28 : ∀ (v5 : Int32) (μ' : Mm) (ν' : Mm) (o' : Nat → Int64) (dd' : Nat → UInt64), kb28 v5 μ' ν' o' dd' = some res → E l g z_L_law 28 [(0, .ref b), (1, .ref (gaC g 0)), (2, .ref (gaM g 0)), (3, .ref (gao g 0)), (4, .ref (gao g 1)), (5, .int v5)] [] (μ', ν', o', dd') (u + 4) (Qlaw g b Ls xs)) (hf : f_L_law_s_J685 Ls xs kb28 x5 μ ν o dd = some res) : E l g z_L_law 685 [(0, .ref b), (1, .ref (gaC g 0)), (2, .ref (gaM g 0)), (3, .ref (gao g 0)), (4, .ref (gao g 1)), (5, .int x5)] [] (μ, ν, o, dd) (u + 0) (Qlaw g b Ls xs) := by
  unfold f_L_law_s_J685 at hf
  refine E_aload_n 686 1 dL_law_685 rfl rfl rfl ?_
  refine E_aload_n 687 0 dL_law_686 rfl rfl rfl ?_
  refine E_iload 689 5 dL_law_687 rfl rfl ?_
  refine E_iconst 690 1 dL_law_689 cst_iconst1 rfl ?_
  refine E_iadd 691 dL_law_690 rfl ?_
  obtain ⟨h100, hf⟩ := chk_some hf
  refine E_sld 692 h100 dL_law_691 rfl ?_
  refine E_aload_n 693 0 dL_law_692 rfl rfl rfl ?_
  refine E_iload 695 5 dL_law_693 rfl rfl ?_
  refine E_iconst 696 2 dL_law_695 cst_iconst2 rfl ?_
  refine E_iadd 697 dL_law_696 rfl ?_
  obtain ⟨h101, hf⟩ := chk_some hf
  refine E_sld 698 h101 dL_law_697 rfl ?_
  refine E_aload_n 699 0 dL_law_698 rfl rfl rfl ?_
  refine E_iload 701 5 dL_law_699 rfl rfl ?_
  refine E_iconst 702 3 dL_law_701 cst_iconst3 rfl ?_
  refine E_iadd 703 dL_law_702 rfl ?_
  obtain ⟨h102, hf⟩ := chk_some hf
  refine E_sld 704 h102 dL_law_703 rfl ?_
  refine E_aload_n 705 3 dL_law_704 rfl rfl rfl ?_
  obtain ⟨r103, hc104, hf⟩ := bnd hf
  refine E_callH1 708 (u + 3) [] [.int r103.1] (c_L_pay_0_o hl hc104) my_L_pay kl_L_191 rfl rfl (Nat.le_of_ble_eq_true rfl) (rmlaw (by omega) rfl) dL_law_705 rfl rfl rfl ?_
  refine E_istore 710 [(6, .int r103.1), (0, .ref b), (1, .ref (gaC g 0)), (2, .ref (gaM g 0)), (3, .ref (gao g 0)), (4, .ref (gao g 1)), (5, .int x5)] dL_law_708 (by decide) rfl rfl ?_
  refine E_aload_n 711 3 dL_law_710 rfl rfl rfl ?_
  refine E_aload_n 712 1 dL_law_711 rfl rfl rfl ?_
  refine E_iload 714 6 dL_law_712 rfl rfl ?_
  refine E_iconst 715 1 dL_law_714 cst_iconst1 rfl ?_
  refine E_iadd 716 dL_law_715 rfl ?_
  obtain ⟨h105, hf⟩ := chk_some hf
  refine E_sld 717 h105 dL_law_716 rfl ?_
  refine E_aload_n 718 1 dL_law_717 rfl rfl rfl ?_
  refine E_iload 720 6 dL_law_718 rfl rfl ?_
  refine E_iconst 721 2 dL_law_720 cst_iconst2 rfl ?_
  refine E_iadd 722 dL_law_721 rfl ?_
  obtain ⟨h106, hf⟩ := chk_some hf
  refine E_sld 723 h106 dL_law_722 rfl ?_
  refine E_aload_n 724 1 dL_law_723 rfl rfl rfl ?_
  refine E_iload 726 6 dL_law_724 rfl rfl ?_
  refine E_iconst 727 3 dL_law_726 cst_iconst3 rfl ?_
  refine E_iadd 728 dL_law_727 rfl ?_
  obtain ⟨h107, hf⟩ := chk_some hf
  refine E_sld 729 h107 dL_law_728 rfl ?_
  obtain ⟨r108, hc109, hf⟩ := bnd hf
  refine E_callVM1 732 (u + 3) [] [.int r108.1] (c_X8_pay hl hc109) my_X8_pay rc_X8 kl_L_194 rfl rfl (Nat.le_of_ble_eq_true rfl) (rmlaw (by omega) rfl) dL_law_729 rfl rfl rfl ?_
  refine E_istore 734 [(7, .int r108.1), (6, .int r103.1), (0, .ref b), (1, .ref (gaC g 0)), (2, .ref (gaM g 0)), (3, .ref (gao g 0)), (4, .ref (gao g 1)), (5, .int x5)] dL_law_732 (by decide) rfl rfl ?_
  refine E_aload_n 735 4 dL_law_734 rfl rfl rfl ?_
  obtain ⟨r110, hc111, hf⟩ := bnd hf
  refine E_callVM1 738 (u + 3) [] [.int r110] (c_X8_thrown hl hc111) my_X8_thrown rc_X8 kl_L_163 rfl rfl (Nat.le_of_ble_eq_true rfl) (rmlaw (by omega) rfl) dL_law_735 rfl rfl rfl ?_
  refine E_iload 740 1 dL_law_738 rfl rfl ?_
  refine E_icmp_eq 745 743 dL_law_740 (by decide) rfl (fun c112 => ?_) (fun c112 => ?_)
  · have hf := ite_t c112 hf
    refine E_iload 747 1 dL_law_745 rfl rfl ?_
    refine E_if_ne 762 750 dL_law_747 (by decide) rfl (fun c113 => ?_) (fun c113 => ?_)
    · have hf := ite_e c113 hf
      refine E_goto 2972 dL_law_762 (by decide) ?_
      refine E_iinc 2975 [(5, .int (x5 + 5)), (7, .int r108.1), (6, .int r103.1), (0, .ref b), (1, .ref (gaC g 0)), (2, .ref (gaM g 0)), (3, .ref (gao g 0)), (4, .ref (gao g 1))] 7 (v := x5 + 5) dL_law_2972 rfl (by rw [cst_iconst5]) (by decide) rfl rfl ?_
      refine E_goto 28 dL_law_2975 (by decide) ?_
      refine E_sub [3, 4, 5, 6, 7, 0] rfl ?_
      refine E_up (u' := u + 4) (by omega) ?_
      exact hb28 (x5 + 5) r103.2.1 r108.2 r103.2.2 dd hf
    · have hf := ite_t c113 hf
      refine E_aload_n 751 5 dL_law_750 rfl rfl rfl ?_
      refine E_iconst 752 0 dL_law_751 cst_iconst0 rfl ?_
      obtain ⟨h114, hf⟩ := chk_some hf
      refine E_lald 753 h114 dL_law_752 rfl ?_
      refine E_iload 755 0 dL_law_753 rfl rfl ?_
      refine E_i2l 756 dL_law_755 rfl ?_
      refine E_lcmp 757 dL_law_756 rfl ?_
      refine E_if_eq 762 760 dL_law_757 (by decide) rfl (fun c115 => ?_) (fun c115 => ?_)
      · have hf := ite_t c115 hf
        refine E_goto 2972 dL_law_762 (by decide) ?_
        refine E_iinc 2975 [(5, .int (x5 + 5)), (7, .int r108.1), (6, .int r103.1), (0, .ref b), (1, .ref (gaC g 0)), (2, .ref (gaM g 0)), (3, .ref (gao g 0)), (4, .ref (gao g 1))] 7 (v := x5 + 5) dL_law_2972 rfl (by rw [cst_iconst5]) (by decide) rfl rfl ?_
        refine E_goto 28 dL_law_2975 (by decide) ?_
        refine E_sub [3, 4, 5, 6, 7, 0] rfl ?_
        refine E_up (u' := u + 4) (by omega) ?_
        exact hb28 (x5 + 5) r103.2.1 r108.2 r103.2.2 dd hf
      · have hf := ite_e c115 hf
        refine E_iconst 761 0 dL_law_760 cst_iconst0 rfl ?_
        cases hf
  · have hf := ite_e c112 hf
    refine E_iconst 744 0 dL_law_743 cst_iconst0 rfl ?_
    cases hf
set_option maxRecDepth 100000 in
set_option maxHeartbeats 4000000 in
theorem j_L_law_s_J765 {l : Launch} {g : Gt} {b u : Nat} (hl : l.stackTraces = false) (hu : u ≤ 2090) {μ : Mm} {ν : Mm} {o : Nat → Int64} {dd : Nat → UInt64} {Ls : Nat} {xs : Nat → Int32} {kb28 : (Int32 → Mm → Mm → (Nat → Int64) → (Nat → UInt64) → Option Unit)} {x5 : Int32}  {res : Unit} (hb28 : ∀ (v5 : Int32) (μ' : Mm) (ν' : Mm) (o' : Nat → Int64) (dd' : Nat → UInt64), kb28 v5 μ' ν' o' dd' = some res → E l g z_L_law 28 [(0, .ref b), (1, .ref (gaC g 0)), (2, .ref (gaM g 0)), (3, .ref (gao g 0)), (4, .ref (gao g 1)), (5, .int v5)] [] (μ', ν', o', dd') (u + 4) (Qlaw g b Ls xs)) (hf : f_L_law_s_J765 Ls xs kb28 x5 μ ν o dd = some res) : E l g z_L_law 765 [(0, .ref b), (1, .ref (gaC g 0)), (2, .ref (gaM g 0)), (3, .ref (gao g 0)), (4, .ref (gao g 1)), (5, .int x5)] [] (μ, ν, o, dd) (u + 0) (Qlaw g b Ls xs) := by
  unfold f_L_law_s_J765 at hf
  refine E_aload_n 766 1 dL_law_765 rfl rfl rfl ?_
  obtain ⟨r116, hc117, hf⟩ := bnd hf
  refine E_callVC1 769 (u + 0) [] [.int r116] (c_X7_payments hl hc117) my_X7_payments rc_X7 kl_L_195 rfl rfl (Nat.le_of_ble_eq_true rfl) (rmlaw (by omega) rfl) dL_law_766 rfl rfl rfl ?_
  refine E_aload_n 770 2 dL_law_769 rfl rfl rfl ?_
  obtain ⟨r118, hc119, hf⟩ := bnd hf
  refine E_callVM1 773 (u + 0) [.int r116] [.int r118.1, .int r116] (c_X8_payments hl hc119) my_X8_payments rc_X8 kl_L_198 rfl rfl (Nat.le_of_ble_eq_true rfl) (rmlaw (by omega) rfl) dL_law_770 rfl rfl rfl ?_
  refine E_icmp_eq 2972 776 dL_law_773 (by decide) rfl (fun c120 => ?_) (fun c120 => ?_)
  · have hf := ite_t c120 hf
    refine E_iinc 2975 [(5, .int (x5 + 5)), (0, .ref b), (1, .ref (gaC g 0)), (2, .ref (gaM g 0)), (3, .ref (gao g 0)), (4, .ref (gao g 1))] 5 (v := x5 + 5) dL_law_2972 rfl (by rw [cst_iconst5]) (by decide) rfl rfl ?_
    refine E_goto 28 dL_law_2975 (by decide) ?_
    refine E_sub [1, 2, 3, 4, 5, 0] rfl ?_
    refine E_up (u' := u + 4) (by omega) ?_
    exact hb28 (x5 + 5) μ r118.2 o dd hf
  · have hf := ite_e c120 hf
    refine E_iconst 777 0 dL_law_776 cst_iconst0 rfl ?_
    cases hf
set_option maxRecDepth 100000 in
set_option maxHeartbeats 4000000 in
theorem j_L_law_s_J778 {l : Launch} {g : Gt} {b u : Nat} (hl : l.stackTraces = false) (hu : u ≤ 2090) {μ : Mm} {ν : Mm} {o : Nat → Int64} {dd : Nat → UInt64} {Ls : Nat} {xs : Nat → Int32} {kb28 : (Int32 → Mm → Mm → (Nat → Int64) → (Nat → UInt64) → Option Unit)} {x5 : Int32}  {res : Unit} (hb28 : ∀ (v5 : Int32) (μ' : Mm) (ν' : Mm) (o' : Nat → Int64) (dd' : Nat → UInt64), kb28 v5 μ' ν' o' dd' = some res → E l g z_L_law 28 [(0, .ref b), (1, .ref (gaC g 0)), (2, .ref (gaM g 0)), (3, .ref (gao g 0)), (4, .ref (gao g 1)), (5, .int v5)] [] (μ', ν', o', dd') (u + 4) (Qlaw g b Ls xs)) (hf : f_L_law_s_J778 Ls xs kb28 x5 μ ν o dd = some res) : E l g z_L_law 778 [(0, .ref b), (1, .ref (gaC g 0)), (2, .ref (gaM g 0)), (3, .ref (gao g 0)), (4, .ref (gao g 1)), (5, .int x5)] [] (μ, ν, o, dd) (u + 0) (Qlaw g b Ls xs) := by
  unfold f_L_law_s_J778 at hf
  refine E_aload_n 779 1 dL_law_778 rfl rfl rfl ?_
  refine E_aload_n 780 0 dL_law_779 rfl rfl rfl ?_
  refine E_iload 782 5 dL_law_780 rfl rfl ?_
  refine E_iconst 783 1 dL_law_782 cst_iconst1 rfl ?_
  refine E_iadd 784 dL_law_783 rfl ?_
  obtain ⟨h121, hf⟩ := chk_some hf
  refine E_sld 785 h121 dL_law_784 rfl ?_
  refine E_aload_n 786 3 dL_law_785 rfl rfl rfl ?_
  obtain ⟨r122, hc123, hf⟩ := bnd hf
  refine E_callH1 789 (u + 1) [] [.int r122.1] (c_L_minuteOf_0_o hl hc123) my_L_minuteOf kl_L_199 rfl rfl (Nat.le_of_ble_eq_true rfl) (rmlaw (by omega) rfl) dL_law_786 rfl rfl rfl ?_
  refine E_istore 791 [(6, .int r122.1), (0, .ref b), (1, .ref (gaC g 0)), (2, .ref (gaM g 0)), (3, .ref (gao g 0)), (4, .ref (gao g 1)), (5, .int x5)] dL_law_789 (by decide) rfl rfl ?_
  refine E_aload_n 792 3 dL_law_791 rfl rfl rfl ?_
  refine E_aload_n 793 1 dL_law_792 rfl rfl rfl ?_
  refine E_iload 795 6 dL_law_793 rfl rfl ?_
  refine E_iconst 796 1 dL_law_795 cst_iconst1 rfl ?_
  refine E_iadd 797 dL_law_796 rfl ?_
  obtain ⟨h124, hf⟩ := chk_some hf
  refine E_sld 798 h124 dL_law_797 rfl ?_
  obtain ⟨r125, hc126, hf⟩ := bnd hf
  refine E_callVM1 801 (u + 1) [] [.int r125.1] (c_X8_minuteOf hl hc126) my_X8_minuteOf rc_X8 kl_L_201 rfl rfl (Nat.le_of_ble_eq_true rfl) (rmlaw (by omega) rfl) dL_law_798 rfl rfl rfl ?_
  refine E_istore 803 [(7, .int r125.1), (6, .int r122.1), (0, .ref b), (1, .ref (gaC g 0)), (2, .ref (gaM g 0)), (3, .ref (gao g 0)), (4, .ref (gao g 1)), (5, .int x5)] dL_law_801 (by decide) rfl rfl ?_
  refine E_aload_n 804 4 dL_law_803 rfl rfl rfl ?_
  obtain ⟨r127, hc128, hf⟩ := bnd hf
  refine E_callVM1 807 (u + 1) [] [.int r127] (c_X8_thrown hl hc128) my_X8_thrown rc_X8 kl_L_163 rfl rfl (Nat.le_of_ble_eq_true rfl) (rmlaw (by omega) rfl) dL_law_804 rfl rfl rfl ?_
  refine E_iload 809 1 dL_law_807 rfl rfl ?_
  refine E_icmp_eq 814 812 dL_law_809 (by decide) rfl (fun c129 => ?_) (fun c129 => ?_)
  · have hf := ite_t c129 hf
    refine E_iload 816 1 dL_law_814 rfl rfl ?_
    refine E_if_ne 831 819 dL_law_816 (by decide) rfl (fun c130 => ?_) (fun c130 => ?_)
    · have hf := ite_e c130 hf
      refine E_goto 2972 dL_law_831 (by decide) ?_
      refine E_iinc 2975 [(5, .int (x5 + 5)), (7, .int r125.1), (6, .int r122.1), (0, .ref b), (1, .ref (gaC g 0)), (2, .ref (gaM g 0)), (3, .ref (gao g 0)), (4, .ref (gao g 1))] 7 (v := x5 + 5) dL_law_2972 rfl (by rw [cst_iconst5]) (by decide) rfl rfl ?_
      refine E_goto 28 dL_law_2975 (by decide) ?_
      refine E_sub [3, 4, 5, 6, 7, 0] rfl ?_
      refine E_up (u' := u + 4) (by omega) ?_
      exact hb28 (x5 + 5) μ r125.2 r122.2 dd hf
    · have hf := ite_t c130 hf
      refine E_aload_n 820 5 dL_law_819 rfl rfl rfl ?_
      refine E_iconst 821 0 dL_law_820 cst_iconst0 rfl ?_
      obtain ⟨h131, hf⟩ := chk_some hf
      refine E_lald 822 h131 dL_law_821 rfl ?_
      refine E_iload 824 0 dL_law_822 rfl rfl ?_
      refine E_i2l 825 dL_law_824 rfl ?_
      refine E_lcmp 826 dL_law_825 rfl ?_
      refine E_if_eq 831 829 dL_law_826 (by decide) rfl (fun c132 => ?_) (fun c132 => ?_)
      · have hf := ite_t c132 hf
        refine E_goto 2972 dL_law_831 (by decide) ?_
        refine E_iinc 2975 [(5, .int (x5 + 5)), (7, .int r125.1), (6, .int r122.1), (0, .ref b), (1, .ref (gaC g 0)), (2, .ref (gaM g 0)), (3, .ref (gao g 0)), (4, .ref (gao g 1))] 7 (v := x5 + 5) dL_law_2972 rfl (by rw [cst_iconst5]) (by decide) rfl rfl ?_
        refine E_goto 28 dL_law_2975 (by decide) ?_
        refine E_sub [3, 4, 5, 6, 7, 0] rfl ?_
        refine E_up (u' := u + 4) (by omega) ?_
        exact hb28 (x5 + 5) μ r125.2 r122.2 dd hf
      · have hf := ite_e c132 hf
        refine E_iconst 830 0 dL_law_829 cst_iconst0 rfl ?_
        cases hf
  · have hf := ite_e c129 hf
    refine E_iconst 813 0 dL_law_812 cst_iconst0 rfl ?_
    cases hf
set_option maxRecDepth 100000 in
set_option maxHeartbeats 4000000 in
theorem j_L_law_s_J834 {l : Launch} {g : Gt} {b u : Nat} (hl : l.stackTraces = false) (hu : u ≤ 2090) {μ : Mm} {ν : Mm} {o : Nat → Int64} {dd : Nat → UInt64} {Ls : Nat} {xs : Nat → Int32} {kb28 : (Int32 → Mm → Mm → (Nat → Int64) → (Nat → UInt64) → Option Unit)} {x5 : Int32}  {res : Unit} (hb28 : ∀ (v5 : Int32) (μ' : Mm) (ν' : Mm) (o' : Nat → Int64) (dd' : Nat → UInt64), kb28 v5 μ' ν' o' dd' = some res → E l g z_L_law 28 [(0, .ref b), (1, .ref (gaC g 0)), (2, .ref (gaM g 0)), (3, .ref (gao g 0)), (4, .ref (gao g 1)), (5, .int v5)] [] (μ', ν', o', dd') (u + 4) (Qlaw g b Ls xs)) (hf : f_L_law_s_J834 Ls xs kb28 x5 μ ν o dd = some res) : E l g z_L_law 834 [(0, .ref b), (1, .ref (gaC g 0)), (2, .ref (gaM g 0)), (3, .ref (gao g 0)), (4, .ref (gao g 1)), (5, .int x5)] [] (μ, ν, o, dd) (u + 0) (Qlaw g b Ls xs) := by
  unfold f_L_law_s_J834 at hf
  refine E_aload_n 835 1 dL_law_834 rfl rfl rfl ?_
  refine E_aload_n 836 0 dL_law_835 rfl rfl rfl ?_
  refine E_iload 838 5 dL_law_836 rfl rfl ?_
  refine E_iconst 839 1 dL_law_838 cst_iconst1 rfl ?_
  refine E_iadd 840 dL_law_839 rfl ?_
  obtain ⟨h133, hf⟩ := chk_some hf
  refine E_sld 841 h133 dL_law_840 rfl ?_
  refine E_aload_n 842 0 dL_law_841 rfl rfl rfl ?_
  refine E_iload 844 5 dL_law_842 rfl rfl ?_
  refine E_iconst 845 2 dL_law_844 cst_iconst2 rfl ?_
  refine E_iadd 846 dL_law_845 rfl ?_
  obtain ⟨h134, hf⟩ := chk_some hf
  refine E_sld 847 h134 dL_law_846 rfl ?_
  refine E_aload_n 848 3 dL_law_847 rfl rfl rfl ?_
  obtain ⟨r135, hc136, hf⟩ := bnd hf
  refine E_callH1 851 (u + 2) [] [.int r135.1] (c_L_sentBy_0_o hl hc136) my_L_sentBy kl_L_202 rfl rfl (Nat.le_of_ble_eq_true rfl) (rmlaw (by omega) rfl) dL_law_848 rfl rfl rfl ?_
  refine E_istore 853 [(6, .int r135.1), (0, .ref b), (1, .ref (gaC g 0)), (2, .ref (gaM g 0)), (3, .ref (gao g 0)), (4, .ref (gao g 1)), (5, .int x5)] dL_law_851 (by decide) rfl rfl ?_
  refine E_aload_n 854 3 dL_law_853 rfl rfl rfl ?_
  refine E_aload_n 855 1 dL_law_854 rfl rfl rfl ?_
  refine E_iload 857 6 dL_law_855 rfl rfl ?_
  refine E_iconst 858 1 dL_law_857 cst_iconst1 rfl ?_
  refine E_iadd 859 dL_law_858 rfl ?_
  obtain ⟨h137, hf⟩ := chk_some hf
  refine E_sld 860 h137 dL_law_859 rfl ?_
  refine E_aload_n 861 1 dL_law_860 rfl rfl rfl ?_
  refine E_iload 863 6 dL_law_861 rfl rfl ?_
  refine E_iconst 864 2 dL_law_863 cst_iconst2 rfl ?_
  refine E_iadd 865 dL_law_864 rfl ?_
  obtain ⟨h138, hf⟩ := chk_some hf
  refine E_sld 866 h138 dL_law_865 rfl ?_
  obtain ⟨r139, hc140, hf⟩ := bnd hf
  refine E_callVM1 869 (u + 2) [] [.int r139.1] (c_X8_sentBy hl hc140) my_X8_sentBy rc_X8 kl_L_205 rfl rfl (Nat.le_of_ble_eq_true rfl) (rmlaw (by omega) rfl) dL_law_866 rfl rfl rfl ?_
  refine E_istore 871 [(7, .int r139.1), (6, .int r135.1), (0, .ref b), (1, .ref (gaC g 0)), (2, .ref (gaM g 0)), (3, .ref (gao g 0)), (4, .ref (gao g 1)), (5, .int x5)] dL_law_869 (by decide) rfl rfl ?_
  refine E_aload_n 872 4 dL_law_871 rfl rfl rfl ?_
  obtain ⟨r141, hc142, hf⟩ := bnd hf
  refine E_callVM1 875 (u + 2) [] [.int r141] (c_X8_thrown hl hc142) my_X8_thrown rc_X8 kl_L_163 rfl rfl (Nat.le_of_ble_eq_true rfl) (rmlaw (by omega) rfl) dL_law_872 rfl rfl rfl ?_
  refine E_iload 877 1 dL_law_875 rfl rfl ?_
  refine E_icmp_eq 882 880 dL_law_877 (by decide) rfl (fun c143 => ?_) (fun c143 => ?_)
  · have hf := ite_t c143 hf
    refine E_iload 884 1 dL_law_882 rfl rfl ?_
    refine E_if_ne 899 887 dL_law_884 (by decide) rfl (fun c144 => ?_) (fun c144 => ?_)
    · have hf := ite_e c144 hf
      refine E_goto 2972 dL_law_899 (by decide) ?_
      refine E_iinc 2975 [(5, .int (x5 + 5)), (7, .int r139.1), (6, .int r135.1), (0, .ref b), (1, .ref (gaC g 0)), (2, .ref (gaM g 0)), (3, .ref (gao g 0)), (4, .ref (gao g 1))] 7 (v := x5 + 5) dL_law_2972 rfl (by rw [cst_iconst5]) (by decide) rfl rfl ?_
      refine E_goto 28 dL_law_2975 (by decide) ?_
      refine E_sub [3, 4, 5, 6, 7, 0] rfl ?_
      refine E_up (u' := u + 4) (by omega) ?_
      exact hb28 (x5 + 5) μ r139.2 r135.2 dd hf
    · have hf := ite_t c144 hf
      refine E_aload_n 888 5 dL_law_887 rfl rfl rfl ?_
      refine E_iconst 889 0 dL_law_888 cst_iconst0 rfl ?_
      obtain ⟨h145, hf⟩ := chk_some hf
      refine E_lald 890 h145 dL_law_889 rfl ?_
      refine E_iload 892 0 dL_law_890 rfl rfl ?_
      refine E_i2l 893 dL_law_892 rfl ?_
      refine E_lcmp 894 dL_law_893 rfl ?_
      refine E_if_eq 899 897 dL_law_894 (by decide) rfl (fun c146 => ?_) (fun c146 => ?_)
      · have hf := ite_t c146 hf
        refine E_goto 2972 dL_law_899 (by decide) ?_
        refine E_iinc 2975 [(5, .int (x5 + 5)), (7, .int r139.1), (6, .int r135.1), (0, .ref b), (1, .ref (gaC g 0)), (2, .ref (gaM g 0)), (3, .ref (gao g 0)), (4, .ref (gao g 1))] 7 (v := x5 + 5) dL_law_2972 rfl (by rw [cst_iconst5]) (by decide) rfl rfl ?_
        refine E_goto 28 dL_law_2975 (by decide) ?_
        refine E_sub [3, 4, 5, 6, 7, 0] rfl ?_
        refine E_up (u' := u + 4) (by omega) ?_
        exact hb28 (x5 + 5) μ r139.2 r135.2 dd hf
      · have hf := ite_e c146 hf
        refine E_iconst 898 0 dL_law_897 cst_iconst0 rfl ?_
        cases hf
  · have hf := ite_e c143 hf
    refine E_iconst 881 0 dL_law_880 cst_iconst0 rfl ?_
    cases hf
set_option maxRecDepth 100000 in
set_option maxHeartbeats 4000000 in
theorem j_L_law_s_J902 {l : Launch} {g : Gt} {b u : Nat} (hl : l.stackTraces = false) (hu : u ≤ 2090) {μ : Mm} {ν : Mm} {o : Nat → Int64} {dd : Nat → UInt64} {Ls : Nat} {xs : Nat → Int32} {kb28 : (Int32 → Mm → Mm → (Nat → Int64) → (Nat → UInt64) → Option Unit)} {x5 : Int32}  {res : Unit} (hb28 : ∀ (v5 : Int32) (μ' : Mm) (ν' : Mm) (o' : Nat → Int64) (dd' : Nat → UInt64), kb28 v5 μ' ν' o' dd' = some res → E l g z_L_law 28 [(0, .ref b), (1, .ref (gaC g 0)), (2, .ref (gaM g 0)), (3, .ref (gao g 0)), (4, .ref (gao g 1)), (5, .int v5)] [] (μ', ν', o', dd') (u + 4) (Qlaw g b Ls xs)) (hf : f_L_law_s_J902 Ls xs kb28 x5 μ ν o dd = some res) : E l g z_L_law 902 [(0, .ref b), (1, .ref (gaC g 0)), (2, .ref (gaM g 0)), (3, .ref (gao g 0)), (4, .ref (gao g 1)), (5, .int x5)] [] (μ, ν, o, dd) (u + 0) (Qlaw g b Ls xs) := by
  unfold f_L_law_s_J902 at hf
  refine E_aload_n 903 1 dL_law_902 rfl rfl rfl ?_
  refine E_aload_n 904 0 dL_law_903 rfl rfl rfl ?_
  refine E_iload 906 5 dL_law_904 rfl rfl ?_
  refine E_iconst 907 1 dL_law_906 cst_iconst1 rfl ?_
  refine E_iadd 908 dL_law_907 rfl ?_
  obtain ⟨h147, hf⟩ := chk_some hf
  refine E_sld 909 h147 dL_law_908 rfl ?_
  refine E_aload_n 910 0 dL_law_909 rfl rfl rfl ?_
  refine E_iload 912 5 dL_law_910 rfl rfl ?_
  refine E_iconst 913 2 dL_law_912 cst_iconst2 rfl ?_
  refine E_iadd 914 dL_law_913 rfl ?_
  obtain ⟨h148, hf⟩ := chk_some hf
  refine E_sld 915 h148 dL_law_914 rfl ?_
  refine E_aload_n 916 3 dL_law_915 rfl rfl rfl ?_
  obtain ⟨r149, hc150, hf⟩ := bnd hf
  refine E_callH1 919 (u + 2) [] [.int r149.1] (c_L_sentByAnew_0_o hl hc150) my_L_sentByAnew kl_L_206 rfl rfl (Nat.le_of_ble_eq_true rfl) (rmlaw (by omega) rfl) dL_law_916 rfl rfl rfl ?_
  refine E_istore 921 [(6, .int r149.1), (0, .ref b), (1, .ref (gaC g 0)), (2, .ref (gaM g 0)), (3, .ref (gao g 0)), (4, .ref (gao g 1)), (5, .int x5)] dL_law_919 (by decide) rfl rfl ?_
  refine E_aload_n 922 3 dL_law_921 rfl rfl rfl ?_
  refine E_aload_n 923 1 dL_law_922 rfl rfl rfl ?_
  refine E_iload 925 6 dL_law_923 rfl rfl ?_
  refine E_iconst 926 1 dL_law_925 cst_iconst1 rfl ?_
  refine E_iadd 927 dL_law_926 rfl ?_
  obtain ⟨h151, hf⟩ := chk_some hf
  refine E_sld 928 h151 dL_law_927 rfl ?_
  refine E_aload_n 929 1 dL_law_928 rfl rfl rfl ?_
  refine E_iload 931 6 dL_law_929 rfl rfl ?_
  refine E_iconst 932 2 dL_law_931 cst_iconst2 rfl ?_
  refine E_iadd 933 dL_law_932 rfl ?_
  obtain ⟨h152, hf⟩ := chk_some hf
  refine E_sld 934 h152 dL_law_933 rfl ?_
  obtain ⟨r153, hc154, hf⟩ := bnd hf
  refine E_callVM1 937 (u + 2) [] [.int r153.1] (c_X8_sentByAnew hl hc154) my_X8_sentByAnew rc_X8 kl_L_208 rfl rfl (Nat.le_of_ble_eq_true rfl) (rmlaw (by omega) rfl) dL_law_934 rfl rfl rfl ?_
  refine E_istore 939 [(7, .int r153.1), (6, .int r149.1), (0, .ref b), (1, .ref (gaC g 0)), (2, .ref (gaM g 0)), (3, .ref (gao g 0)), (4, .ref (gao g 1)), (5, .int x5)] dL_law_937 (by decide) rfl rfl ?_
  refine E_aload_n 940 4 dL_law_939 rfl rfl rfl ?_
  obtain ⟨r155, hc156, hf⟩ := bnd hf
  refine E_callVM1 943 (u + 2) [] [.int r155] (c_X8_thrown hl hc156) my_X8_thrown rc_X8 kl_L_163 rfl rfl (Nat.le_of_ble_eq_true rfl) (rmlaw (by omega) rfl) dL_law_940 rfl rfl rfl ?_
  refine E_iload 945 1 dL_law_943 rfl rfl ?_
  refine E_icmp_eq 950 948 dL_law_945 (by decide) rfl (fun c157 => ?_) (fun c157 => ?_)
  · have hf := ite_t c157 hf
    refine E_iload 952 1 dL_law_950 rfl rfl ?_
    refine E_if_ne 967 955 dL_law_952 (by decide) rfl (fun c158 => ?_) (fun c158 => ?_)
    · have hf := ite_e c158 hf
      refine E_goto 2972 dL_law_967 (by decide) ?_
      refine E_iinc 2975 [(5, .int (x5 + 5)), (7, .int r153.1), (6, .int r149.1), (0, .ref b), (1, .ref (gaC g 0)), (2, .ref (gaM g 0)), (3, .ref (gao g 0)), (4, .ref (gao g 1))] 7 (v := x5 + 5) dL_law_2972 rfl (by rw [cst_iconst5]) (by decide) rfl rfl ?_
      refine E_goto 28 dL_law_2975 (by decide) ?_
      refine E_sub [3, 4, 5, 6, 7, 0] rfl ?_
      refine E_up (u' := u + 4) (by omega) ?_
      exact hb28 (x5 + 5) μ r153.2 r149.2 dd hf
    · have hf := ite_t c158 hf
      refine E_aload_n 956 5 dL_law_955 rfl rfl rfl ?_
      refine E_iconst 957 0 dL_law_956 cst_iconst0 rfl ?_
      obtain ⟨h159, hf⟩ := chk_some hf
      refine E_lald 958 h159 dL_law_957 rfl ?_
      refine E_iload 960 0 dL_law_958 rfl rfl ?_
      refine E_i2l 961 dL_law_960 rfl ?_
      refine E_lcmp 962 dL_law_961 rfl ?_
      refine E_if_eq 967 965 dL_law_962 (by decide) rfl (fun c160 => ?_) (fun c160 => ?_)
      · have hf := ite_t c160 hf
        refine E_goto 2972 dL_law_967 (by decide) ?_
        refine E_iinc 2975 [(5, .int (x5 + 5)), (7, .int r153.1), (6, .int r149.1), (0, .ref b), (1, .ref (gaC g 0)), (2, .ref (gaM g 0)), (3, .ref (gao g 0)), (4, .ref (gao g 1))] 7 (v := x5 + 5) dL_law_2972 rfl (by rw [cst_iconst5]) (by decide) rfl rfl ?_
        refine E_goto 28 dL_law_2975 (by decide) ?_
        refine E_sub [3, 4, 5, 6, 7, 0] rfl ?_
        refine E_up (u' := u + 4) (by omega) ?_
        exact hb28 (x5 + 5) μ r153.2 r149.2 dd hf
      · have hf := ite_e c160 hf
        refine E_iconst 966 0 dL_law_965 cst_iconst0 rfl ?_
        cases hf
  · have hf := ite_e c157 hf
    refine E_iconst 949 0 dL_law_948 cst_iconst0 rfl ?_
    cases hf
set_option maxRecDepth 100000 in
set_option maxHeartbeats 4000000 in
theorem j_L_law_s_J970 {l : Launch} {g : Gt} {b u : Nat} (hl : l.stackTraces = false) (hu : u ≤ 2090) {μ : Mm} {ν : Mm} {o : Nat → Int64} {dd : Nat → UInt64} {Ls : Nat} {xs : Nat → Int32} {kb28 : (Int32 → Mm → Mm → (Nat → Int64) → (Nat → UInt64) → Option Unit)} {x5 : Int32}  {res : Unit} (hb28 : ∀ (v5 : Int32) (μ' : Mm) (ν' : Mm) (o' : Nat → Int64) (dd' : Nat → UInt64), kb28 v5 μ' ν' o' dd' = some res → E l g z_L_law 28 [(0, .ref b), (1, .ref (gaC g 0)), (2, .ref (gaM g 0)), (3, .ref (gao g 0)), (4, .ref (gao g 1)), (5, .int v5)] [] (μ', ν', o', dd') (u + 4) (Qlaw g b Ls xs)) (hf : f_L_law_s_J970 Ls xs kb28 x5 μ ν o dd = some res) : E l g z_L_law 970 [(0, .ref b), (1, .ref (gaC g 0)), (2, .ref (gaM g 0)), (3, .ref (gao g 0)), (4, .ref (gao g 1)), (5, .int x5)] [] (μ, ν, o, dd) (u + 0) (Qlaw g b Ls xs) := by
  unfold f_L_law_s_J970 at hf
  refine E_aload_n 971 1 dL_law_970 rfl rfl rfl ?_
  obtain ⟨r161, hc162, hf⟩ := bnd hf
  refine E_callVC1 974 (u + 0) [] [.int r161] (c_X7_kept hl hc162) my_X7_kept rc_X7 kl_L_209 rfl rfl (Nat.le_of_ble_eq_true rfl) (rmlaw (by omega) rfl) dL_law_971 rfl rfl rfl ?_
  refine E_aload_n 975 2 dL_law_974 rfl rfl rfl ?_
  obtain ⟨r163, hc164, hf⟩ := bnd hf
  refine E_callVM1 978 (u + 0) [.int r161] [.int r163.1, .int r161] (c_X8_kept hl hc164) my_X8_kept rc_X8 kl_L_212 rfl rfl (Nat.le_of_ble_eq_true rfl) (rmlaw (by omega) rfl) dL_law_975 rfl rfl rfl ?_
  refine E_icmp_eq 2972 981 dL_law_978 (by decide) rfl (fun c165 => ?_) (fun c165 => ?_)
  · have hf := ite_t c165 hf
    refine E_iinc 2975 [(5, .int (x5 + 5)), (0, .ref b), (1, .ref (gaC g 0)), (2, .ref (gaM g 0)), (3, .ref (gao g 0)), (4, .ref (gao g 1))] 5 (v := x5 + 5) dL_law_2972 rfl (by rw [cst_iconst5]) (by decide) rfl rfl ?_
    refine E_goto 28 dL_law_2975 (by decide) ?_
    refine E_sub [1, 2, 3, 4, 5, 0] rfl ?_
    refine E_up (u' := u + 4) (by omega) ?_
    exact hb28 (x5 + 5) μ r163.2 o dd hf
  · have hf := ite_e c165 hf
    refine E_iconst 982 0 dL_law_981 cst_iconst0 rfl ?_
    cases hf
set_option maxRecDepth 100000 in
set_option maxHeartbeats 4000000 in
theorem j_L_law_s_J983 {l : Launch} {g : Gt} {b u : Nat} (hl : l.stackTraces = false) (hu : u ≤ 2090) {μ : Mm} {ν : Mm} {o : Nat → Int64} {dd : Nat → UInt64} {Ls : Nat} {xs : Nat → Int32} {kb28 : (Int32 → Mm → Mm → (Nat → Int64) → (Nat → UInt64) → Option Unit)} {x5 : Int32}  {res : Unit} (hb28 : ∀ (v5 : Int32) (μ' : Mm) (ν' : Mm) (o' : Nat → Int64) (dd' : Nat → UInt64), kb28 v5 μ' ν' o' dd' = some res → E l g z_L_law 28 [(0, .ref b), (1, .ref (gaC g 0)), (2, .ref (gaM g 0)), (3, .ref (gao g 0)), (4, .ref (gao g 1)), (5, .int v5)] [] (μ', ν', o', dd') (u + 4) (Qlaw g b Ls xs)) (hf : f_L_law_s_J983 Ls xs kb28 x5 μ ν o dd = some res) : E l g z_L_law 983 [(0, .ref b), (1, .ref (gaC g 0)), (2, .ref (gaM g 0)), (3, .ref (gao g 0)), (4, .ref (gao g 1)), (5, .int x5)] [] (μ, ν, o, dd) (u + 0) (Qlaw g b Ls xs) := by
  unfold f_L_law_s_J983 at hf
  refine E_aload_n 984 1 dL_law_983 rfl rfl rfl ?_
  refine E_aload_n 985 0 dL_law_984 rfl rfl rfl ?_
  refine E_iload 987 5 dL_law_985 rfl rfl ?_
  refine E_iconst 988 1 dL_law_987 cst_iconst1 rfl ?_
  refine E_iadd 989 dL_law_988 rfl ?_
  obtain ⟨h166, hf⟩ := chk_some hf
  refine E_sld 990 h166 dL_law_989 rfl ?_
  refine E_aload_n 991 0 dL_law_990 rfl rfl rfl ?_
  refine E_iload 993 5 dL_law_991 rfl rfl ?_
  refine E_iconst 994 2 dL_law_993 cst_iconst2 rfl ?_
  refine E_iadd 995 dL_law_994 rfl ?_
  obtain ⟨h167, hf⟩ := chk_some hf
  refine E_sld 996 h167 dL_law_995 rfl ?_
  refine E_i2c 997 dL_law_996 rfl ?_
  refine E_aload_n 998 0 dL_law_997 rfl rfl rfl ?_
  refine E_iload 1000 5 dL_law_998 rfl rfl ?_
  refine E_iconst 1001 3 dL_law_1000 cst_iconst3 rfl ?_
  refine E_iadd 1002 dL_law_1001 rfl ?_
  obtain ⟨h168, hf⟩ := chk_some hf
  refine E_sld 1003 h168 dL_law_1002 rfl ?_
  refine E_aload_n 1004 3 dL_law_1003 rfl rfl rfl ?_
  obtain ⟨r169, hc170, hf⟩ := bnd hf
  refine E_callH1 1007 (u + 3) [] [.int r169.1] (c_L_valueOf_0_o hl hc170) my_L_valueOf kl_L_213 rfl rfl (Nat.le_of_ble_eq_true rfl) (rmlaw (by omega) rfl) dL_law_1004 rfl rfl rfl ?_
  refine E_istore 1009 [(6, .int r169.1), (0, .ref b), (1, .ref (gaC g 0)), (2, .ref (gaM g 0)), (3, .ref (gao g 0)), (4, .ref (gao g 1)), (5, .int x5)] dL_law_1007 (by decide) rfl rfl ?_
  refine E_aload_n 1010 3 dL_law_1009 rfl rfl rfl ?_
  refine E_aload_n 1011 1 dL_law_1010 rfl rfl rfl ?_
  refine E_iload 1013 6 dL_law_1011 rfl rfl ?_
  refine E_iconst 1014 1 dL_law_1013 cst_iconst1 rfl ?_
  refine E_iadd 1015 dL_law_1014 rfl ?_
  obtain ⟨h171, hf⟩ := chk_some hf
  refine E_sld 1016 h171 dL_law_1015 rfl ?_
  refine E_aload_n 1017 1 dL_law_1016 rfl rfl rfl ?_
  refine E_iload 1019 6 dL_law_1017 rfl rfl ?_
  refine E_iconst 1020 2 dL_law_1019 cst_iconst2 rfl ?_
  refine E_iadd 1021 dL_law_1020 rfl ?_
  obtain ⟨h172, hf⟩ := chk_some hf
  refine E_sld 1022 h172 dL_law_1021 rfl ?_
  refine E_i2c 1023 dL_law_1022 rfl ?_
  refine E_aload_n 1024 1 dL_law_1023 rfl rfl rfl ?_
  refine E_iload 1026 6 dL_law_1024 rfl rfl ?_
  refine E_iconst 1027 3 dL_law_1026 cst_iconst3 rfl ?_
  refine E_iadd 1028 dL_law_1027 rfl ?_
  obtain ⟨h173, hf⟩ := chk_some hf
  refine E_sld 1029 h173 dL_law_1028 rfl ?_
  obtain ⟨r174, hc175, hf⟩ := bnd hf
  refine E_callVM1 1032 (u + 3) [] [.int r174.1] (c_X8_valueOf hl hc175) my_X8_valueOf rc_X8 kl_L_216 rfl rfl (Nat.le_of_ble_eq_true rfl) (rmlaw (by omega) rfl) dL_law_1029 rfl rfl rfl ?_
  refine E_istore 1034 [(7, .int r174.1), (6, .int r169.1), (0, .ref b), (1, .ref (gaC g 0)), (2, .ref (gaM g 0)), (3, .ref (gao g 0)), (4, .ref (gao g 1)), (5, .int x5)] dL_law_1032 (by decide) rfl rfl ?_
  refine E_aload_n 1035 4 dL_law_1034 rfl rfl rfl ?_
  obtain ⟨r176, hc177, hf⟩ := bnd hf
  refine E_callVM1 1038 (u + 3) [] [.int r176] (c_X8_thrown hl hc177) my_X8_thrown rc_X8 kl_L_163 rfl rfl (Nat.le_of_ble_eq_true rfl) (rmlaw (by omega) rfl) dL_law_1035 rfl rfl rfl ?_
  refine E_iload 1040 1 dL_law_1038 rfl rfl ?_
  refine E_icmp_eq 1045 1043 dL_law_1040 (by decide) rfl (fun c178 => ?_) (fun c178 => ?_)
  · have hf := ite_t c178 hf
    refine E_iload 1047 1 dL_law_1045 rfl rfl ?_
    refine E_if_ne 1062 1050 dL_law_1047 (by decide) rfl (fun c179 => ?_) (fun c179 => ?_)
    · have hf := ite_e c179 hf
      refine E_goto 2972 dL_law_1062 (by decide) ?_
      refine E_iinc 2975 [(5, .int (x5 + 5)), (7, .int r174.1), (6, .int r169.1), (0, .ref b), (1, .ref (gaC g 0)), (2, .ref (gaM g 0)), (3, .ref (gao g 0)), (4, .ref (gao g 1))] 7 (v := x5 + 5) dL_law_2972 rfl (by rw [cst_iconst5]) (by decide) rfl rfl ?_
      refine E_goto 28 dL_law_2975 (by decide) ?_
      refine E_sub [3, 4, 5, 6, 7, 0] rfl ?_
      refine E_up (u' := u + 4) (by omega) ?_
      exact hb28 (x5 + 5) r169.2.1 r174.2 r169.2.2 dd hf
    · have hf := ite_t c179 hf
      refine E_aload_n 1051 5 dL_law_1050 rfl rfl rfl ?_
      refine E_iconst 1052 0 dL_law_1051 cst_iconst0 rfl ?_
      obtain ⟨h180, hf⟩ := chk_some hf
      refine E_lald 1053 h180 dL_law_1052 rfl ?_
      refine E_iload 1055 0 dL_law_1053 rfl rfl ?_
      refine E_i2l 1056 dL_law_1055 rfl ?_
      refine E_lcmp 1057 dL_law_1056 rfl ?_
      refine E_if_eq 1062 1060 dL_law_1057 (by decide) rfl (fun c181 => ?_) (fun c181 => ?_)
      · have hf := ite_t c181 hf
        refine E_goto 2972 dL_law_1062 (by decide) ?_
        refine E_iinc 2975 [(5, .int (x5 + 5)), (7, .int r174.1), (6, .int r169.1), (0, .ref b), (1, .ref (gaC g 0)), (2, .ref (gaM g 0)), (3, .ref (gao g 0)), (4, .ref (gao g 1))] 7 (v := x5 + 5) dL_law_2972 rfl (by rw [cst_iconst5]) (by decide) rfl rfl ?_
        refine E_goto 28 dL_law_2975 (by decide) ?_
        refine E_sub [3, 4, 5, 6, 7, 0] rfl ?_
        refine E_up (u' := u + 4) (by omega) ?_
        exact hb28 (x5 + 5) r169.2.1 r174.2 r169.2.2 dd hf
      · have hf := ite_e c181 hf
        refine E_iconst 1061 0 dL_law_1060 cst_iconst0 rfl ?_
        cases hf
  · have hf := ite_e c178 hf
    refine E_iconst 1044 0 dL_law_1043 cst_iconst0 rfl ?_
    cases hf
set_option maxRecDepth 100000 in
set_option maxHeartbeats 4000000 in
theorem j_L_law_s_J1133 {l : Launch} {g : Gt} {b u : Nat} (hl : l.stackTraces = false) (hu : u ≤ 2090) {μ : Mm} {ν : Mm} {o : Nat → Int64} {dd : Nat → UInt64} {Ls : Nat} {xs : Nat → Int32} {kb28 : (Int32 → Mm → Mm → (Nat → Int64) → (Nat → UInt64) → Option Unit)} {x5 : Int32} {x6 : Int32} {s0 : Int32} {s1 : Int32} {s2 : Int32} {res : Unit} (hb28 : ∀ (v5 : Int32) (μ' : Mm) (ν' : Mm) (o' : Nat → Int64) (dd' : Nat → UInt64), kb28 v5 μ' ν' o' dd' = some res → E l g z_L_law 28 [(0, .ref b), (1, .ref (gaC g 0)), (2, .ref (gaM g 0)), (3, .ref (gao g 0)), (4, .ref (gao g 1)), (5, .int v5)] [] (μ', ν', o', dd') (u + 4) (Qlaw g b Ls xs)) (hf : f_L_law_s_J1133 Ls xs kb28 x5 x6 s0 s1 s2 μ ν o dd = some res) : E l g z_L_law 1133 [(0, .ref b), (1, .ref (gaC g 0)), (2, .ref (gaM g 0)), (3, .ref (gao g 0)), (4, .ref (gao g 1)), (5, .int x5), (6, .int x6)] [.int s0, .int s1, .int s2, .ref (gaM g 0)] (μ, ν, o, dd) (u + 3) (Qlaw g b Ls xs) := by
  unfold f_L_law_s_J1133 at hf
  refine E_aload_n 1134 0 dL_law_1133 rfl rfl rfl ?_
  refine E_iload 1136 5 dL_law_1134 rfl rfl ?_
  refine E_iconst 1137 4 dL_law_1136 cst_iconst4 rfl ?_
  refine E_iadd 1138 dL_law_1137 rfl ?_
  obtain ⟨h193, hf⟩ := chk_some hf
  refine E_sld 1139 h193 dL_law_1138 rfl ?_
  obtain ⟨r194, hc195, hf⟩ := bnd hf
  refine E_callVM1 1142 (u + 3) [] [.int r194.1] (c_X8_addTest hl hc195) my_X8_addTest rc_X8 kl_L_220 rfl rfl (Nat.le_of_ble_eq_true rfl) (rmlaw (by omega) rfl) dL_law_1139 rfl rfl rfl ?_
  refine E_istore 1144 [(7, .int r194.1), (0, .ref b), (1, .ref (gaC g 0)), (2, .ref (gaM g 0)), (3, .ref (gao g 0)), (4, .ref (gao g 1)), (5, .int x5), (6, .int x6)] dL_law_1142 (by decide) rfl rfl ?_
  refine E_aload_n 1145 3 dL_law_1144 rfl rfl rfl ?_
  obtain ⟨r196, hc197, hf⟩ := bnd hf
  refine E_callVM1 1148 (u + 3) [] [.int r196] (c_X8_thrown hl hc197) my_X8_thrown rc_X8 kl_L_163 rfl rfl (Nat.le_of_ble_eq_true rfl) (rmlaw (by omega) rfl) dL_law_1145 rfl rfl rfl ?_
  refine E_iload 1150 7 dL_law_1148 rfl rfl ?_
  refine E_icmp_eq 1155 1153 dL_law_1150 (by decide) rfl (fun c198 => ?_) (fun c198 => ?_)
  · have hf := ite_t c198 hf
    refine E_iload 1157 7 dL_law_1155 rfl rfl ?_
    refine E_if_ne 1172 1160 dL_law_1157 (by decide) rfl (fun c199 => ?_) (fun c199 => ?_)
    · have hf := ite_e c199 hf
      refine E_goto 2972 dL_law_1172 (by decide) ?_
      refine E_iinc 2975 [(5, .int (x5 + 5)), (7, .int r194.1), (0, .ref b), (1, .ref (gaC g 0)), (2, .ref (gaM g 0)), (3, .ref (gao g 0)), (4, .ref (gao g 1)), (6, .int x6)] 6 (v := x5 + 5) dL_law_2972 rfl (by rw [cst_iconst5]) (by decide) rfl rfl ?_
      refine E_goto 28 dL_law_2975 (by decide) ?_
      refine E_sub [2, 3, 4, 5, 6, 0] rfl ?_
      refine E_up (u' := u + 4) (by omega) ?_
      exact hb28 (x5 + 5) μ r194.2 o dd hf
    · have hf := ite_t c199 hf
      refine E_aload_n 1161 4 dL_law_1160 rfl rfl rfl ?_
      refine E_iconst 1162 0 dL_law_1161 cst_iconst0 rfl ?_
      obtain ⟨h200, hf⟩ := chk_some hf
      refine E_lald 1163 h200 dL_law_1162 rfl ?_
      refine E_iload 1165 0 dL_law_1163 rfl rfl ?_
      refine E_i2l 1166 dL_law_1165 rfl ?_
      refine E_lcmp 1167 dL_law_1166 rfl ?_
      refine E_if_eq 1172 1170 dL_law_1167 (by decide) rfl (fun c201 => ?_) (fun c201 => ?_)
      · have hf := ite_t c201 hf
        refine E_goto 2972 dL_law_1172 (by decide) ?_
        refine E_iinc 2975 [(5, .int (x5 + 5)), (7, .int r194.1), (0, .ref b), (1, .ref (gaC g 0)), (2, .ref (gaM g 0)), (3, .ref (gao g 0)), (4, .ref (gao g 1)), (6, .int x6)] 6 (v := x5 + 5) dL_law_2972 rfl (by rw [cst_iconst5]) (by decide) rfl rfl ?_
        refine E_goto 28 dL_law_2975 (by decide) ?_
        refine E_sub [2, 3, 4, 5, 6, 0] rfl ?_
        refine E_up (u' := u + 4) (by omega) ?_
        exact hb28 (x5 + 5) μ r194.2 o dd hf
      · have hf := ite_e c201 hf
        refine E_iconst 1171 0 dL_law_1170 cst_iconst0 rfl ?_
        cases hf
  · have hf := ite_e c198 hf
    refine E_iconst 1154 0 dL_law_1153 cst_iconst0 rfl ?_
    cases hf
set_option maxRecDepth 100000 in
set_option maxHeartbeats 4000000 in
theorem j_L_law_s_J1093 {l : Launch} {g : Gt} {b u : Nat} (hl : l.stackTraces = false) (hu : u ≤ 2090) {μ : Mm} {ν : Mm} {o : Nat → Int64} {dd : Nat → UInt64} {Ls : Nat} {xs : Nat → Int32} {kb28 : (Int32 → Mm → Mm → (Nat → Int64) → (Nat → UInt64) → Option Unit)} {x5 : Int32} {s0 : Int32} {s1 : Int32} {s2 : Int32} {res : Unit} (hb28 : ∀ (v5 : Int32) (μ' : Mm) (ν' : Mm) (o' : Nat → Int64) (dd' : Nat → UInt64), kb28 v5 μ' ν' o' dd' = some res → E l g z_L_law 28 [(0, .ref b), (1, .ref (gaC g 0)), (2, .ref (gaM g 0)), (3, .ref (gao g 0)), (4, .ref (gao g 1)), (5, .int v5)] [] (μ', ν', o', dd') (u + 4) (Qlaw g b Ls xs)) (hf : f_L_law_s_J1093 Ls xs kb28 x5 s0 s1 s2 μ ν o dd = some res) : E l g z_L_law 1093 [(0, .ref b), (1, .ref (gaC g 0)), (2, .ref (gaM g 0)), (3, .ref (gao g 0)), (4, .ref (gao g 1)), (5, .int x5)] [.int s0, .int s1, .int s2, .ref (gaC g 0)] (μ, ν, o, dd) (u + 0) (Qlaw g b Ls xs) := by
  unfold f_L_law_s_J1093 at hf
  refine E_aload_n 1094 0 dL_law_1093 rfl rfl rfl ?_
  refine E_iload 1096 5 dL_law_1094 rfl rfl ?_
  refine E_iconst 1097 4 dL_law_1096 cst_iconst4 rfl ?_
  refine E_iadd 1098 dL_law_1097 rfl ?_
  obtain ⟨h186, hf⟩ := chk_some hf
  refine E_sld 1099 h186 dL_law_1098 rfl ?_
  refine E_aload_n 1100 3 dL_law_1099 rfl rfl rfl ?_
  obtain ⟨r187, hc188, hf⟩ := bnd hf
  refine E_callH1 1103 (u + 3) [] [.int r187.1] (c_L_addTest_0_o hl hc188) my_L_addTest kl_L_217 rfl rfl (Nat.le_of_ble_eq_true rfl) (rmlaw (by omega) rfl) dL_law_1100 rfl rfl rfl ?_
  refine E_istore 1105 [(6, .int r187.1), (0, .ref b), (1, .ref (gaC g 0)), (2, .ref (gaM g 0)), (3, .ref (gao g 0)), (4, .ref (gao g 1)), (5, .int x5)] dL_law_1103 (by decide) rfl rfl ?_
  refine E_aload_n 1106 3 dL_law_1105 rfl rfl rfl ?_
  refine E_aload_n 1107 1 dL_law_1106 rfl rfl rfl ?_
  refine E_iload 1109 6 dL_law_1107 rfl rfl ?_
  refine E_iconst 1110 1 dL_law_1109 cst_iconst1 rfl ?_
  refine E_iadd 1111 dL_law_1110 rfl ?_
  obtain ⟨h189, hf⟩ := chk_some hf
  refine E_sld 1112 h189 dL_law_1111 rfl ?_
  refine E_i2c 1113 dL_law_1112 rfl ?_
  refine E_aload_n 1114 1 dL_law_1113 rfl rfl rfl ?_
  refine E_iload 1116 6 dL_law_1114 rfl rfl ?_
  refine E_iconst 1117 2 dL_law_1116 cst_iconst2 rfl ?_
  refine E_iadd 1118 dL_law_1117 rfl ?_
  obtain ⟨h190, hf⟩ := chk_some hf
  refine E_sld 1119 h190 dL_law_1118 rfl ?_
  refine E_aload_n 1120 1 dL_law_1119 rfl rfl rfl ?_
  refine E_iload 1122 6 dL_law_1120 rfl rfl ?_
  refine E_iconst 1123 3 dL_law_1122 cst_iconst3 rfl ?_
  refine E_iadd 1124 dL_law_1123 rfl ?_
  obtain ⟨h191, hf⟩ := chk_some hf
  refine E_sld 1125 h191 dL_law_1124 rfl ?_
  refine E_if_eq 1132 1128 dL_law_1125 (by decide) rfl (fun c192 => ?_) (fun c192 => ?_)
  · have hf := ite_t c192 hf
    refine E_iconst 1133 0 dL_law_1132 cst_iconst0 rfl ?_
    refine E_sub [1, 2, 3, 4, 5, 6, 0] rfl ?_
    exact j_L_law_s_J1133 hl hu hb28 hf
  · have hf := ite_e c192 hf
    refine E_iconst 1129 1 dL_law_1128 cst_iconst1 rfl ?_
    refine E_goto 1133 dL_law_1129 (by decide) ?_
    refine E_sub [1, 2, 3, 4, 5, 6, 0] rfl ?_
    exact j_L_law_s_J1133 hl hu hb28 hf
set_option maxRecDepth 100000 in
set_option maxHeartbeats 4000000 in
theorem j_L_law_s_J1065 {l : Launch} {g : Gt} {b u : Nat} (hl : l.stackTraces = false) (hu : u ≤ 2090) {μ : Mm} {ν : Mm} {o : Nat → Int64} {dd : Nat → UInt64} {Ls : Nat} {xs : Nat → Int32} {kb28 : (Int32 → Mm → Mm → (Nat → Int64) → (Nat → UInt64) → Option Unit)} {x5 : Int32}  {res : Unit} (hb28 : ∀ (v5 : Int32) (μ' : Mm) (ν' : Mm) (o' : Nat → Int64) (dd' : Nat → UInt64), kb28 v5 μ' ν' o' dd' = some res → E l g z_L_law 28 [(0, .ref b), (1, .ref (gaC g 0)), (2, .ref (gaM g 0)), (3, .ref (gao g 0)), (4, .ref (gao g 1)), (5, .int v5)] [] (μ', ν', o', dd') (u + 4) (Qlaw g b Ls xs)) (hf : f_L_law_s_J1065 Ls xs kb28 x5 μ ν o dd = some res) : E l g z_L_law 1065 [(0, .ref b), (1, .ref (gaC g 0)), (2, .ref (gaM g 0)), (3, .ref (gao g 0)), (4, .ref (gao g 1)), (5, .int x5)] [] (μ, ν, o, dd) (u + 0) (Qlaw g b Ls xs) := by
  unfold f_L_law_s_J1065 at hf
  refine E_aload_n 1066 1 dL_law_1065 rfl rfl rfl ?_
  refine E_aload_n 1067 0 dL_law_1066 rfl rfl rfl ?_
  refine E_iload 1069 5 dL_law_1067 rfl rfl ?_
  refine E_iconst 1070 1 dL_law_1069 cst_iconst1 rfl ?_
  refine E_iadd 1071 dL_law_1070 rfl ?_
  obtain ⟨h182, hf⟩ := chk_some hf
  refine E_sld 1072 h182 dL_law_1071 rfl ?_
  refine E_i2c 1073 dL_law_1072 rfl ?_
  refine E_aload_n 1074 0 dL_law_1073 rfl rfl rfl ?_
  refine E_iload 1076 5 dL_law_1074 rfl rfl ?_
  refine E_iconst 1077 2 dL_law_1076 cst_iconst2 rfl ?_
  refine E_iadd 1078 dL_law_1077 rfl ?_
  obtain ⟨h183, hf⟩ := chk_some hf
  refine E_sld 1079 h183 dL_law_1078 rfl ?_
  refine E_aload_n 1080 0 dL_law_1079 rfl rfl rfl ?_
  refine E_iload 1082 5 dL_law_1080 rfl rfl ?_
  refine E_iconst 1083 3 dL_law_1082 cst_iconst3 rfl ?_
  refine E_iadd 1084 dL_law_1083 rfl ?_
  obtain ⟨h184, hf⟩ := chk_some hf
  refine E_sld 1085 h184 dL_law_1084 rfl ?_
  refine E_if_eq 1092 1088 dL_law_1085 (by decide) rfl (fun c185 => ?_) (fun c185 => ?_)
  · have hf := ite_t c185 hf
    refine E_iconst 1093 0 dL_law_1092 cst_iconst0 rfl ?_
    refine E_sub [0, 1, 2, 3, 4, 5] rfl ?_
    exact j_L_law_s_J1093 hl hu hb28 hf
  · have hf := ite_e c185 hf
    refine E_iconst 1089 1 dL_law_1088 cst_iconst1 rfl ?_
    refine E_goto 1093 dL_law_1089 (by decide) ?_
    refine E_sub [0, 1, 2, 3, 4, 5] rfl ?_
    exact j_L_law_s_J1093 hl hu hb28 hf
set_option maxRecDepth 100000 in
set_option maxHeartbeats 4000000 in
theorem j_L_law_s_J1175 {l : Launch} {g : Gt} {b u : Nat} (hl : l.stackTraces = false) (hu : u ≤ 2090) {μ : Mm} {ν : Mm} {o : Nat → Int64} {dd : Nat → UInt64} {Ls : Nat} {xs : Nat → Int32} {kb28 : (Int32 → Mm → Mm → (Nat → Int64) → (Nat → UInt64) → Option Unit)} {x5 : Int32}  {res : Unit} (hb28 : ∀ (v5 : Int32) (μ' : Mm) (ν' : Mm) (o' : Nat → Int64) (dd' : Nat → UInt64), kb28 v5 μ' ν' o' dd' = some res → E l g z_L_law 28 [(0, .ref b), (1, .ref (gaC g 0)), (2, .ref (gaM g 0)), (3, .ref (gao g 0)), (4, .ref (gao g 1)), (5, .int v5)] [] (μ', ν', o', dd') (u + 4) (Qlaw g b Ls xs)) (hf : f_L_law_s_J1175 Ls xs kb28 x5 μ ν o dd = some res) : E l g z_L_law 1175 [(0, .ref b), (1, .ref (gaC g 0)), (2, .ref (gaM g 0)), (3, .ref (gao g 0)), (4, .ref (gao g 1)), (5, .int x5)] [] (μ, ν, o, dd) (u + 0) (Qlaw g b Ls xs) := by
  unfold f_L_law_s_J1175 at hf
  refine E_aload_n 1176 1 dL_law_1175 rfl rfl rfl ?_
  refine E_aload_n 1177 0 dL_law_1176 rfl rfl rfl ?_
  refine E_iload 1179 5 dL_law_1177 rfl rfl ?_
  refine E_iconst 1180 1 dL_law_1179 cst_iconst1 rfl ?_
  refine E_iadd 1181 dL_law_1180 rfl ?_
  obtain ⟨h202, hf⟩ := chk_some hf
  refine E_sld 1182 h202 dL_law_1181 rfl ?_
  refine E_aload_n 1183 0 dL_law_1182 rfl rfl rfl ?_
  refine E_iload 1185 5 dL_law_1183 rfl rfl ?_
  refine E_iconst 1186 2 dL_law_1185 cst_iconst2 rfl ?_
  refine E_iadd 1187 dL_law_1186 rfl ?_
  obtain ⟨h203, hf⟩ := chk_some hf
  refine E_sld 1188 h203 dL_law_1187 rfl ?_
  refine E_aload_n 1189 3 dL_law_1188 rfl rfl rfl ?_
  obtain ⟨r204, hc205, hf⟩ := bnd hf
  refine E_callH1 1192 (u + 4) [] [.int r204.1] (c_L_addBoth_0_o hl hc205) my_L_addBoth kl_L_221 rfl rfl (Nat.le_of_ble_eq_true rfl) (rmlaw (by omega) rfl) dL_law_1189 rfl rfl rfl ?_
  refine E_istore 1194 [(6, .int r204.1), (0, .ref b), (1, .ref (gaC g 0)), (2, .ref (gaM g 0)), (3, .ref (gao g 0)), (4, .ref (gao g 1)), (5, .int x5)] dL_law_1192 (by decide) rfl rfl ?_
  refine E_aload_n 1195 3 dL_law_1194 rfl rfl rfl ?_
  refine E_aload_n 1196 1 dL_law_1195 rfl rfl rfl ?_
  refine E_iload 1198 6 dL_law_1196 rfl rfl ?_
  refine E_iconst 1199 1 dL_law_1198 cst_iconst1 rfl ?_
  refine E_iadd 1200 dL_law_1199 rfl ?_
  obtain ⟨h206, hf⟩ := chk_some hf
  refine E_sld 1201 h206 dL_law_1200 rfl ?_
  refine E_aload_n 1202 1 dL_law_1201 rfl rfl rfl ?_
  refine E_iload 1204 6 dL_law_1202 rfl rfl ?_
  refine E_iconst 1205 2 dL_law_1204 cst_iconst2 rfl ?_
  refine E_iadd 1206 dL_law_1205 rfl ?_
  obtain ⟨h207, hf⟩ := chk_some hf
  refine E_sld 1207 h207 dL_law_1206 rfl ?_
  obtain ⟨r208, hc209, hf⟩ := bnd hf
  refine E_callVM1 1210 (u + 4) [] [.int r208.1] (c_X8_addBoth hl hc209) my_X8_addBoth rc_X8 kl_L_223 rfl rfl (Nat.le_of_ble_eq_true rfl) (rmlaw (by omega) rfl) dL_law_1207 rfl rfl rfl ?_
  refine E_istore 1212 [(7, .int r208.1), (6, .int r204.1), (0, .ref b), (1, .ref (gaC g 0)), (2, .ref (gaM g 0)), (3, .ref (gao g 0)), (4, .ref (gao g 1)), (5, .int x5)] dL_law_1210 (by decide) rfl rfl ?_
  refine E_aload_n 1213 4 dL_law_1212 rfl rfl rfl ?_
  obtain ⟨r210, hc211, hf⟩ := bnd hf
  refine E_callVM1 1216 (u + 4) [] [.int r210] (c_X8_thrown hl hc211) my_X8_thrown rc_X8 kl_L_163 rfl rfl (Nat.le_of_ble_eq_true rfl) (rmlaw (by omega) rfl) dL_law_1213 rfl rfl rfl ?_
  refine E_iload 1218 1 dL_law_1216 rfl rfl ?_
  refine E_icmp_eq 1223 1221 dL_law_1218 (by decide) rfl (fun c212 => ?_) (fun c212 => ?_)
  · have hf := ite_t c212 hf
    refine E_iload 1225 1 dL_law_1223 rfl rfl ?_
    refine E_if_ne 1240 1228 dL_law_1225 (by decide) rfl (fun c213 => ?_) (fun c213 => ?_)
    · have hf := ite_e c213 hf
      refine E_goto 2972 dL_law_1240 (by decide) ?_
      refine E_iinc 2975 [(5, .int (x5 + 5)), (7, .int r208.1), (6, .int r204.1), (0, .ref b), (1, .ref (gaC g 0)), (2, .ref (gaM g 0)), (3, .ref (gao g 0)), (4, .ref (gao g 1))] 7 (v := x5 + 5) dL_law_2972 rfl (by rw [cst_iconst5]) (by decide) rfl rfl ?_
      refine E_goto 28 dL_law_2975 (by decide) ?_
      refine E_sub [3, 4, 5, 6, 7, 0] rfl ?_
      refine E_up (u' := u + 4) (by omega) ?_
      exact hb28 (x5 + 5) r204.2.1 r208.2 r204.2.2 dd hf
    · have hf := ite_t c213 hf
      refine E_aload_n 1229 5 dL_law_1228 rfl rfl rfl ?_
      refine E_iconst 1230 0 dL_law_1229 cst_iconst0 rfl ?_
      obtain ⟨h214, hf⟩ := chk_some hf
      refine E_lald 1231 h214 dL_law_1230 rfl ?_
      refine E_iload 1233 0 dL_law_1231 rfl rfl ?_
      refine E_i2l 1234 dL_law_1233 rfl ?_
      refine E_lcmp 1235 dL_law_1234 rfl ?_
      refine E_if_eq 1240 1238 dL_law_1235 (by decide) rfl (fun c215 => ?_) (fun c215 => ?_)
      · have hf := ite_t c215 hf
        refine E_goto 2972 dL_law_1240 (by decide) ?_
        refine E_iinc 2975 [(5, .int (x5 + 5)), (7, .int r208.1), (6, .int r204.1), (0, .ref b), (1, .ref (gaC g 0)), (2, .ref (gaM g 0)), (3, .ref (gao g 0)), (4, .ref (gao g 1))] 7 (v := x5 + 5) dL_law_2972 rfl (by rw [cst_iconst5]) (by decide) rfl rfl ?_
        refine E_goto 28 dL_law_2975 (by decide) ?_
        refine E_sub [3, 4, 5, 6, 7, 0] rfl ?_
        refine E_up (u' := u + 4) (by omega) ?_
        exact hb28 (x5 + 5) r204.2.1 r208.2 r204.2.2 dd hf
      · have hf := ite_e c215 hf
        refine E_iconst 1239 0 dL_law_1238 cst_iconst0 rfl ?_
        cases hf
  · have hf := ite_e c212 hf
    refine E_iconst 1222 0 dL_law_1221 cst_iconst0 rfl ?_
    cases hf
set_option maxRecDepth 100000 in
set_option maxHeartbeats 4000000 in
theorem j_L_law_s_J1243 {l : Launch} {g : Gt} {b u : Nat} (hl : l.stackTraces = false) (hu : u ≤ 2090) {μ : Mm} {ν : Mm} {o : Nat → Int64} {dd : Nat → UInt64} {Ls : Nat} {xs : Nat → Int32} {kb28 : (Int32 → Mm → Mm → (Nat → Int64) → (Nat → UInt64) → Option Unit)} {x5 : Int32}  {res : Unit} (hb28 : ∀ (v5 : Int32) (μ' : Mm) (ν' : Mm) (o' : Nat → Int64) (dd' : Nat → UInt64), kb28 v5 μ' ν' o' dd' = some res → E l g z_L_law 28 [(0, .ref b), (1, .ref (gaC g 0)), (2, .ref (gaM g 0)), (3, .ref (gao g 0)), (4, .ref (gao g 1)), (5, .int v5)] [] (μ', ν', o', dd') (u + 4) (Qlaw g b Ls xs)) (hf : f_L_law_s_J1243 Ls xs kb28 x5 μ ν o dd = some res) : E l g z_L_law 1243 [(0, .ref b), (1, .ref (gaC g 0)), (2, .ref (gaM g 0)), (3, .ref (gao g 0)), (4, .ref (gao g 1)), (5, .int x5)] [] (μ, ν, o, dd) (u + 0) (Qlaw g b Ls xs) := by
  unfold f_L_law_s_J1243 at hf
  refine E_aload_n 1244 1 dL_law_1243 rfl rfl rfl ?_
  refine E_aload_n 1245 0 dL_law_1244 rfl rfl rfl ?_
  refine E_iload 1247 5 dL_law_1245 rfl rfl ?_
  refine E_iconst 1248 1 dL_law_1247 cst_iconst1 rfl ?_
  refine E_iadd 1249 dL_law_1248 rfl ?_
  obtain ⟨h216, hf⟩ := chk_some hf
  refine E_sld 1250 h216 dL_law_1249 rfl ?_
  refine E_aload_n 1251 0 dL_law_1250 rfl rfl rfl ?_
  refine E_iload 1253 5 dL_law_1251 rfl rfl ?_
  refine E_iconst 1254 2 dL_law_1253 cst_iconst2 rfl ?_
  refine E_iadd 1255 dL_law_1254 rfl ?_
  obtain ⟨h217, hf⟩ := chk_some hf
  refine E_sld 1256 h217 dL_law_1255 rfl ?_
  refine E_aload_n 1257 3 dL_law_1256 rfl rfl rfl ?_
  obtain ⟨r218, hc219, hf⟩ := bnd hf
  refine E_callH1 1260 (u + 4) [] [.int r218.1] (c_L_addEither_0_o hl hc219) my_L_addEither kl_L_224 rfl rfl (Nat.le_of_ble_eq_true rfl) (rmlaw (by omega) rfl) dL_law_1257 rfl rfl rfl ?_
  refine E_istore 1262 [(6, .int r218.1), (0, .ref b), (1, .ref (gaC g 0)), (2, .ref (gaM g 0)), (3, .ref (gao g 0)), (4, .ref (gao g 1)), (5, .int x5)] dL_law_1260 (by decide) rfl rfl ?_
  refine E_aload_n 1263 3 dL_law_1262 rfl rfl rfl ?_
  refine E_aload_n 1264 1 dL_law_1263 rfl rfl rfl ?_
  refine E_iload 1266 6 dL_law_1264 rfl rfl ?_
  refine E_iconst 1267 1 dL_law_1266 cst_iconst1 rfl ?_
  refine E_iadd 1268 dL_law_1267 rfl ?_
  obtain ⟨h220, hf⟩ := chk_some hf
  refine E_sld 1269 h220 dL_law_1268 rfl ?_
  refine E_aload_n 1270 1 dL_law_1269 rfl rfl rfl ?_
  refine E_iload 1272 6 dL_law_1270 rfl rfl ?_
  refine E_iconst 1273 2 dL_law_1272 cst_iconst2 rfl ?_
  refine E_iadd 1274 dL_law_1273 rfl ?_
  obtain ⟨h221, hf⟩ := chk_some hf
  refine E_sld 1275 h221 dL_law_1274 rfl ?_
  obtain ⟨r222, hc223, hf⟩ := bnd hf
  refine E_callVM1 1278 (u + 4) [] [.int r222.1] (c_X8_addEither hl hc223) my_X8_addEither rc_X8 kl_L_226 rfl rfl (Nat.le_of_ble_eq_true rfl) (rmlaw (by omega) rfl) dL_law_1275 rfl rfl rfl ?_
  refine E_istore 1280 [(7, .int r222.1), (6, .int r218.1), (0, .ref b), (1, .ref (gaC g 0)), (2, .ref (gaM g 0)), (3, .ref (gao g 0)), (4, .ref (gao g 1)), (5, .int x5)] dL_law_1278 (by decide) rfl rfl ?_
  refine E_aload_n 1281 4 dL_law_1280 rfl rfl rfl ?_
  obtain ⟨r224, hc225, hf⟩ := bnd hf
  refine E_callVM1 1284 (u + 4) [] [.int r224] (c_X8_thrown hl hc225) my_X8_thrown rc_X8 kl_L_163 rfl rfl (Nat.le_of_ble_eq_true rfl) (rmlaw (by omega) rfl) dL_law_1281 rfl rfl rfl ?_
  refine E_iload 1286 1 dL_law_1284 rfl rfl ?_
  refine E_icmp_eq 1291 1289 dL_law_1286 (by decide) rfl (fun c226 => ?_) (fun c226 => ?_)
  · have hf := ite_t c226 hf
    refine E_iload 1293 1 dL_law_1291 rfl rfl ?_
    refine E_if_ne 1308 1296 dL_law_1293 (by decide) rfl (fun c227 => ?_) (fun c227 => ?_)
    · have hf := ite_e c227 hf
      refine E_goto 2972 dL_law_1308 (by decide) ?_
      refine E_iinc 2975 [(5, .int (x5 + 5)), (7, .int r222.1), (6, .int r218.1), (0, .ref b), (1, .ref (gaC g 0)), (2, .ref (gaM g 0)), (3, .ref (gao g 0)), (4, .ref (gao g 1))] 7 (v := x5 + 5) dL_law_2972 rfl (by rw [cst_iconst5]) (by decide) rfl rfl ?_
      refine E_goto 28 dL_law_2975 (by decide) ?_
      refine E_sub [3, 4, 5, 6, 7, 0] rfl ?_
      refine E_up (u' := u + 4) (by omega) ?_
      exact hb28 (x5 + 5) r218.2.1 r222.2 r218.2.2 dd hf
    · have hf := ite_t c227 hf
      refine E_aload_n 1297 5 dL_law_1296 rfl rfl rfl ?_
      refine E_iconst 1298 0 dL_law_1297 cst_iconst0 rfl ?_
      obtain ⟨h228, hf⟩ := chk_some hf
      refine E_lald 1299 h228 dL_law_1298 rfl ?_
      refine E_iload 1301 0 dL_law_1299 rfl rfl ?_
      refine E_i2l 1302 dL_law_1301 rfl ?_
      refine E_lcmp 1303 dL_law_1302 rfl ?_
      refine E_if_eq 1308 1306 dL_law_1303 (by decide) rfl (fun c229 => ?_) (fun c229 => ?_)
      · have hf := ite_t c229 hf
        refine E_goto 2972 dL_law_1308 (by decide) ?_
        refine E_iinc 2975 [(5, .int (x5 + 5)), (7, .int r222.1), (6, .int r218.1), (0, .ref b), (1, .ref (gaC g 0)), (2, .ref (gaM g 0)), (3, .ref (gao g 0)), (4, .ref (gao g 1))] 7 (v := x5 + 5) dL_law_2972 rfl (by rw [cst_iconst5]) (by decide) rfl rfl ?_
        refine E_goto 28 dL_law_2975 (by decide) ?_
        refine E_sub [3, 4, 5, 6, 7, 0] rfl ?_
        refine E_up (u' := u + 4) (by omega) ?_
        exact hb28 (x5 + 5) r218.2.1 r222.2 r218.2.2 dd hf
      · have hf := ite_e c229 hf
        refine E_iconst 1307 0 dL_law_1306 cst_iconst0 rfl ?_
        cases hf
  · have hf := ite_e c226 hf
    refine E_iconst 1290 0 dL_law_1289 cst_iconst0 rfl ?_
    cases hf
set_option maxRecDepth 100000 in
set_option maxHeartbeats 4000000 in
theorem j_L_law_s_J1311 {l : Launch} {g : Gt} {b u : Nat} (hl : l.stackTraces = false) (hu : u ≤ 2090) {μ : Mm} {ν : Mm} {o : Nat → Int64} {dd : Nat → UInt64} {Ls : Nat} {xs : Nat → Int32} {kb28 : (Int32 → Mm → Mm → (Nat → Int64) → (Nat → UInt64) → Option Unit)} {x5 : Int32}  {res : Unit} (hb28 : ∀ (v5 : Int32) (μ' : Mm) (ν' : Mm) (o' : Nat → Int64) (dd' : Nat → UInt64), kb28 v5 μ' ν' o' dd' = some res → E l g z_L_law 28 [(0, .ref b), (1, .ref (gaC g 0)), (2, .ref (gaM g 0)), (3, .ref (gao g 0)), (4, .ref (gao g 1)), (5, .int v5)] [] (μ', ν', o', dd') (u + 4) (Qlaw g b Ls xs)) (hf : f_L_law_s_J1311 Ls xs kb28 x5 μ ν o dd = some res) : E l g z_L_law 1311 [(0, .ref b), (1, .ref (gaC g 0)), (2, .ref (gaM g 0)), (3, .ref (gao g 0)), (4, .ref (gao g 1)), (5, .int x5)] [] (μ, ν, o, dd) (u + 0) (Qlaw g b Ls xs) := by
  unfold f_L_law_s_J1311 at hf
  refine E_aload_n 1312 1 dL_law_1311 rfl rfl rfl ?_
  refine E_aload_n 1313 0 dL_law_1312 rfl rfl rfl ?_
  refine E_iload 1315 5 dL_law_1313 rfl rfl ?_
  refine E_iconst 1316 1 dL_law_1315 cst_iconst1 rfl ?_
  refine E_iadd 1317 dL_law_1316 rfl ?_
  obtain ⟨h230, hf⟩ := chk_some hf
  refine E_sld 1318 h230 dL_law_1317 rfl ?_
  refine E_aload_n 1319 3 dL_law_1318 rfl rfl rfl ?_
  obtain ⟨r231, hc232, hf⟩ := bnd hf
  refine E_callH1 1322 (u + 3) [] [.int r231.1] (c_L_addNot_0_o hl hc232) my_L_addNot kl_L_227 rfl rfl (Nat.le_of_ble_eq_true rfl) (rmlaw (by omega) rfl) dL_law_1319 rfl rfl rfl ?_
  refine E_istore 1324 [(6, .int r231.1), (0, .ref b), (1, .ref (gaC g 0)), (2, .ref (gaM g 0)), (3, .ref (gao g 0)), (4, .ref (gao g 1)), (5, .int x5)] dL_law_1322 (by decide) rfl rfl ?_
  refine E_aload_n 1325 3 dL_law_1324 rfl rfl rfl ?_
  refine E_aload_n 1326 1 dL_law_1325 rfl rfl rfl ?_
  refine E_iload 1328 6 dL_law_1326 rfl rfl ?_
  refine E_iconst 1329 1 dL_law_1328 cst_iconst1 rfl ?_
  refine E_iadd 1330 dL_law_1329 rfl ?_
  obtain ⟨h233, hf⟩ := chk_some hf
  refine E_sld 1331 h233 dL_law_1330 rfl ?_
  obtain ⟨r234, hc235, hf⟩ := bnd hf
  refine E_callVM1 1334 (u + 3) [] [.int r234.1] (c_X8_addNot hl hc235) my_X8_addNot rc_X8 kl_L_229 rfl rfl (Nat.le_of_ble_eq_true rfl) (rmlaw (by omega) rfl) dL_law_1331 rfl rfl rfl ?_
  refine E_istore 1336 [(7, .int r234.1), (6, .int r231.1), (0, .ref b), (1, .ref (gaC g 0)), (2, .ref (gaM g 0)), (3, .ref (gao g 0)), (4, .ref (gao g 1)), (5, .int x5)] dL_law_1334 (by decide) rfl rfl ?_
  refine E_aload_n 1337 4 dL_law_1336 rfl rfl rfl ?_
  obtain ⟨r236, hc237, hf⟩ := bnd hf
  refine E_callVM1 1340 (u + 3) [] [.int r236] (c_X8_thrown hl hc237) my_X8_thrown rc_X8 kl_L_163 rfl rfl (Nat.le_of_ble_eq_true rfl) (rmlaw (by omega) rfl) dL_law_1337 rfl rfl rfl ?_
  refine E_iload 1342 1 dL_law_1340 rfl rfl ?_
  refine E_icmp_eq 1347 1345 dL_law_1342 (by decide) rfl (fun c238 => ?_) (fun c238 => ?_)
  · have hf := ite_t c238 hf
    refine E_iload 1349 1 dL_law_1347 rfl rfl ?_
    refine E_if_ne 1364 1352 dL_law_1349 (by decide) rfl (fun c239 => ?_) (fun c239 => ?_)
    · have hf := ite_e c239 hf
      refine E_goto 2972 dL_law_1364 (by decide) ?_
      refine E_iinc 2975 [(5, .int (x5 + 5)), (7, .int r234.1), (6, .int r231.1), (0, .ref b), (1, .ref (gaC g 0)), (2, .ref (gaM g 0)), (3, .ref (gao g 0)), (4, .ref (gao g 1))] 7 (v := x5 + 5) dL_law_2972 rfl (by rw [cst_iconst5]) (by decide) rfl rfl ?_
      refine E_goto 28 dL_law_2975 (by decide) ?_
      refine E_sub [3, 4, 5, 6, 7, 0] rfl ?_
      refine E_up (u' := u + 4) (by omega) ?_
      exact hb28 (x5 + 5) r231.2.1 r234.2 r231.2.2 dd hf
    · have hf := ite_t c239 hf
      refine E_aload_n 1353 5 dL_law_1352 rfl rfl rfl ?_
      refine E_iconst 1354 0 dL_law_1353 cst_iconst0 rfl ?_
      obtain ⟨h240, hf⟩ := chk_some hf
      refine E_lald 1355 h240 dL_law_1354 rfl ?_
      refine E_iload 1357 0 dL_law_1355 rfl rfl ?_
      refine E_i2l 1358 dL_law_1357 rfl ?_
      refine E_lcmp 1359 dL_law_1358 rfl ?_
      refine E_if_eq 1364 1362 dL_law_1359 (by decide) rfl (fun c241 => ?_) (fun c241 => ?_)
      · have hf := ite_t c241 hf
        refine E_goto 2972 dL_law_1364 (by decide) ?_
        refine E_iinc 2975 [(5, .int (x5 + 5)), (7, .int r234.1), (6, .int r231.1), (0, .ref b), (1, .ref (gaC g 0)), (2, .ref (gaM g 0)), (3, .ref (gao g 0)), (4, .ref (gao g 1))] 7 (v := x5 + 5) dL_law_2972 rfl (by rw [cst_iconst5]) (by decide) rfl rfl ?_
        refine E_goto 28 dL_law_2975 (by decide) ?_
        refine E_sub [3, 4, 5, 6, 7, 0] rfl ?_
        refine E_up (u' := u + 4) (by omega) ?_
        exact hb28 (x5 + 5) r231.2.1 r234.2 r231.2.2 dd hf
      · have hf := ite_e c241 hf
        refine E_iconst 1363 0 dL_law_1362 cst_iconst0 rfl ?_
        cases hf
  · have hf := ite_e c238 hf
    refine E_iconst 1346 0 dL_law_1345 cst_iconst0 rfl ?_
    cases hf
set_option maxRecDepth 100000 in
set_option maxHeartbeats 4000000 in
theorem j_L_law_s_J1367 {l : Launch} {g : Gt} {b u : Nat} (hl : l.stackTraces = false) (hu : u ≤ 2090) {μ : Mm} {ν : Mm} {o : Nat → Int64} {dd : Nat → UInt64} {Ls : Nat} {xs : Nat → Int32} {kb28 : (Int32 → Mm → Mm → (Nat → Int64) → (Nat → UInt64) → Option Unit)} {x5 : Int32}  {res : Unit} (hb28 : ∀ (v5 : Int32) (μ' : Mm) (ν' : Mm) (o' : Nat → Int64) (dd' : Nat → UInt64), kb28 v5 μ' ν' o' dd' = some res → E l g z_L_law 28 [(0, .ref b), (1, .ref (gaC g 0)), (2, .ref (gaM g 0)), (3, .ref (gao g 0)), (4, .ref (gao g 1)), (5, .int v5)] [] (μ', ν', o', dd') (u + 4) (Qlaw g b Ls xs)) (hf : f_L_law_s_J1367 Ls xs kb28 x5 μ ν o dd = some res) : E l g z_L_law 1367 [(0, .ref b), (1, .ref (gaC g 0)), (2, .ref (gaM g 0)), (3, .ref (gao g 0)), (4, .ref (gao g 1)), (5, .int x5)] [] (μ, ν, o, dd) (u + 0) (Qlaw g b Ls xs) := by
  unfold f_L_law_s_J1367 at hf
  refine E_aload_n 1368 1 dL_law_1367 rfl rfl rfl ?_
  refine E_aload_n 1369 0 dL_law_1368 rfl rfl rfl ?_
  refine E_iload 1371 5 dL_law_1369 rfl rfl ?_
  refine E_iconst 1372 1 dL_law_1371 cst_iconst1 rfl ?_
  refine E_iadd 1373 dL_law_1372 rfl ?_
  obtain ⟨h242, hf⟩ := chk_some hf
  refine E_sld 1374 h242 dL_law_1373 rfl ?_
  refine E_aload_n 1375 0 dL_law_1374 rfl rfl rfl ?_
  refine E_iload 1377 5 dL_law_1375 rfl rfl ?_
  refine E_iconst 1378 2 dL_law_1377 cst_iconst2 rfl ?_
  refine E_iadd 1379 dL_law_1378 rfl ?_
  obtain ⟨h243, hf⟩ := chk_some hf
  refine E_sld 1380 h243 dL_law_1379 rfl ?_
  refine E_aload_n 1381 3 dL_law_1380 rfl rfl rfl ?_
  obtain ⟨r244, hc245, hf⟩ := bnd hf
  refine E_callH1 1384 (u + 2) [] [.int r244.1] (c_L_holds_0_o hl hc245) my_L_holds kl_L_230 rfl rfl (Nat.le_of_ble_eq_true rfl) (rmlaw (by omega) rfl) dL_law_1381 rfl rfl rfl ?_
  refine E_istore 1386 [(6, .int r244.1), (0, .ref b), (1, .ref (gaC g 0)), (2, .ref (gaM g 0)), (3, .ref (gao g 0)), (4, .ref (gao g 1)), (5, .int x5)] dL_law_1384 (by decide) rfl rfl ?_
  refine E_aload_n 1387 3 dL_law_1386 rfl rfl rfl ?_
  refine E_aload_n 1388 1 dL_law_1387 rfl rfl rfl ?_
  refine E_iload 1390 6 dL_law_1388 rfl rfl ?_
  refine E_iconst 1391 1 dL_law_1390 cst_iconst1 rfl ?_
  refine E_iadd 1392 dL_law_1391 rfl ?_
  obtain ⟨h246, hf⟩ := chk_some hf
  refine E_sld 1393 h246 dL_law_1392 rfl ?_
  refine E_aload_n 1394 1 dL_law_1393 rfl rfl rfl ?_
  refine E_iload 1396 6 dL_law_1394 rfl rfl ?_
  refine E_iconst 1397 2 dL_law_1396 cst_iconst2 rfl ?_
  refine E_iadd 1398 dL_law_1397 rfl ?_
  obtain ⟨h247, hf⟩ := chk_some hf
  refine E_sld 1399 h247 dL_law_1398 rfl ?_
  obtain ⟨r248, hc249, hf⟩ := bnd hf
  refine E_callVM1 1402 (u + 2) [] [.int r248.1] (c_X8_holds hl hc249) my_X8_holds rc_X8 kl_L_232 rfl rfl (Nat.le_of_ble_eq_true rfl) (rmlaw (by omega) rfl) dL_law_1399 rfl rfl rfl ?_
  refine E_istore 1404 [(7, .int r248.1), (6, .int r244.1), (0, .ref b), (1, .ref (gaC g 0)), (2, .ref (gaM g 0)), (3, .ref (gao g 0)), (4, .ref (gao g 1)), (5, .int x5)] dL_law_1402 (by decide) rfl rfl ?_
  refine E_aload_n 1405 4 dL_law_1404 rfl rfl rfl ?_
  obtain ⟨r250, hc251, hf⟩ := bnd hf
  refine E_callVM1 1408 (u + 2) [] [.int r250] (c_X8_thrown hl hc251) my_X8_thrown rc_X8 kl_L_163 rfl rfl (Nat.le_of_ble_eq_true rfl) (rmlaw (by omega) rfl) dL_law_1405 rfl rfl rfl ?_
  refine E_iload 1410 1 dL_law_1408 rfl rfl ?_
  refine E_icmp_eq 1415 1413 dL_law_1410 (by decide) rfl (fun c252 => ?_) (fun c252 => ?_)
  · have hf := ite_t c252 hf
    refine E_iload 1417 1 dL_law_1415 rfl rfl ?_
    refine E_if_ne 1439 1420 dL_law_1417 (by decide) rfl (fun c253 => ?_) (fun c253 => ?_)
    · have hf := ite_e c253 hf
      refine E_goto 2972 dL_law_1439 (by decide) ?_
      refine E_iinc 2975 [(5, .int (x5 + 5)), (7, .int r248.1), (6, .int r244.1), (0, .ref b), (1, .ref (gaC g 0)), (2, .ref (gaM g 0)), (3, .ref (gao g 0)), (4, .ref (gao g 1))] 7 (v := x5 + 5) dL_law_2972 rfl (by rw [cst_iconst5]) (by decide) rfl rfl ?_
      refine E_goto 28 dL_law_2975 (by decide) ?_
      refine E_sub [3, 4, 5, 6, 7, 0] rfl ?_
      refine E_up (u' := u + 4) (by omega) ?_
      exact hb28 (x5 + 5) r244.2.1 r248.2 r244.2.2 dd hf
    · have hf := ite_t c253 hf
      refine E_aload_n 1421 5 dL_law_1420 rfl rfl rfl ?_
      refine E_iconst 1422 0 dL_law_1421 cst_iconst0 rfl ?_
      obtain ⟨h254, hf⟩ := chk_some hf
      refine E_lald 1423 h254 dL_law_1422 rfl ?_
      refine E_iload 1425 0 dL_law_1423 rfl rfl ?_
      refine E_if_eq 1432 1428 dL_law_1425 (by decide) rfl (fun c255 => ?_) (fun c255 => ?_)
      · have hf := ite_t c255 hf
        refine E_lconst 1433 0 dL_law_1432 (by decide) rfl ?_
        refine E_lcmp 1434 dL_law_1433 rfl ?_
        refine E_if_eq 1439 1437 dL_law_1434 (by decide) rfl (fun c256 => ?_) (fun c256 => ?_)
        · have hf := ite_t c256 hf
          refine E_goto 2972 dL_law_1439 (by decide) ?_
          refine E_iinc 2975 [(5, .int (x5 + 5)), (7, .int r248.1), (6, .int r244.1), (0, .ref b), (1, .ref (gaC g 0)), (2, .ref (gaM g 0)), (3, .ref (gao g 0)), (4, .ref (gao g 1))] 7 (v := x5 + 5) dL_law_2972 rfl (by rw [cst_iconst5]) (by decide) rfl rfl ?_
          refine E_goto 28 dL_law_2975 (by decide) ?_
          refine E_sub [3, 4, 5, 6, 7, 0] rfl ?_
          refine E_up (u' := u + 4) (by omega) ?_
          exact hb28 (x5 + 5) r244.2.1 r248.2 r244.2.2 dd hf
        · have hf := ite_e c256 hf
          refine E_iconst 1438 0 dL_law_1437 cst_iconst0 rfl ?_
          cases hf
      · have hf := ite_e c255 hf
        refine E_lconst 1429 1 dL_law_1428 (by decide) rfl ?_
        refine E_goto 1433 dL_law_1429 (by decide) ?_
        refine E_lcmp 1434 dL_law_1433 rfl ?_
        refine E_if_eq 1439 1437 dL_law_1434 (by decide) rfl (fun c257 => ?_) (fun c257 => ?_)
        · have hf := ite_t c257 hf
          refine E_goto 2972 dL_law_1439 (by decide) ?_
          refine E_iinc 2975 [(5, .int (x5 + 5)), (7, .int r248.1), (6, .int r244.1), (0, .ref b), (1, .ref (gaC g 0)), (2, .ref (gaM g 0)), (3, .ref (gao g 0)), (4, .ref (gao g 1))] 7 (v := x5 + 5) dL_law_2972 rfl (by rw [cst_iconst5]) (by decide) rfl rfl ?_
          refine E_goto 28 dL_law_2975 (by decide) ?_
          refine E_sub [3, 4, 5, 6, 7, 0] rfl ?_
          refine E_up (u' := u + 4) (by omega) ?_
          exact hb28 (x5 + 5) r244.2.1 r248.2 r244.2.2 dd hf
        · have hf := ite_e c257 hf
          refine E_iconst 1438 0 dL_law_1437 cst_iconst0 rfl ?_
          cases hf
  · have hf := ite_e c252 hf
    refine E_iconst 1414 0 dL_law_1413 cst_iconst0 rfl ?_
    cases hf
set_option maxRecDepth 100000 in
set_option maxHeartbeats 4000000 in
theorem j_L_law_s_J1442 {l : Launch} {g : Gt} {b u : Nat} (hl : l.stackTraces = false) (hu : u ≤ 2090) {μ : Mm} {ν : Mm} {o : Nat → Int64} {dd : Nat → UInt64} {Ls : Nat} {xs : Nat → Int32} {kb28 : (Int32 → Mm → Mm → (Nat → Int64) → (Nat → UInt64) → Option Unit)} {x5 : Int32}  {res : Unit} (hb28 : ∀ (v5 : Int32) (μ' : Mm) (ν' : Mm) (o' : Nat → Int64) (dd' : Nat → UInt64), kb28 v5 μ' ν' o' dd' = some res → E l g z_L_law 28 [(0, .ref b), (1, .ref (gaC g 0)), (2, .ref (gaM g 0)), (3, .ref (gao g 0)), (4, .ref (gao g 1)), (5, .int v5)] [] (μ', ν', o', dd') (u + 4) (Qlaw g b Ls xs)) (hf : f_L_law_s_J1442 Ls xs kb28 x5 μ ν o dd = some res) : E l g z_L_law 1442 [(0, .ref b), (1, .ref (gaC g 0)), (2, .ref (gaM g 0)), (3, .ref (gao g 0)), (4, .ref (gao g 1)), (5, .int x5)] [] (μ, ν, o, dd) (u + 0) (Qlaw g b Ls xs) := by
  unfold f_L_law_s_J1442 at hf
  refine E_aload_n 1443 1 dL_law_1442 rfl rfl rfl ?_
  refine E_aload_n 1444 0 dL_law_1443 rfl rfl rfl ?_
  refine E_iload 1446 5 dL_law_1444 rfl rfl ?_
  refine E_iconst 1447 1 dL_law_1446 cst_iconst1 rfl ?_
  refine E_iadd 1448 dL_law_1447 rfl ?_
  obtain ⟨h258, hf⟩ := chk_some hf
  refine E_sld 1449 h258 dL_law_1448 rfl ?_
  refine E_aload_n 1450 3 dL_law_1449 rfl rfl rfl ?_
  obtain ⟨r259, hc260, hf⟩ := bnd hf
  refine E_callH1 1453 (u + 1) [] [.int r259.1] (c_L_sizeOf_0_o hl hc260) my_L_sizeOf kl_L_233 rfl rfl (Nat.le_of_ble_eq_true rfl) (rmlaw (by omega) rfl) dL_law_1450 rfl rfl rfl ?_
  refine E_istore 1455 [(6, .int r259.1), (0, .ref b), (1, .ref (gaC g 0)), (2, .ref (gaM g 0)), (3, .ref (gao g 0)), (4, .ref (gao g 1)), (5, .int x5)] dL_law_1453 (by decide) rfl rfl ?_
  refine E_aload_n 1456 3 dL_law_1455 rfl rfl rfl ?_
  refine E_aload_n 1457 1 dL_law_1456 rfl rfl rfl ?_
  refine E_iload 1459 6 dL_law_1457 rfl rfl ?_
  refine E_iconst 1460 1 dL_law_1459 cst_iconst1 rfl ?_
  refine E_iadd 1461 dL_law_1460 rfl ?_
  obtain ⟨h261, hf⟩ := chk_some hf
  refine E_sld 1462 h261 dL_law_1461 rfl ?_
  obtain ⟨r262, hc263, hf⟩ := bnd hf
  refine E_callVM1 1465 (u + 1) [] [.int r262.1] (c_X8_sizeOf hl hc263) my_X8_sizeOf rc_X8 kl_L_235 rfl rfl (Nat.le_of_ble_eq_true rfl) (rmlaw (by omega) rfl) dL_law_1462 rfl rfl rfl ?_
  refine E_istore 1467 [(7, .int r262.1), (6, .int r259.1), (0, .ref b), (1, .ref (gaC g 0)), (2, .ref (gaM g 0)), (3, .ref (gao g 0)), (4, .ref (gao g 1)), (5, .int x5)] dL_law_1465 (by decide) rfl rfl ?_
  refine E_aload_n 1468 4 dL_law_1467 rfl rfl rfl ?_
  obtain ⟨r264, hc265, hf⟩ := bnd hf
  refine E_callVM1 1471 (u + 1) [] [.int r264] (c_X8_thrown hl hc265) my_X8_thrown rc_X8 kl_L_163 rfl rfl (Nat.le_of_ble_eq_true rfl) (rmlaw (by omega) rfl) dL_law_1468 rfl rfl rfl ?_
  refine E_iload 1473 1 dL_law_1471 rfl rfl ?_
  refine E_icmp_eq 1478 1476 dL_law_1473 (by decide) rfl (fun c266 => ?_) (fun c266 => ?_)
  · have hf := ite_t c266 hf
    refine E_iload 1480 1 dL_law_1478 rfl rfl ?_
    refine E_if_ne 1495 1483 dL_law_1480 (by decide) rfl (fun c267 => ?_) (fun c267 => ?_)
    · have hf := ite_e c267 hf
      refine E_goto 2972 dL_law_1495 (by decide) ?_
      refine E_iinc 2975 [(5, .int (x5 + 5)), (7, .int r262.1), (6, .int r259.1), (0, .ref b), (1, .ref (gaC g 0)), (2, .ref (gaM g 0)), (3, .ref (gao g 0)), (4, .ref (gao g 1))] 7 (v := x5 + 5) dL_law_2972 rfl (by rw [cst_iconst5]) (by decide) rfl rfl ?_
      refine E_goto 28 dL_law_2975 (by decide) ?_
      refine E_sub [3, 4, 5, 6, 7, 0] rfl ?_
      refine E_up (u' := u + 4) (by omega) ?_
      exact hb28 (x5 + 5) μ r262.2 r259.2 dd hf
    · have hf := ite_t c267 hf
      refine E_aload_n 1484 5 dL_law_1483 rfl rfl rfl ?_
      refine E_iconst 1485 0 dL_law_1484 cst_iconst0 rfl ?_
      obtain ⟨h268, hf⟩ := chk_some hf
      refine E_lald 1486 h268 dL_law_1485 rfl ?_
      refine E_iload 1488 0 dL_law_1486 rfl rfl ?_
      refine E_i2l 1489 dL_law_1488 rfl ?_
      refine E_lcmp 1490 dL_law_1489 rfl ?_
      refine E_if_eq 1495 1493 dL_law_1490 (by decide) rfl (fun c269 => ?_) (fun c269 => ?_)
      · have hf := ite_t c269 hf
        refine E_goto 2972 dL_law_1495 (by decide) ?_
        refine E_iinc 2975 [(5, .int (x5 + 5)), (7, .int r262.1), (6, .int r259.1), (0, .ref b), (1, .ref (gaC g 0)), (2, .ref (gaM g 0)), (3, .ref (gao g 0)), (4, .ref (gao g 1))] 7 (v := x5 + 5) dL_law_2972 rfl (by rw [cst_iconst5]) (by decide) rfl rfl ?_
        refine E_goto 28 dL_law_2975 (by decide) ?_
        refine E_sub [3, 4, 5, 6, 7, 0] rfl ?_
        refine E_up (u' := u + 4) (by omega) ?_
        exact hb28 (x5 + 5) μ r262.2 r259.2 dd hf
      · have hf := ite_e c269 hf
        refine E_iconst 1494 0 dL_law_1493 cst_iconst0 rfl ?_
        cases hf
  · have hf := ite_e c266 hf
    refine E_iconst 1477 0 dL_law_1476 cst_iconst0 rfl ?_
    cases hf
set_option maxRecDepth 100000 in
set_option maxHeartbeats 4000000 in
theorem j_L_law_s_J1498 {l : Launch} {g : Gt} {b u : Nat} (hl : l.stackTraces = false) (hu : u ≤ 2090) {μ : Mm} {ν : Mm} {o : Nat → Int64} {dd : Nat → UInt64} {Ls : Nat} {xs : Nat → Int32} {kb28 : (Int32 → Mm → Mm → (Nat → Int64) → (Nat → UInt64) → Option Unit)} {x5 : Int32}  {res : Unit} (hb28 : ∀ (v5 : Int32) (μ' : Mm) (ν' : Mm) (o' : Nat → Int64) (dd' : Nat → UInt64), kb28 v5 μ' ν' o' dd' = some res → E l g z_L_law 28 [(0, .ref b), (1, .ref (gaC g 0)), (2, .ref (gaM g 0)), (3, .ref (gao g 0)), (4, .ref (gao g 1)), (5, .int v5)] [] (μ', ν', o', dd') (u + 4) (Qlaw g b Ls xs)) (hf : f_L_law_s_J1498 Ls xs kb28 x5 μ ν o dd = some res) : E l g z_L_law 1498 [(0, .ref b), (1, .ref (gaC g 0)), (2, .ref (gaM g 0)), (3, .ref (gao g 0)), (4, .ref (gao g 1)), (5, .int x5)] [] (μ, ν, o, dd) (u + 0) (Qlaw g b Ls xs) := by
  unfold f_L_law_s_J1498 at hf
  refine E_aload_n 1499 1 dL_law_1498 rfl rfl rfl ?_
  refine E_aload_n 1500 0 dL_law_1499 rfl rfl rfl ?_
  refine E_iload 1502 5 dL_law_1500 rfl rfl ?_
  refine E_iconst 1503 1 dL_law_1502 cst_iconst1 rfl ?_
  refine E_iadd 1504 dL_law_1503 rfl ?_
  obtain ⟨h270, hf⟩ := chk_some hf
  refine E_sld 1505 h270 dL_law_1504 rfl ?_
  refine E_aload_n 1506 0 dL_law_1505 rfl rfl rfl ?_
  refine E_iload 1508 5 dL_law_1506 rfl rfl ?_
  refine E_iconst 1509 2 dL_law_1508 cst_iconst2 rfl ?_
  refine E_iadd 1510 dL_law_1509 rfl ?_
  obtain ⟨h271, hf⟩ := chk_some hf
  refine E_sld 1511 h271 dL_law_1510 rfl ?_
  refine E_aload_n 1512 3 dL_law_1511 rfl rfl rfl ?_
  obtain ⟨r272, hc273, hf⟩ := bnd hf
  refine E_callH1 1515 (u + 2) [] [.int r272.1] (c_L_addRule_0_o hl hc273) my_L_addRule kl_L_236 rfl rfl (Nat.le_of_ble_eq_true rfl) (rmlaw (by omega) rfl) dL_law_1512 rfl rfl rfl ?_
  refine E_istore 1517 [(6, .int r272.1), (0, .ref b), (1, .ref (gaC g 0)), (2, .ref (gaM g 0)), (3, .ref (gao g 0)), (4, .ref (gao g 1)), (5, .int x5)] dL_law_1515 (by decide) rfl rfl ?_
  refine E_aload_n 1518 3 dL_law_1517 rfl rfl rfl ?_
  refine E_aload_n 1519 1 dL_law_1518 rfl rfl rfl ?_
  refine E_iload 1521 6 dL_law_1519 rfl rfl ?_
  refine E_iconst 1522 1 dL_law_1521 cst_iconst1 rfl ?_
  refine E_iadd 1523 dL_law_1522 rfl ?_
  obtain ⟨h274, hf⟩ := chk_some hf
  refine E_sld 1524 h274 dL_law_1523 rfl ?_
  refine E_aload_n 1525 1 dL_law_1524 rfl rfl rfl ?_
  refine E_iload 1527 6 dL_law_1525 rfl rfl ?_
  refine E_iconst 1528 2 dL_law_1527 cst_iconst2 rfl ?_
  refine E_iadd 1529 dL_law_1528 rfl ?_
  obtain ⟨h275, hf⟩ := chk_some hf
  refine E_sld 1530 h275 dL_law_1529 rfl ?_
  obtain ⟨r276, hc277, hf⟩ := bnd hf
  refine E_callVM1 1533 (u + 2) [] [.int r276.1] (c_X8_addRule hl hc277) my_X8_addRule rc_X8 kl_L_238 rfl rfl (Nat.le_of_ble_eq_true rfl) (rmlaw (by omega) rfl) dL_law_1530 rfl rfl rfl ?_
  refine E_istore 1535 [(7, .int r276.1), (6, .int r272.1), (0, .ref b), (1, .ref (gaC g 0)), (2, .ref (gaM g 0)), (3, .ref (gao g 0)), (4, .ref (gao g 1)), (5, .int x5)] dL_law_1533 (by decide) rfl rfl ?_
  refine E_aload_n 1536 4 dL_law_1535 rfl rfl rfl ?_
  obtain ⟨r278, hc279, hf⟩ := bnd hf
  refine E_callVM1 1539 (u + 2) [] [.int r278] (c_X8_thrown hl hc279) my_X8_thrown rc_X8 kl_L_163 rfl rfl (Nat.le_of_ble_eq_true rfl) (rmlaw (by omega) rfl) dL_law_1536 rfl rfl rfl ?_
  refine E_iload 1541 1 dL_law_1539 rfl rfl ?_
  refine E_icmp_eq 1546 1544 dL_law_1541 (by decide) rfl (fun c280 => ?_) (fun c280 => ?_)
  · have hf := ite_t c280 hf
    refine E_iload 1548 1 dL_law_1546 rfl rfl ?_
    refine E_if_ne 1563 1551 dL_law_1548 (by decide) rfl (fun c281 => ?_) (fun c281 => ?_)
    · have hf := ite_e c281 hf
      refine E_goto 2972 dL_law_1563 (by decide) ?_
      refine E_iinc 2975 [(5, .int (x5 + 5)), (7, .int r276.1), (6, .int r272.1), (0, .ref b), (1, .ref (gaC g 0)), (2, .ref (gaM g 0)), (3, .ref (gao g 0)), (4, .ref (gao g 1))] 7 (v := x5 + 5) dL_law_2972 rfl (by rw [cst_iconst5]) (by decide) rfl rfl ?_
      refine E_goto 28 dL_law_2975 (by decide) ?_
      refine E_sub [3, 4, 5, 6, 7, 0] rfl ?_
      refine E_up (u' := u + 4) (by omega) ?_
      exact hb28 (x5 + 5) r272.2.1 r276.2 r272.2.2 dd hf
    · have hf := ite_t c281 hf
      refine E_aload_n 1552 5 dL_law_1551 rfl rfl rfl ?_
      refine E_iconst 1553 0 dL_law_1552 cst_iconst0 rfl ?_
      obtain ⟨h282, hf⟩ := chk_some hf
      refine E_lald 1554 h282 dL_law_1553 rfl ?_
      refine E_iload 1556 0 dL_law_1554 rfl rfl ?_
      refine E_i2l 1557 dL_law_1556 rfl ?_
      refine E_lcmp 1558 dL_law_1557 rfl ?_
      refine E_if_eq 1563 1561 dL_law_1558 (by decide) rfl (fun c283 => ?_) (fun c283 => ?_)
      · have hf := ite_t c283 hf
        refine E_goto 2972 dL_law_1563 (by decide) ?_
        refine E_iinc 2975 [(5, .int (x5 + 5)), (7, .int r276.1), (6, .int r272.1), (0, .ref b), (1, .ref (gaC g 0)), (2, .ref (gaM g 0)), (3, .ref (gao g 0)), (4, .ref (gao g 1))] 7 (v := x5 + 5) dL_law_2972 rfl (by rw [cst_iconst5]) (by decide) rfl rfl ?_
        refine E_goto 28 dL_law_2975 (by decide) ?_
        refine E_sub [3, 4, 5, 6, 7, 0] rfl ?_
        refine E_up (u' := u + 4) (by omega) ?_
        exact hb28 (x5 + 5) r272.2.1 r276.2 r272.2.2 dd hf
      · have hf := ite_e c283 hf
        refine E_iconst 1562 0 dL_law_1561 cst_iconst0 rfl ?_
        cases hf
  · have hf := ite_e c280 hf
    refine E_iconst 1545 0 dL_law_1544 cst_iconst0 rfl ?_
    cases hf
set_option maxRecDepth 100000 in
set_option maxHeartbeats 4000000 in
theorem j_L_law_s_J1614 {l : Launch} {g : Gt} {b u : Nat} (hl : l.stackTraces = false) (hu : u ≤ 2090) {μ : Mm} {ν : Mm} {o : Nat → Int64} {dd : Nat → UInt64} {Ls : Nat} {xs : Nat → Int32} {kb28 : (Int32 → Mm → Mm → (Nat → Int64) → (Nat → UInt64) → Option Unit)} {x5 : Int32} {x6 : Int32} {s0 : Int32} {s1 : Int32} {res : Unit} (hb28 : ∀ (v5 : Int32) (μ' : Mm) (ν' : Mm) (o' : Nat → Int64) (dd' : Nat → UInt64), kb28 v5 μ' ν' o' dd' = some res → E l g z_L_law 28 [(0, .ref b), (1, .ref (gaC g 0)), (2, .ref (gaM g 0)), (3, .ref (gao g 0)), (4, .ref (gao g 1)), (5, .int v5)] [] (μ', ν', o', dd') (u + 4) (Qlaw g b Ls xs)) (hf : f_L_law_s_J1614 Ls xs kb28 x5 x6 s0 s1 μ ν o dd = some res) : E l g z_L_law 1614 [(0, .ref b), (1, .ref (gaC g 0)), (2, .ref (gaM g 0)), (3, .ref (gao g 0)), (4, .ref (gao g 1)), (5, .int x5), (6, .int x6)] [.int s0, .int s1, .ref (gaM g 0)] (μ, ν, o, dd) (u + 1) (Qlaw g b Ls xs) := by
  unfold f_L_law_s_J1614 at hf
  obtain ⟨r292, hc293, hf⟩ := bnd hf
  refine E_callVM1 1617 (u + 1) [] [.int r292.1] (c_X8_setRule hl hc293) my_X8_setRule rc_X8 kl_L_241 rfl rfl (Nat.le_of_ble_eq_true rfl) (rmlaw (by omega) rfl) dL_law_1614 rfl rfl rfl ?_
  refine E_istore 1619 [(7, .int r292.1), (0, .ref b), (1, .ref (gaC g 0)), (2, .ref (gaM g 0)), (3, .ref (gao g 0)), (4, .ref (gao g 1)), (5, .int x5), (6, .int x6)] dL_law_1617 (by decide) rfl rfl ?_
  refine E_aload_n 1620 3 dL_law_1619 rfl rfl rfl ?_
  obtain ⟨r294, hc295, hf⟩ := bnd hf
  refine E_callVM1 1623 (u + 1) [] [.int r294] (c_X8_thrown hl hc295) my_X8_thrown rc_X8 kl_L_163 rfl rfl (Nat.le_of_ble_eq_true rfl) (rmlaw (by omega) rfl) dL_law_1620 rfl rfl rfl ?_
  refine E_iload 1625 7 dL_law_1623 rfl rfl ?_
  refine E_icmp_eq 1630 1628 dL_law_1625 (by decide) rfl (fun c296 => ?_) (fun c296 => ?_)
  · have hf := ite_t c296 hf
    refine E_iload 1632 7 dL_law_1630 rfl rfl ?_
    refine E_if_ne 1654 1635 dL_law_1632 (by decide) rfl (fun c297 => ?_) (fun c297 => ?_)
    · have hf := ite_e c297 hf
      refine E_goto 2972 dL_law_1654 (by decide) ?_
      refine E_iinc 2975 [(5, .int (x5 + 5)), (7, .int r292.1), (0, .ref b), (1, .ref (gaC g 0)), (2, .ref (gaM g 0)), (3, .ref (gao g 0)), (4, .ref (gao g 1)), (6, .int x6)] 6 (v := x5 + 5) dL_law_2972 rfl (by rw [cst_iconst5]) (by decide) rfl rfl ?_
      refine E_goto 28 dL_law_2975 (by decide) ?_
      refine E_sub [2, 3, 4, 5, 6, 0] rfl ?_
      refine E_up (u' := u + 4) (by omega) ?_
      exact hb28 (x5 + 5) μ r292.2 o dd hf
    · have hf := ite_t c297 hf
      refine E_aload_n 1636 4 dL_law_1635 rfl rfl rfl ?_
      refine E_iconst 1637 0 dL_law_1636 cst_iconst0 rfl ?_
      obtain ⟨h298, hf⟩ := chk_some hf
      refine E_lald 1638 h298 dL_law_1637 rfl ?_
      refine E_iload 1640 0 dL_law_1638 rfl rfl ?_
      refine E_if_eq 1647 1643 dL_law_1640 (by decide) rfl (fun c299 => ?_) (fun c299 => ?_)
      · have hf := ite_t c299 hf
        refine E_lconst 1648 0 dL_law_1647 (by decide) rfl ?_
        refine E_lcmp 1649 dL_law_1648 rfl ?_
        refine E_if_eq 1654 1652 dL_law_1649 (by decide) rfl (fun c300 => ?_) (fun c300 => ?_)
        · have hf := ite_t c300 hf
          refine E_goto 2972 dL_law_1654 (by decide) ?_
          refine E_iinc 2975 [(5, .int (x5 + 5)), (7, .int r292.1), (0, .ref b), (1, .ref (gaC g 0)), (2, .ref (gaM g 0)), (3, .ref (gao g 0)), (4, .ref (gao g 1)), (6, .int x6)] 6 (v := x5 + 5) dL_law_2972 rfl (by rw [cst_iconst5]) (by decide) rfl rfl ?_
          refine E_goto 28 dL_law_2975 (by decide) ?_
          refine E_sub [2, 3, 4, 5, 6, 0] rfl ?_
          refine E_up (u' := u + 4) (by omega) ?_
          exact hb28 (x5 + 5) μ r292.2 o dd hf
        · have hf := ite_e c300 hf
          refine E_iconst 1653 0 dL_law_1652 cst_iconst0 rfl ?_
          cases hf
      · have hf := ite_e c299 hf
        refine E_lconst 1644 1 dL_law_1643 (by decide) rfl ?_
        refine E_goto 1648 dL_law_1644 (by decide) ?_
        refine E_lcmp 1649 dL_law_1648 rfl ?_
        refine E_if_eq 1654 1652 dL_law_1649 (by decide) rfl (fun c301 => ?_) (fun c301 => ?_)
        · have hf := ite_t c301 hf
          refine E_goto 2972 dL_law_1654 (by decide) ?_
          refine E_iinc 2975 [(5, .int (x5 + 5)), (7, .int r292.1), (0, .ref b), (1, .ref (gaC g 0)), (2, .ref (gaM g 0)), (3, .ref (gao g 0)), (4, .ref (gao g 1)), (6, .int x6)] 6 (v := x5 + 5) dL_law_2972 rfl (by rw [cst_iconst5]) (by decide) rfl rfl ?_
          refine E_goto 28 dL_law_2975 (by decide) ?_
          refine E_sub [2, 3, 4, 5, 6, 0] rfl ?_
          refine E_up (u' := u + 4) (by omega) ?_
          exact hb28 (x5 + 5) μ r292.2 o dd hf
        · have hf := ite_e c301 hf
          refine E_iconst 1653 0 dL_law_1652 cst_iconst0 rfl ?_
          cases hf
  · have hf := ite_e c296 hf
    refine E_iconst 1629 0 dL_law_1628 cst_iconst0 rfl ?_
    cases hf
set_option maxRecDepth 100000 in
set_option maxHeartbeats 4000000 in
theorem j_L_law_s_J1587 {l : Launch} {g : Gt} {b u : Nat} (hl : l.stackTraces = false) (hu : u ≤ 2090) {μ : Mm} {ν : Mm} {o : Nat → Int64} {dd : Nat → UInt64} {Ls : Nat} {xs : Nat → Int32} {kb28 : (Int32 → Mm → Mm → (Nat → Int64) → (Nat → UInt64) → Option Unit)} {x5 : Int32} {s0 : Int32} {s1 : Int32} {res : Unit} (hb28 : ∀ (v5 : Int32) (μ' : Mm) (ν' : Mm) (o' : Nat → Int64) (dd' : Nat → UInt64), kb28 v5 μ' ν' o' dd' = some res → E l g z_L_law 28 [(0, .ref b), (1, .ref (gaC g 0)), (2, .ref (gaM g 0)), (3, .ref (gao g 0)), (4, .ref (gao g 1)), (5, .int v5)] [] (μ', ν', o', dd') (u + 4) (Qlaw g b Ls xs)) (hf : f_L_law_s_J1587 Ls xs kb28 x5 s0 s1 μ ν o dd = some res) : E l g z_L_law 1587 [(0, .ref b), (1, .ref (gaC g 0)), (2, .ref (gaM g 0)), (3, .ref (gao g 0)), (4, .ref (gao g 1)), (5, .int x5)] [.int s0, .int s1, .ref (gaC g 0)] (μ, ν, o, dd) (u + 0) (Qlaw g b Ls xs) := by
  unfold f_L_law_s_J1587 at hf
  refine E_aload_n 1588 3 dL_law_1587 rfl rfl rfl ?_
  obtain ⟨r287, hc288, hf⟩ := bnd hf
  refine E_callH1 1591 (u + 1) [] [.int r287.1] (c_L_setRule_0_o hl hc288) my_L_setRule kl_L_239 rfl rfl (Nat.le_of_ble_eq_true rfl) (rmlaw (by omega) rfl) dL_law_1588 rfl rfl rfl ?_
  refine E_istore 1593 [(6, .int r287.1), (0, .ref b), (1, .ref (gaC g 0)), (2, .ref (gaM g 0)), (3, .ref (gao g 0)), (4, .ref (gao g 1)), (5, .int x5)] dL_law_1591 (by decide) rfl rfl ?_
  refine E_aload_n 1594 3 dL_law_1593 rfl rfl rfl ?_
  refine E_aload_n 1595 1 dL_law_1594 rfl rfl rfl ?_
  refine E_iload 1597 6 dL_law_1595 rfl rfl ?_
  refine E_iconst 1598 1 dL_law_1597 cst_iconst1 rfl ?_
  refine E_iadd 1599 dL_law_1598 rfl ?_
  obtain ⟨h289, hf⟩ := chk_some hf
  refine E_sld 1600 h289 dL_law_1599 rfl ?_
  refine E_aload_n 1601 1 dL_law_1600 rfl rfl rfl ?_
  refine E_iload 1603 6 dL_law_1601 rfl rfl ?_
  refine E_iconst 1604 2 dL_law_1603 cst_iconst2 rfl ?_
  refine E_iadd 1605 dL_law_1604 rfl ?_
  obtain ⟨h290, hf⟩ := chk_some hf
  refine E_sld 1606 h290 dL_law_1605 rfl ?_
  refine E_if_eq 1613 1609 dL_law_1606 (by decide) rfl (fun c291 => ?_) (fun c291 => ?_)
  · have hf := ite_t c291 hf
    refine E_iconst 1614 0 dL_law_1613 cst_iconst0 rfl ?_
    refine E_sub [1, 2, 3, 4, 5, 6, 0] rfl ?_
    exact j_L_law_s_J1614 hl hu hb28 hf
  · have hf := ite_e c291 hf
    refine E_iconst 1610 1 dL_law_1609 cst_iconst1 rfl ?_
    refine E_goto 1614 dL_law_1610 (by decide) ?_
    refine E_sub [1, 2, 3, 4, 5, 6, 0] rfl ?_
    exact j_L_law_s_J1614 hl hu hb28 hf
set_option maxRecDepth 100000 in
set_option maxHeartbeats 4000000 in
theorem j_L_law_s_J1566 {l : Launch} {g : Gt} {b u : Nat} (hl : l.stackTraces = false) (hu : u ≤ 2090) {μ : Mm} {ν : Mm} {o : Nat → Int64} {dd : Nat → UInt64} {Ls : Nat} {xs : Nat → Int32} {kb28 : (Int32 → Mm → Mm → (Nat → Int64) → (Nat → UInt64) → Option Unit)} {x5 : Int32}  {res : Unit} (hb28 : ∀ (v5 : Int32) (μ' : Mm) (ν' : Mm) (o' : Nat → Int64) (dd' : Nat → UInt64), kb28 v5 μ' ν' o' dd' = some res → E l g z_L_law 28 [(0, .ref b), (1, .ref (gaC g 0)), (2, .ref (gaM g 0)), (3, .ref (gao g 0)), (4, .ref (gao g 1)), (5, .int v5)] [] (μ', ν', o', dd') (u + 4) (Qlaw g b Ls xs)) (hf : f_L_law_s_J1566 Ls xs kb28 x5 μ ν o dd = some res) : E l g z_L_law 1566 [(0, .ref b), (1, .ref (gaC g 0)), (2, .ref (gaM g 0)), (3, .ref (gao g 0)), (4, .ref (gao g 1)), (5, .int x5)] [] (μ, ν, o, dd) (u + 0) (Qlaw g b Ls xs) := by
  unfold f_L_law_s_J1566 at hf
  refine E_aload_n 1567 1 dL_law_1566 rfl rfl rfl ?_
  refine E_aload_n 1568 0 dL_law_1567 rfl rfl rfl ?_
  refine E_iload 1570 5 dL_law_1568 rfl rfl ?_
  refine E_iconst 1571 1 dL_law_1570 cst_iconst1 rfl ?_
  refine E_iadd 1572 dL_law_1571 rfl ?_
  obtain ⟨h284, hf⟩ := chk_some hf
  refine E_sld 1573 h284 dL_law_1572 rfl ?_
  refine E_aload_n 1574 0 dL_law_1573 rfl rfl rfl ?_
  refine E_iload 1576 5 dL_law_1574 rfl rfl ?_
  refine E_iconst 1577 2 dL_law_1576 cst_iconst2 rfl ?_
  refine E_iadd 1578 dL_law_1577 rfl ?_
  obtain ⟨h285, hf⟩ := chk_some hf
  refine E_sld 1579 h285 dL_law_1578 rfl ?_
  refine E_if_eq 1586 1582 dL_law_1579 (by decide) rfl (fun c286 => ?_) (fun c286 => ?_)
  · have hf := ite_t c286 hf
    refine E_iconst 1587 0 dL_law_1586 cst_iconst0 rfl ?_
    refine E_sub [0, 1, 2, 3, 4, 5] rfl ?_
    exact j_L_law_s_J1587 hl hu hb28 hf
  · have hf := ite_e c286 hf
    refine E_iconst 1583 1 dL_law_1582 cst_iconst1 rfl ?_
    refine E_goto 1587 dL_law_1583 (by decide) ?_
    refine E_sub [0, 1, 2, 3, 4, 5] rfl ?_
    exact j_L_law_s_J1587 hl hu hb28 hf
set_option maxRecDepth 100000 in
set_option maxHeartbeats 4000000 in
theorem j_L_law_s_J1657 {l : Launch} {g : Gt} {b u : Nat} (hl : l.stackTraces = false) (hu : u ≤ 2090) {μ : Mm} {ν : Mm} {o : Nat → Int64} {dd : Nat → UInt64} {Ls : Nat} {xs : Nat → Int32} {kb28 : (Int32 → Mm → Mm → (Nat → Int64) → (Nat → UInt64) → Option Unit)} {x5 : Int32}  {res : Unit} (hb28 : ∀ (v5 : Int32) (μ' : Mm) (ν' : Mm) (o' : Nat → Int64) (dd' : Nat → UInt64), kb28 v5 μ' ν' o' dd' = some res → E l g z_L_law 28 [(0, .ref b), (1, .ref (gaC g 0)), (2, .ref (gaM g 0)), (3, .ref (gao g 0)), (4, .ref (gao g 1)), (5, .int v5)] [] (μ', ν', o', dd') (u + 4) (Qlaw g b Ls xs)) (hf : f_L_law_s_J1657 Ls xs kb28 x5 μ ν o dd = some res) : E l g z_L_law 1657 [(0, .ref b), (1, .ref (gaC g 0)), (2, .ref (gaM g 0)), (3, .ref (gao g 0)), (4, .ref (gao g 1)), (5, .int x5)] [] (μ, ν, o, dd) (u + 0) (Qlaw g b Ls xs) := by
  unfold f_L_law_s_J1657 at hf
  refine E_aload_n 1658 1 dL_law_1657 rfl rfl rfl ?_
  refine E_aload_n 1659 0 dL_law_1658 rfl rfl rfl ?_
  refine E_iload 1661 5 dL_law_1659 rfl rfl ?_
  refine E_iconst 1662 1 dL_law_1661 cst_iconst1 rfl ?_
  refine E_iadd 1663 dL_law_1662 rfl ?_
  obtain ⟨h302, hf⟩ := chk_some hf
  refine E_sld 1664 h302 dL_law_1663 rfl ?_
  refine E_aload_n 1665 3 dL_law_1664 rfl rfl rfl ?_
  obtain ⟨r303, hc304, hf⟩ := bnd hf
  refine E_callH1 1668 (u + 1) [] [.int r303.1] (c_L_setThreshold_0_o hl hc304) my_L_setThreshold kl_L_242 rfl rfl (Nat.le_of_ble_eq_true rfl) (rmlaw (by omega) rfl) dL_law_1665 rfl rfl rfl ?_
  refine E_istore 1670 [(6, .int r303.1), (0, .ref b), (1, .ref (gaC g 0)), (2, .ref (gaM g 0)), (3, .ref (gao g 0)), (4, .ref (gao g 1)), (5, .int x5)] dL_law_1668 (by decide) rfl rfl ?_
  refine E_aload_n 1671 3 dL_law_1670 rfl rfl rfl ?_
  refine E_aload_n 1672 1 dL_law_1671 rfl rfl rfl ?_
  refine E_iload 1674 6 dL_law_1672 rfl rfl ?_
  refine E_iconst 1675 1 dL_law_1674 cst_iconst1 rfl ?_
  refine E_iadd 1676 dL_law_1675 rfl ?_
  obtain ⟨h305, hf⟩ := chk_some hf
  refine E_sld 1677 h305 dL_law_1676 rfl ?_
  obtain ⟨r306, hc307, hf⟩ := bnd hf
  refine E_callVM1 1680 (u + 1) [] [.int r306.1] (c_X8_setThreshold hl hc307) my_X8_setThreshold rc_X8 kl_L_244 rfl rfl (Nat.le_of_ble_eq_true rfl) (rmlaw (by omega) rfl) dL_law_1677 rfl rfl rfl ?_
  refine E_istore 1682 [(7, .int r306.1), (6, .int r303.1), (0, .ref b), (1, .ref (gaC g 0)), (2, .ref (gaM g 0)), (3, .ref (gao g 0)), (4, .ref (gao g 1)), (5, .int x5)] dL_law_1680 (by decide) rfl rfl ?_
  refine E_aload_n 1683 4 dL_law_1682 rfl rfl rfl ?_
  obtain ⟨r308, hc309, hf⟩ := bnd hf
  refine E_callVM1 1686 (u + 1) [] [.int r308] (c_X8_thrown hl hc309) my_X8_thrown rc_X8 kl_L_163 rfl rfl (Nat.le_of_ble_eq_true rfl) (rmlaw (by omega) rfl) dL_law_1683 rfl rfl rfl ?_
  refine E_iload 1688 1 dL_law_1686 rfl rfl ?_
  refine E_icmp_eq 1693 1691 dL_law_1688 (by decide) rfl (fun c310 => ?_) (fun c310 => ?_)
  · have hf := ite_t c310 hf
    refine E_iload 1695 1 dL_law_1693 rfl rfl ?_
    refine E_if_ne 1710 1698 dL_law_1695 (by decide) rfl (fun c311 => ?_) (fun c311 => ?_)
    · have hf := ite_e c311 hf
      refine E_goto 2972 dL_law_1710 (by decide) ?_
      refine E_iinc 2975 [(5, .int (x5 + 5)), (7, .int r306.1), (6, .int r303.1), (0, .ref b), (1, .ref (gaC g 0)), (2, .ref (gaM g 0)), (3, .ref (gao g 0)), (4, .ref (gao g 1))] 7 (v := x5 + 5) dL_law_2972 rfl (by rw [cst_iconst5]) (by decide) rfl rfl ?_
      refine E_goto 28 dL_law_2975 (by decide) ?_
      refine E_sub [3, 4, 5, 6, 7, 0] rfl ?_
      refine E_up (u' := u + 4) (by omega) ?_
      exact hb28 (x5 + 5) r303.2.1 r306.2 r303.2.2 dd hf
    · have hf := ite_t c311 hf
      refine E_aload_n 1699 5 dL_law_1698 rfl rfl rfl ?_
      refine E_iconst 1700 0 dL_law_1699 cst_iconst0 rfl ?_
      obtain ⟨h312, hf⟩ := chk_some hf
      refine E_lald 1701 h312 dL_law_1700 rfl ?_
      refine E_iload 1703 0 dL_law_1701 rfl rfl ?_
      refine E_i2l 1704 dL_law_1703 rfl ?_
      refine E_lcmp 1705 dL_law_1704 rfl ?_
      refine E_if_eq 1710 1708 dL_law_1705 (by decide) rfl (fun c313 => ?_) (fun c313 => ?_)
      · have hf := ite_t c313 hf
        refine E_goto 2972 dL_law_1710 (by decide) ?_
        refine E_iinc 2975 [(5, .int (x5 + 5)), (7, .int r306.1), (6, .int r303.1), (0, .ref b), (1, .ref (gaC g 0)), (2, .ref (gaM g 0)), (3, .ref (gao g 0)), (4, .ref (gao g 1))] 7 (v := x5 + 5) dL_law_2972 rfl (by rw [cst_iconst5]) (by decide) rfl rfl ?_
        refine E_goto 28 dL_law_2975 (by decide) ?_
        refine E_sub [3, 4, 5, 6, 7, 0] rfl ?_
        refine E_up (u' := u + 4) (by omega) ?_
        exact hb28 (x5 + 5) r303.2.1 r306.2 r303.2.2 dd hf
      · have hf := ite_e c313 hf
        refine E_iconst 1709 0 dL_law_1708 cst_iconst0 rfl ?_
        cases hf
  · have hf := ite_e c310 hf
    refine E_iconst 1692 0 dL_law_1691 cst_iconst0 rfl ?_
    cases hf
set_option maxRecDepth 100000 in
set_option maxHeartbeats 4000000 in
theorem j_L_law_s_J1713 {l : Launch} {g : Gt} {b u : Nat} (hl : l.stackTraces = false) (hu : u ≤ 2090) {μ : Mm} {ν : Mm} {o : Nat → Int64} {dd : Nat → UInt64} {Ls : Nat} {xs : Nat → Int32} {kb28 : (Int32 → Mm → Mm → (Nat → Int64) → (Nat → UInt64) → Option Unit)} {x5 : Int32}  {res : Unit} (hb28 : ∀ (v5 : Int32) (μ' : Mm) (ν' : Mm) (o' : Nat → Int64) (dd' : Nat → UInt64), kb28 v5 μ' ν' o' dd' = some res → E l g z_L_law 28 [(0, .ref b), (1, .ref (gaC g 0)), (2, .ref (gaM g 0)), (3, .ref (gao g 0)), (4, .ref (gao g 1)), (5, .int v5)] [] (μ', ν', o', dd') (u + 4) (Qlaw g b Ls xs)) (hf : f_L_law_s_J1713 Ls xs kb28 x5 μ ν o dd = some res) : E l g z_L_law 1713 [(0, .ref b), (1, .ref (gaC g 0)), (2, .ref (gaM g 0)), (3, .ref (gao g 0)), (4, .ref (gao g 1)), (5, .int x5)] [] (μ, ν, o, dd) (u + 0) (Qlaw g b Ls xs) := by
  unfold f_L_law_s_J1713 at hf
  refine E_aload_n 1714 1 dL_law_1713 rfl rfl rfl ?_
  refine E_aload_n 1715 0 dL_law_1714 rfl rfl rfl ?_
  refine E_iload 1717 5 dL_law_1715 rfl rfl ?_
  refine E_iconst 1718 1 dL_law_1717 cst_iconst1 rfl ?_
  refine E_iadd 1719 dL_law_1718 rfl ?_
  obtain ⟨h314, hf⟩ := chk_some hf
  refine E_sld 1720 h314 dL_law_1719 rfl ?_
  refine E_aload_n 1721 3 dL_law_1720 rfl rfl rfl ?_
  obtain ⟨r315, hc316, hf⟩ := bnd hf
  refine E_callH1 1724 (u + 1) [] [.int r315.1] (c_L_score_0_o hl hc316) my_L_score kl_L_245 rfl rfl (Nat.le_of_ble_eq_true rfl) (rmlaw (by omega) rfl) dL_law_1721 rfl rfl rfl ?_
  refine E_istore 1726 [(6, .int r315.1), (0, .ref b), (1, .ref (gaC g 0)), (2, .ref (gaM g 0)), (3, .ref (gao g 0)), (4, .ref (gao g 1)), (5, .int x5)] dL_law_1724 (by decide) rfl rfl ?_
  refine E_aload_n 1727 3 dL_law_1726 rfl rfl rfl ?_
  refine E_aload_n 1728 1 dL_law_1727 rfl rfl rfl ?_
  refine E_iload 1730 6 dL_law_1728 rfl rfl ?_
  refine E_iconst 1731 1 dL_law_1730 cst_iconst1 rfl ?_
  refine E_iadd 1732 dL_law_1731 rfl ?_
  obtain ⟨h317, hf⟩ := chk_some hf
  refine E_sld 1733 h317 dL_law_1732 rfl ?_
  obtain ⟨r318, hc319, hf⟩ := bnd hf
  refine E_callVM1 1736 (u + 1) [] [.int r318.1] (c_X8_score hl hc319) my_X8_score rc_X8 kl_L_247 rfl rfl (Nat.le_of_ble_eq_true rfl) (rmlaw (by omega) rfl) dL_law_1733 rfl rfl rfl ?_
  refine E_istore 1738 [(7, .int r318.1), (6, .int r315.1), (0, .ref b), (1, .ref (gaC g 0)), (2, .ref (gaM g 0)), (3, .ref (gao g 0)), (4, .ref (gao g 1)), (5, .int x5)] dL_law_1736 (by decide) rfl rfl ?_
  refine E_aload_n 1739 4 dL_law_1738 rfl rfl rfl ?_
  obtain ⟨r320, hc321, hf⟩ := bnd hf
  refine E_callVM1 1742 (u + 1) [] [.int r320] (c_X8_thrown hl hc321) my_X8_thrown rc_X8 kl_L_163 rfl rfl (Nat.le_of_ble_eq_true rfl) (rmlaw (by omega) rfl) dL_law_1739 rfl rfl rfl ?_
  refine E_iload 1744 1 dL_law_1742 rfl rfl ?_
  refine E_icmp_eq 1749 1747 dL_law_1744 (by decide) rfl (fun c322 => ?_) (fun c322 => ?_)
  · have hf := ite_t c322 hf
    refine E_iload 1751 1 dL_law_1749 rfl rfl ?_
    refine E_if_ne 1766 1754 dL_law_1751 (by decide) rfl (fun c323 => ?_) (fun c323 => ?_)
    · have hf := ite_e c323 hf
      refine E_goto 2972 dL_law_1766 (by decide) ?_
      refine E_iinc 2975 [(5, .int (x5 + 5)), (7, .int r318.1), (6, .int r315.1), (0, .ref b), (1, .ref (gaC g 0)), (2, .ref (gaM g 0)), (3, .ref (gao g 0)), (4, .ref (gao g 1))] 7 (v := x5 + 5) dL_law_2972 rfl (by rw [cst_iconst5]) (by decide) rfl rfl ?_
      refine E_goto 28 dL_law_2975 (by decide) ?_
      refine E_sub [3, 4, 5, 6, 7, 0] rfl ?_
      refine E_up (u' := u + 4) (by omega) ?_
      exact hb28 (x5 + 5) μ r318.2 r315.2 dd hf
    · have hf := ite_t c323 hf
      refine E_aload_n 1755 5 dL_law_1754 rfl rfl rfl ?_
      refine E_iconst 1756 0 dL_law_1755 cst_iconst0 rfl ?_
      obtain ⟨h324, hf⟩ := chk_some hf
      refine E_lald 1757 h324 dL_law_1756 rfl ?_
      refine E_iload 1759 0 dL_law_1757 rfl rfl ?_
      refine E_i2l 1760 dL_law_1759 rfl ?_
      refine E_lcmp 1761 dL_law_1760 rfl ?_
      refine E_if_eq 1766 1764 dL_law_1761 (by decide) rfl (fun c325 => ?_) (fun c325 => ?_)
      · have hf := ite_t c325 hf
        refine E_goto 2972 dL_law_1766 (by decide) ?_
        refine E_iinc 2975 [(5, .int (x5 + 5)), (7, .int r318.1), (6, .int r315.1), (0, .ref b), (1, .ref (gaC g 0)), (2, .ref (gaM g 0)), (3, .ref (gao g 0)), (4, .ref (gao g 1))] 7 (v := x5 + 5) dL_law_2972 rfl (by rw [cst_iconst5]) (by decide) rfl rfl ?_
        refine E_goto 28 dL_law_2975 (by decide) ?_
        refine E_sub [3, 4, 5, 6, 7, 0] rfl ?_
        refine E_up (u' := u + 4) (by omega) ?_
        exact hb28 (x5 + 5) μ r318.2 r315.2 dd hf
      · have hf := ite_e c325 hf
        refine E_iconst 1765 0 dL_law_1764 cst_iconst0 rfl ?_
        cases hf
  · have hf := ite_e c322 hf
    refine E_iconst 1748 0 dL_law_1747 cst_iconst0 rfl ?_
    cases hf
set_option maxRecDepth 100000 in
set_option maxHeartbeats 4000000 in
theorem j_L_law_s_J1769 {l : Launch} {g : Gt} {b u : Nat} (hl : l.stackTraces = false) (hu : u ≤ 2090) {μ : Mm} {ν : Mm} {o : Nat → Int64} {dd : Nat → UInt64} {Ls : Nat} {xs : Nat → Int32} {kb28 : (Int32 → Mm → Mm → (Nat → Int64) → (Nat → UInt64) → Option Unit)} {x5 : Int32}  {res : Unit} (hb28 : ∀ (v5 : Int32) (μ' : Mm) (ν' : Mm) (o' : Nat → Int64) (dd' : Nat → UInt64), kb28 v5 μ' ν' o' dd' = some res → E l g z_L_law 28 [(0, .ref b), (1, .ref (gaC g 0)), (2, .ref (gaM g 0)), (3, .ref (gao g 0)), (4, .ref (gao g 1)), (5, .int v5)] [] (μ', ν', o', dd') (u + 4) (Qlaw g b Ls xs)) (hf : f_L_law_s_J1769 Ls xs kb28 x5 μ ν o dd = some res) : E l g z_L_law 1769 [(0, .ref b), (1, .ref (gaC g 0)), (2, .ref (gaM g 0)), (3, .ref (gao g 0)), (4, .ref (gao g 1)), (5, .int x5)] [] (μ, ν, o, dd) (u + 0) (Qlaw g b Ls xs) := by
  unfold f_L_law_s_J1769 at hf
  refine E_aload_n 1770 1 dL_law_1769 rfl rfl rfl ?_
  refine E_aload_n 1771 0 dL_law_1770 rfl rfl rfl ?_
  refine E_iload 1773 5 dL_law_1771 rfl rfl ?_
  refine E_iconst 1774 1 dL_law_1773 cst_iconst1 rfl ?_
  refine E_iadd 1775 dL_law_1774 rfl ?_
  obtain ⟨h326, hf⟩ := chk_some hf
  refine E_sld 1776 h326 dL_law_1775 rfl ?_
  refine E_aload_n 1777 3 dL_law_1776 rfl rfl rfl ?_
  obtain ⟨r327, hc328, hf⟩ := bnd hf
  refine E_callH1 1780 (u + 1) [] [.int r327.1] (c_L_scoreNow_0_o hl hc328) my_L_scoreNow kl_L_248 rfl rfl (Nat.le_of_ble_eq_true rfl) (rmlaw (by omega) rfl) dL_law_1777 rfl rfl rfl ?_
  refine E_istore 1782 [(6, .int r327.1), (0, .ref b), (1, .ref (gaC g 0)), (2, .ref (gaM g 0)), (3, .ref (gao g 0)), (4, .ref (gao g 1)), (5, .int x5)] dL_law_1780 (by decide) rfl rfl ?_
  refine E_aload_n 1783 3 dL_law_1782 rfl rfl rfl ?_
  refine E_aload_n 1784 1 dL_law_1783 rfl rfl rfl ?_
  refine E_iload 1786 6 dL_law_1784 rfl rfl ?_
  refine E_iconst 1787 1 dL_law_1786 cst_iconst1 rfl ?_
  refine E_iadd 1788 dL_law_1787 rfl ?_
  obtain ⟨h329, hf⟩ := chk_some hf
  refine E_sld 1789 h329 dL_law_1788 rfl ?_
  obtain ⟨r330, hc331, hf⟩ := bnd hf
  refine E_callVM1 1792 (u + 1) [] [.int r330.1] (c_X8_scoreNow hl hc331) my_X8_scoreNow rc_X8 kl_L_250 rfl rfl (Nat.le_of_ble_eq_true rfl) (rmlaw (by omega) rfl) dL_law_1789 rfl rfl rfl ?_
  refine E_istore 1794 [(7, .int r330.1), (6, .int r327.1), (0, .ref b), (1, .ref (gaC g 0)), (2, .ref (gaM g 0)), (3, .ref (gao g 0)), (4, .ref (gao g 1)), (5, .int x5)] dL_law_1792 (by decide) rfl rfl ?_
  refine E_aload_n 1795 4 dL_law_1794 rfl rfl rfl ?_
  obtain ⟨r332, hc333, hf⟩ := bnd hf
  refine E_callVM1 1798 (u + 1) [] [.int r332] (c_X8_thrown hl hc333) my_X8_thrown rc_X8 kl_L_163 rfl rfl (Nat.le_of_ble_eq_true rfl) (rmlaw (by omega) rfl) dL_law_1795 rfl rfl rfl ?_
  refine E_iload 1800 1 dL_law_1798 rfl rfl ?_
  refine E_icmp_eq 1805 1803 dL_law_1800 (by decide) rfl (fun c334 => ?_) (fun c334 => ?_)
  · have hf := ite_t c334 hf
    refine E_iload 1807 1 dL_law_1805 rfl rfl ?_
    refine E_if_ne 1822 1810 dL_law_1807 (by decide) rfl (fun c335 => ?_) (fun c335 => ?_)
    · have hf := ite_e c335 hf
      refine E_goto 2972 dL_law_1822 (by decide) ?_
      refine E_iinc 2975 [(5, .int (x5 + 5)), (7, .int r330.1), (6, .int r327.1), (0, .ref b), (1, .ref (gaC g 0)), (2, .ref (gaM g 0)), (3, .ref (gao g 0)), (4, .ref (gao g 1))] 7 (v := x5 + 5) dL_law_2972 rfl (by rw [cst_iconst5]) (by decide) rfl rfl ?_
      refine E_goto 28 dL_law_2975 (by decide) ?_
      refine E_sub [3, 4, 5, 6, 7, 0] rfl ?_
      refine E_up (u' := u + 4) (by omega) ?_
      exact hb28 (x5 + 5) r327.2.1 r330.2 r327.2.2 dd hf
    · have hf := ite_t c335 hf
      refine E_aload_n 1811 5 dL_law_1810 rfl rfl rfl ?_
      refine E_iconst 1812 0 dL_law_1811 cst_iconst0 rfl ?_
      obtain ⟨h336, hf⟩ := chk_some hf
      refine E_lald 1813 h336 dL_law_1812 rfl ?_
      refine E_iload 1815 0 dL_law_1813 rfl rfl ?_
      refine E_i2l 1816 dL_law_1815 rfl ?_
      refine E_lcmp 1817 dL_law_1816 rfl ?_
      refine E_if_eq 1822 1820 dL_law_1817 (by decide) rfl (fun c337 => ?_) (fun c337 => ?_)
      · have hf := ite_t c337 hf
        refine E_goto 2972 dL_law_1822 (by decide) ?_
        refine E_iinc 2975 [(5, .int (x5 + 5)), (7, .int r330.1), (6, .int r327.1), (0, .ref b), (1, .ref (gaC g 0)), (2, .ref (gaM g 0)), (3, .ref (gao g 0)), (4, .ref (gao g 1))] 7 (v := x5 + 5) dL_law_2972 rfl (by rw [cst_iconst5]) (by decide) rfl rfl ?_
        refine E_goto 28 dL_law_2975 (by decide) ?_
        refine E_sub [3, 4, 5, 6, 7, 0] rfl ?_
        refine E_up (u' := u + 4) (by omega) ?_
        exact hb28 (x5 + 5) r327.2.1 r330.2 r327.2.2 dd hf
      · have hf := ite_e c337 hf
        refine E_iconst 1821 0 dL_law_1820 cst_iconst0 rfl ?_
        cases hf
  · have hf := ite_e c334 hf
    refine E_iconst 1804 0 dL_law_1803 cst_iconst0 rfl ?_
    cases hf
set_option maxRecDepth 100000 in
set_option maxHeartbeats 4000000 in
theorem j_L_law_s_J1825 {l : Launch} {g : Gt} {b u : Nat} (hl : l.stackTraces = false) (hu : u ≤ 2090) {μ : Mm} {ν : Mm} {o : Nat → Int64} {dd : Nat → UInt64} {Ls : Nat} {xs : Nat → Int32} {kb28 : (Int32 → Mm → Mm → (Nat → Int64) → (Nat → UInt64) → Option Unit)} {x5 : Int32}  {res : Unit} (hb28 : ∀ (v5 : Int32) (μ' : Mm) (ν' : Mm) (o' : Nat → Int64) (dd' : Nat → UInt64), kb28 v5 μ' ν' o' dd' = some res → E l g z_L_law 28 [(0, .ref b), (1, .ref (gaC g 0)), (2, .ref (gaM g 0)), (3, .ref (gao g 0)), (4, .ref (gao g 1)), (5, .int v5)] [] (μ', ν', o', dd') (u + 4) (Qlaw g b Ls xs)) (hf : f_L_law_s_J1825 Ls xs kb28 x5 μ ν o dd = some res) : E l g z_L_law 1825 [(0, .ref b), (1, .ref (gaC g 0)), (2, .ref (gaM g 0)), (3, .ref (gao g 0)), (4, .ref (gao g 1)), (5, .int x5)] [] (μ, ν, o, dd) (u + 0) (Qlaw g b Ls xs) := by
  unfold f_L_law_s_J1825 at hf
  refine E_aload_n 1826 1 dL_law_1825 rfl rfl rfl ?_
  refine E_aload_n 1827 0 dL_law_1826 rfl rfl rfl ?_
  refine E_iload 1829 5 dL_law_1827 rfl rfl ?_
  refine E_iconst 1830 1 dL_law_1829 cst_iconst1 rfl ?_
  refine E_iadd 1831 dL_law_1830 rfl ?_
  obtain ⟨h338, hf⟩ := chk_some hf
  refine E_sld 1832 h338 dL_law_1831 rfl ?_
  refine E_aload_n 1833 3 dL_law_1832 rfl rfl rfl ?_
  obtain ⟨r339, hc340, hf⟩ := bnd hf
  refine E_callH1 1836 (u + 1) [] [.int r339.1] (c_L_reasons_0_o hl hc340) my_L_reasons kl_L_251 rfl rfl (Nat.le_of_ble_eq_true rfl) (rmlaw (by omega) rfl) dL_law_1833 rfl rfl rfl ?_
  refine E_istore 1838 [(6, .int r339.1), (0, .ref b), (1, .ref (gaC g 0)), (2, .ref (gaM g 0)), (3, .ref (gao g 0)), (4, .ref (gao g 1)), (5, .int x5)] dL_law_1836 (by decide) rfl rfl ?_
  refine E_aload_n 1839 3 dL_law_1838 rfl rfl rfl ?_
  refine E_aload_n 1840 1 dL_law_1839 rfl rfl rfl ?_
  refine E_iload 1842 6 dL_law_1840 rfl rfl ?_
  refine E_iconst 1843 1 dL_law_1842 cst_iconst1 rfl ?_
  refine E_iadd 1844 dL_law_1843 rfl ?_
  obtain ⟨h341, hf⟩ := chk_some hf
  refine E_sld 1845 h341 dL_law_1844 rfl ?_
  obtain ⟨r342, hc343, hf⟩ := bnd hf
  refine E_callVM1 1848 (u + 1) [] [.int r342.1] (c_X8_reasons hl hc343) my_X8_reasons rc_X8 kl_L_253 rfl rfl (Nat.le_of_ble_eq_true rfl) (rmlaw (by omega) rfl) dL_law_1845 rfl rfl rfl ?_
  refine E_istore 1850 [(7, .int r342.1), (6, .int r339.1), (0, .ref b), (1, .ref (gaC g 0)), (2, .ref (gaM g 0)), (3, .ref (gao g 0)), (4, .ref (gao g 1)), (5, .int x5)] dL_law_1848 (by decide) rfl rfl ?_
  refine E_aload_n 1851 4 dL_law_1850 rfl rfl rfl ?_
  obtain ⟨r344, hc345, hf⟩ := bnd hf
  refine E_callVM1 1854 (u + 1) [] [.int r344] (c_X8_thrown hl hc345) my_X8_thrown rc_X8 kl_L_163 rfl rfl (Nat.le_of_ble_eq_true rfl) (rmlaw (by omega) rfl) dL_law_1851 rfl rfl rfl ?_
  refine E_iload 1856 1 dL_law_1854 rfl rfl ?_
  refine E_icmp_eq 1861 1859 dL_law_1856 (by decide) rfl (fun c346 => ?_) (fun c346 => ?_)
  · have hf := ite_t c346 hf
    refine E_iload 1863 1 dL_law_1861 rfl rfl ?_
    refine E_if_ne 1878 1866 dL_law_1863 (by decide) rfl (fun c347 => ?_) (fun c347 => ?_)
    · have hf := ite_e c347 hf
      refine E_goto 2972 dL_law_1878 (by decide) ?_
      refine E_iinc 2975 [(5, .int (x5 + 5)), (7, .int r342.1), (6, .int r339.1), (0, .ref b), (1, .ref (gaC g 0)), (2, .ref (gaM g 0)), (3, .ref (gao g 0)), (4, .ref (gao g 1))] 7 (v := x5 + 5) dL_law_2972 rfl (by rw [cst_iconst5]) (by decide) rfl rfl ?_
      refine E_goto 28 dL_law_2975 (by decide) ?_
      refine E_sub [3, 4, 5, 6, 7, 0] rfl ?_
      refine E_up (u' := u + 4) (by omega) ?_
      exact hb28 (x5 + 5) μ r342.2 r339.2 dd hf
    · have hf := ite_t c347 hf
      refine E_aload_n 1867 5 dL_law_1866 rfl rfl rfl ?_
      refine E_iconst 1868 0 dL_law_1867 cst_iconst0 rfl ?_
      obtain ⟨h348, hf⟩ := chk_some hf
      refine E_lald 1869 h348 dL_law_1868 rfl ?_
      refine E_iload 1871 0 dL_law_1869 rfl rfl ?_
      refine E_i2l 1872 dL_law_1871 rfl ?_
      refine E_lcmp 1873 dL_law_1872 rfl ?_
      refine E_if_eq 1878 1876 dL_law_1873 (by decide) rfl (fun c349 => ?_) (fun c349 => ?_)
      · have hf := ite_t c349 hf
        refine E_goto 2972 dL_law_1878 (by decide) ?_
        refine E_iinc 2975 [(5, .int (x5 + 5)), (7, .int r342.1), (6, .int r339.1), (0, .ref b), (1, .ref (gaC g 0)), (2, .ref (gaM g 0)), (3, .ref (gao g 0)), (4, .ref (gao g 1))] 7 (v := x5 + 5) dL_law_2972 rfl (by rw [cst_iconst5]) (by decide) rfl rfl ?_
        refine E_goto 28 dL_law_2975 (by decide) ?_
        refine E_sub [3, 4, 5, 6, 7, 0] rfl ?_
        refine E_up (u' := u + 4) (by omega) ?_
        exact hb28 (x5 + 5) μ r342.2 r339.2 dd hf
      · have hf := ite_e c349 hf
        refine E_iconst 1877 0 dL_law_1876 cst_iconst0 rfl ?_
        cases hf
  · have hf := ite_e c346 hf
    refine E_iconst 1860 0 dL_law_1859 cst_iconst0 rfl ?_
    cases hf
set_option maxRecDepth 100000 in
set_option maxHeartbeats 4000000 in
theorem j_L_law_s_J1881 {l : Launch} {g : Gt} {b u : Nat} (hl : l.stackTraces = false) (hu : u ≤ 2090) {μ : Mm} {ν : Mm} {o : Nat → Int64} {dd : Nat → UInt64} {Ls : Nat} {xs : Nat → Int32} {kb28 : (Int32 → Mm → Mm → (Nat → Int64) → (Nat → UInt64) → Option Unit)} {x5 : Int32}  {res : Unit} (hb28 : ∀ (v5 : Int32) (μ' : Mm) (ν' : Mm) (o' : Nat → Int64) (dd' : Nat → UInt64), kb28 v5 μ' ν' o' dd' = some res → E l g z_L_law 28 [(0, .ref b), (1, .ref (gaC g 0)), (2, .ref (gaM g 0)), (3, .ref (gao g 0)), (4, .ref (gao g 1)), (5, .int v5)] [] (μ', ν', o', dd') (u + 4) (Qlaw g b Ls xs)) (hf : f_L_law_s_J1881 Ls xs kb28 x5 μ ν o dd = some res) : E l g z_L_law 1881 [(0, .ref b), (1, .ref (gaC g 0)), (2, .ref (gaM g 0)), (3, .ref (gao g 0)), (4, .ref (gao g 1)), (5, .int x5)] [] (μ, ν, o, dd) (u + 0) (Qlaw g b Ls xs) := by
  unfold f_L_law_s_J1881 at hf
  refine E_aload_n 1882 1 dL_law_1881 rfl rfl rfl ?_
  refine E_aload_n 1883 0 dL_law_1882 rfl rfl rfl ?_
  refine E_iload 1885 5 dL_law_1883 rfl rfl ?_
  refine E_iconst 1886 1 dL_law_1885 cst_iconst1 rfl ?_
  refine E_iadd 1887 dL_law_1886 rfl ?_
  obtain ⟨h350, hf⟩ := chk_some hf
  refine E_sld 1888 h350 dL_law_1887 rfl ?_
  refine E_aload_n 1889 0 dL_law_1888 rfl rfl rfl ?_
  refine E_iload 1891 5 dL_law_1889 rfl rfl ?_
  refine E_iconst 1892 2 dL_law_1891 cst_iconst2 rfl ?_
  refine E_iadd 1893 dL_law_1892 rfl ?_
  obtain ⟨h351, hf⟩ := chk_some hf
  refine E_sld 1894 h351 dL_law_1893 rfl ?_
  refine E_aload_n 1895 3 dL_law_1894 rfl rfl rfl ?_
  obtain ⟨r352, hc353, hf⟩ := bnd hf
  refine E_callH1 1898 (u + 2) [] [.int r352.1] (c_L_reasonRule_0_o hl hc353) my_L_reasonRule kl_L_254 rfl rfl (Nat.le_of_ble_eq_true rfl) (rmlaw (by omega) rfl) dL_law_1895 rfl rfl rfl ?_
  refine E_istore 1900 [(6, .int r352.1), (0, .ref b), (1, .ref (gaC g 0)), (2, .ref (gaM g 0)), (3, .ref (gao g 0)), (4, .ref (gao g 1)), (5, .int x5)] dL_law_1898 (by decide) rfl rfl ?_
  refine E_aload_n 1901 3 dL_law_1900 rfl rfl rfl ?_
  refine E_aload_n 1902 1 dL_law_1901 rfl rfl rfl ?_
  refine E_iload 1904 6 dL_law_1902 rfl rfl ?_
  refine E_iconst 1905 1 dL_law_1904 cst_iconst1 rfl ?_
  refine E_iadd 1906 dL_law_1905 rfl ?_
  obtain ⟨h354, hf⟩ := chk_some hf
  refine E_sld 1907 h354 dL_law_1906 rfl ?_
  refine E_aload_n 1908 1 dL_law_1907 rfl rfl rfl ?_
  refine E_iload 1910 6 dL_law_1908 rfl rfl ?_
  refine E_iconst 1911 2 dL_law_1910 cst_iconst2 rfl ?_
  refine E_iadd 1912 dL_law_1911 rfl ?_
  obtain ⟨h355, hf⟩ := chk_some hf
  refine E_sld 1913 h355 dL_law_1912 rfl ?_
  obtain ⟨r356, hc357, hf⟩ := bnd hf
  refine E_callVM1 1916 (u + 2) [] [.int r356.1] (c_X8_reasonRule hl hc357) my_X8_reasonRule rc_X8 kl_L_256 rfl rfl (Nat.le_of_ble_eq_true rfl) (rmlaw (by omega) rfl) dL_law_1913 rfl rfl rfl ?_
  refine E_istore 1918 [(7, .int r356.1), (6, .int r352.1), (0, .ref b), (1, .ref (gaC g 0)), (2, .ref (gaM g 0)), (3, .ref (gao g 0)), (4, .ref (gao g 1)), (5, .int x5)] dL_law_1916 (by decide) rfl rfl ?_
  refine E_aload_n 1919 4 dL_law_1918 rfl rfl rfl ?_
  obtain ⟨r358, hc359, hf⟩ := bnd hf
  refine E_callVM1 1922 (u + 2) [] [.int r358] (c_X8_thrown hl hc359) my_X8_thrown rc_X8 kl_L_163 rfl rfl (Nat.le_of_ble_eq_true rfl) (rmlaw (by omega) rfl) dL_law_1919 rfl rfl rfl ?_
  refine E_iload 1924 1 dL_law_1922 rfl rfl ?_
  refine E_icmp_eq 1929 1927 dL_law_1924 (by decide) rfl (fun c360 => ?_) (fun c360 => ?_)
  · have hf := ite_t c360 hf
    refine E_iload 1931 1 dL_law_1929 rfl rfl ?_
    refine E_if_ne 1946 1934 dL_law_1931 (by decide) rfl (fun c361 => ?_) (fun c361 => ?_)
    · have hf := ite_e c361 hf
      refine E_goto 2972 dL_law_1946 (by decide) ?_
      refine E_iinc 2975 [(5, .int (x5 + 5)), (7, .int r356.1), (6, .int r352.1), (0, .ref b), (1, .ref (gaC g 0)), (2, .ref (gaM g 0)), (3, .ref (gao g 0)), (4, .ref (gao g 1))] 7 (v := x5 + 5) dL_law_2972 rfl (by rw [cst_iconst5]) (by decide) rfl rfl ?_
      refine E_goto 28 dL_law_2975 (by decide) ?_
      refine E_sub [3, 4, 5, 6, 7, 0] rfl ?_
      refine E_up (u' := u + 4) (by omega) ?_
      exact hb28 (x5 + 5) μ r356.2 r352.2 dd hf
    · have hf := ite_t c361 hf
      refine E_aload_n 1935 5 dL_law_1934 rfl rfl rfl ?_
      refine E_iconst 1936 0 dL_law_1935 cst_iconst0 rfl ?_
      obtain ⟨h362, hf⟩ := chk_some hf
      refine E_lald 1937 h362 dL_law_1936 rfl ?_
      refine E_iload 1939 0 dL_law_1937 rfl rfl ?_
      refine E_i2l 1940 dL_law_1939 rfl ?_
      refine E_lcmp 1941 dL_law_1940 rfl ?_
      refine E_if_eq 1946 1944 dL_law_1941 (by decide) rfl (fun c363 => ?_) (fun c363 => ?_)
      · have hf := ite_t c363 hf
        refine E_goto 2972 dL_law_1946 (by decide) ?_
        refine E_iinc 2975 [(5, .int (x5 + 5)), (7, .int r356.1), (6, .int r352.1), (0, .ref b), (1, .ref (gaC g 0)), (2, .ref (gaM g 0)), (3, .ref (gao g 0)), (4, .ref (gao g 1))] 7 (v := x5 + 5) dL_law_2972 rfl (by rw [cst_iconst5]) (by decide) rfl rfl ?_
        refine E_goto 28 dL_law_2975 (by decide) ?_
        refine E_sub [3, 4, 5, 6, 7, 0] rfl ?_
        refine E_up (u' := u + 4) (by omega) ?_
        exact hb28 (x5 + 5) μ r356.2 r352.2 dd hf
      · have hf := ite_e c363 hf
        refine E_iconst 1945 0 dL_law_1944 cst_iconst0 rfl ?_
        cases hf
  · have hf := ite_e c360 hf
    refine E_iconst 1928 0 dL_law_1927 cst_iconst0 rfl ?_
    cases hf
set_option maxRecDepth 100000 in
set_option maxHeartbeats 4000000 in
theorem j_L_law_s_J1949 {l : Launch} {g : Gt} {b u : Nat} (hl : l.stackTraces = false) (hu : u ≤ 2090) {μ : Mm} {ν : Mm} {o : Nat → Int64} {dd : Nat → UInt64} {Ls : Nat} {xs : Nat → Int32} {kb28 : (Int32 → Mm → Mm → (Nat → Int64) → (Nat → UInt64) → Option Unit)} {x5 : Int32}  {res : Unit} (hb28 : ∀ (v5 : Int32) (μ' : Mm) (ν' : Mm) (o' : Nat → Int64) (dd' : Nat → UInt64), kb28 v5 μ' ν' o' dd' = some res → E l g z_L_law 28 [(0, .ref b), (1, .ref (gaC g 0)), (2, .ref (gaM g 0)), (3, .ref (gao g 0)), (4, .ref (gao g 1)), (5, .int v5)] [] (μ', ν', o', dd') (u + 4) (Qlaw g b Ls xs)) (hf : f_L_law_s_J1949 Ls xs kb28 x5 μ ν o dd = some res) : E l g z_L_law 1949 [(0, .ref b), (1, .ref (gaC g 0)), (2, .ref (gaM g 0)), (3, .ref (gao g 0)), (4, .ref (gao g 1)), (5, .int x5)] [] (μ, ν, o, dd) (u + 0) (Qlaw g b Ls xs) := by
  unfold f_L_law_s_J1949 at hf
  refine E_aload_n 1950 1 dL_law_1949 rfl rfl rfl ?_
  refine E_aload_n 1951 0 dL_law_1950 rfl rfl rfl ?_
  refine E_iload 1953 5 dL_law_1951 rfl rfl ?_
  refine E_iconst 1954 1 dL_law_1953 cst_iconst1 rfl ?_
  refine E_iadd 1955 dL_law_1954 rfl ?_
  obtain ⟨h364, hf⟩ := chk_some hf
  refine E_sld 1956 h364 dL_law_1955 rfl ?_
  refine E_aload_n 1957 0 dL_law_1956 rfl rfl rfl ?_
  refine E_iload 1959 5 dL_law_1957 rfl rfl ?_
  refine E_iconst 1960 2 dL_law_1959 cst_iconst2 rfl ?_
  refine E_iadd 1961 dL_law_1960 rfl ?_
  obtain ⟨h365, hf⟩ := chk_some hf
  refine E_sld 1962 h365 dL_law_1961 rfl ?_
  refine E_aload_n 1963 3 dL_law_1962 rfl rfl rfl ?_
  obtain ⟨r366, hc367, hf⟩ := bnd hf
  refine E_callH1 1966 (u + 2) [] [.int r366.1] (c_L_reasonTests_0_o hl hc367) my_L_reasonTests kl_L_257 rfl rfl (Nat.le_of_ble_eq_true rfl) (rmlaw (by omega) rfl) dL_law_1963 rfl rfl rfl ?_
  refine E_istore 1968 [(6, .int r366.1), (0, .ref b), (1, .ref (gaC g 0)), (2, .ref (gaM g 0)), (3, .ref (gao g 0)), (4, .ref (gao g 1)), (5, .int x5)] dL_law_1966 (by decide) rfl rfl ?_
  refine E_aload_n 1969 3 dL_law_1968 rfl rfl rfl ?_
  refine E_aload_n 1970 1 dL_law_1969 rfl rfl rfl ?_
  refine E_iload 1972 6 dL_law_1970 rfl rfl ?_
  refine E_iconst 1973 1 dL_law_1972 cst_iconst1 rfl ?_
  refine E_iadd 1974 dL_law_1973 rfl ?_
  obtain ⟨h368, hf⟩ := chk_some hf
  refine E_sld 1975 h368 dL_law_1974 rfl ?_
  refine E_aload_n 1976 1 dL_law_1975 rfl rfl rfl ?_
  refine E_iload 1978 6 dL_law_1976 rfl rfl ?_
  refine E_iconst 1979 2 dL_law_1978 cst_iconst2 rfl ?_
  refine E_iadd 1980 dL_law_1979 rfl ?_
  obtain ⟨h369, hf⟩ := chk_some hf
  refine E_sld 1981 h369 dL_law_1980 rfl ?_
  obtain ⟨r370, hc371, hf⟩ := bnd hf
  refine E_callVM1 1984 (u + 2) [] [.int r370.1] (c_X8_reasonTests hl hc371) my_X8_reasonTests rc_X8 kl_L_259 rfl rfl (Nat.le_of_ble_eq_true rfl) (rmlaw (by omega) rfl) dL_law_1981 rfl rfl rfl ?_
  refine E_istore 1986 [(7, .int r370.1), (6, .int r366.1), (0, .ref b), (1, .ref (gaC g 0)), (2, .ref (gaM g 0)), (3, .ref (gao g 0)), (4, .ref (gao g 1)), (5, .int x5)] dL_law_1984 (by decide) rfl rfl ?_
  refine E_aload_n 1987 4 dL_law_1986 rfl rfl rfl ?_
  obtain ⟨r372, hc373, hf⟩ := bnd hf
  refine E_callVM1 1990 (u + 2) [] [.int r372] (c_X8_thrown hl hc373) my_X8_thrown rc_X8 kl_L_163 rfl rfl (Nat.le_of_ble_eq_true rfl) (rmlaw (by omega) rfl) dL_law_1987 rfl rfl rfl ?_
  refine E_iload 1992 1 dL_law_1990 rfl rfl ?_
  refine E_icmp_eq 1997 1995 dL_law_1992 (by decide) rfl (fun c374 => ?_) (fun c374 => ?_)
  · have hf := ite_t c374 hf
    refine E_iload 1999 1 dL_law_1997 rfl rfl ?_
    refine E_if_ne 2014 2002 dL_law_1999 (by decide) rfl (fun c375 => ?_) (fun c375 => ?_)
    · have hf := ite_e c375 hf
      refine E_goto 2972 dL_law_2014 (by decide) ?_
      refine E_iinc 2975 [(5, .int (x5 + 5)), (7, .int r370.1), (6, .int r366.1), (0, .ref b), (1, .ref (gaC g 0)), (2, .ref (gaM g 0)), (3, .ref (gao g 0)), (4, .ref (gao g 1))] 7 (v := x5 + 5) dL_law_2972 rfl (by rw [cst_iconst5]) (by decide) rfl rfl ?_
      refine E_goto 28 dL_law_2975 (by decide) ?_
      refine E_sub [3, 4, 5, 6, 7, 0] rfl ?_
      refine E_up (u' := u + 4) (by omega) ?_
      exact hb28 (x5 + 5) μ r370.2 r366.2 dd hf
    · have hf := ite_t c375 hf
      refine E_aload_n 2003 5 dL_law_2002 rfl rfl rfl ?_
      refine E_iconst 2004 0 dL_law_2003 cst_iconst0 rfl ?_
      obtain ⟨h376, hf⟩ := chk_some hf
      refine E_lald 2005 h376 dL_law_2004 rfl ?_
      refine E_iload 2007 0 dL_law_2005 rfl rfl ?_
      refine E_i2l 2008 dL_law_2007 rfl ?_
      refine E_lcmp 2009 dL_law_2008 rfl ?_
      refine E_if_eq 2014 2012 dL_law_2009 (by decide) rfl (fun c377 => ?_) (fun c377 => ?_)
      · have hf := ite_t c377 hf
        refine E_goto 2972 dL_law_2014 (by decide) ?_
        refine E_iinc 2975 [(5, .int (x5 + 5)), (7, .int r370.1), (6, .int r366.1), (0, .ref b), (1, .ref (gaC g 0)), (2, .ref (gaM g 0)), (3, .ref (gao g 0)), (4, .ref (gao g 1))] 7 (v := x5 + 5) dL_law_2972 rfl (by rw [cst_iconst5]) (by decide) rfl rfl ?_
        refine E_goto 28 dL_law_2975 (by decide) ?_
        refine E_sub [3, 4, 5, 6, 7, 0] rfl ?_
        refine E_up (u' := u + 4) (by omega) ?_
        exact hb28 (x5 + 5) μ r370.2 r366.2 dd hf
      · have hf := ite_e c377 hf
        refine E_iconst 2013 0 dL_law_2012 cst_iconst0 rfl ?_
        cases hf
  · have hf := ite_e c374 hf
    refine E_iconst 1996 0 dL_law_1995 cst_iconst0 rfl ?_
    cases hf
