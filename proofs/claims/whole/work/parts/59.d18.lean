/-! ===== a new model (printed by gen/mod_d18.py) ===== -/
set_option maxHeartbeats 4000000 in
set_option maxRecDepth 100000 in
theorem n_new (E : Ev) (M : Mm) (m : Nat) (h0 : PMk (fun _ => 0) 3 m 0 M M) (hm0 : kd M m ≠ 0) : CT E yX11_init cX11_init 2 none 1 56 8301 [.ref m] M ((fun r M' => ∃ A : Nat → Nat, r = none ∧ RM A m (S0n 108) M' ∧ exo M M' m)) noX := by
  refine CT.of rfl (Nat.le_of_ble_eq_true rfl) (fun X g hrt hno hE hN hR hI => ?_)
  subst hE
  have hin : inInit X := hI rfl
  refine z_aload_n g dX11_init_0 rfl ?_
  refine z_objInit g oi_X11 oi_inst oi_code (by rw [hR]; decide) (by rw [hR]; decide) dX11_init_1 ?_
  refine z_aload_n g dX11_init_4 rfl ?_
  refine z_bipush (v := 24) g dX11_init_5 (by decide) ?_
  refine m_newI (n := 24) g 3 h0 hm0 (by decide) (by decide) (by decide) fp_X11_7 rfl rfl hin (by rw [hR]; exact Nat.le_of_ble_eq_true rfl) (by rw [hR]; exact Nat.le_of_ble_eq_true rfl) dX11_init_7 dX11_init_9 (fun A1 M1 h1 => ?_)
  refine z_aload_n g dX11_init_12 rfl ?_
  refine z_bipush (v := 24) g dX11_init_13 (by decide) ?_
  refine m_newI (n := 24) g 4 h1 hm0 (by decide) (by decide) (by decide) fp_X11_13 rfl rfl hin (by rw [hR]; exact Nat.le_of_ble_eq_true rfl) (by rw [hR]; exact Nat.le_of_ble_eq_true rfl) dX11_init_15 dX11_init_17 (fun A2 M2 h2 => ?_)
  refine z_aload_n g dX11_init_20 rfl ?_
  refine z_bipush (v := 24) g dX11_init_21 (by decide) ?_
  refine m_newI (n := 24) g 5 h2 hm0 (by decide) (by decide) (by decide) fp_X11_16 rfl rfl hin (by rw [hR]; exact Nat.le_of_ble_eq_true rfl) (by rw [hR]; exact Nat.le_of_ble_eq_true rfl) dX11_init_23 dX11_init_25 (fun A3 M3 h3 => ?_)
  refine z_aload_n g dX11_init_28 rfl ?_
  refine z_sipush (v := 960) g dX11_init_29 (by decide) ?_
  refine m_newI (n := 960) g 6 h3 hm0 (by decide) (by decide) (by decide) fp_X11_19 rfl rfl hin (by rw [hR]; exact Nat.le_of_ble_eq_true rfl) (by rw [hR]; exact Nat.le_of_ble_eq_true rfl) dX11_init_32 dX11_init_34 (fun A4 M4 h4 => ?_)
  refine z_aload_n g dX11_init_37 rfl ?_
  refine z_sipush (v := 960) g dX11_init_38 (by decide) ?_
  refine m_newI (n := 960) g 7 h4 hm0 (by decide) (by decide) (by decide) fp_X11_22 rfl rfl hin (by rw [hR]; exact Nat.le_of_ble_eq_true rfl) (by rw [hR]; exact Nat.le_of_ble_eq_true rfl) dX11_init_41 dX11_init_43 (fun A5 M5 h5 => ?_)
  refine z_aload_n g dX11_init_46 rfl ?_
  refine z_sipush (v := 960) g dX11_init_47 (by decide) ?_
  refine m_newI (n := 960) g 8 h5 hm0 (by decide) (by decide) (by decide) fp_X11_25 rfl rfl hin (by rw [hR]; exact Nat.le_of_ble_eq_true rfl) (by rw [hR]; exact Nat.le_of_ble_eq_true rfl) dX11_init_50 dX11_init_52 (fun A6 M6 h6 => ?_)
  refine z_aload_n g dX11_init_55 rfl ?_
  refine z_sipush (v := 960) g dX11_init_56 (by decide) ?_
  refine m_newI (n := 960) g 9 h6 hm0 (by decide) (by decide) (by decide) fp_X11_28 rfl rfl hin (by rw [hR]; exact Nat.le_of_ble_eq_true rfl) (by rw [hR]; exact Nat.le_of_ble_eq_true rfl) dX11_init_59 dX11_init_61 (fun A7 M7 h7 => ?_)
  refine z_aload_n g dX11_init_64 rfl ?_
  refine z_bipush (v := 24) g dX11_init_65 (by decide) ?_
  refine m_newI (n := 24) g 10 h7 hm0 (by decide) (by decide) (by decide) fp_X11_31 rfl rfl hin (by rw [hR]; exact Nat.le_of_ble_eq_true rfl) (by rw [hR]; exact Nat.le_of_ble_eq_true rfl) dX11_init_67 dX11_init_69 (fun A8 M8 h8 => ?_)
  refine z_aload_n g dX11_init_72 rfl ?_
  refine z_sipush (v := 960) g dX11_init_73 (by decide) ?_
  refine m_newI (n := 960) g 11 h8 hm0 (by decide) (by decide) (by decide) fp_X11_34 rfl rfl hin (by rw [hR]; exact Nat.le_of_ble_eq_true rfl) (by rw [hR]; exact Nat.le_of_ble_eq_true rfl) dX11_init_76 dX11_init_78 (fun A9 M9 h9 => ?_)
  refine z_aload_n g dX11_init_81 rfl ?_
  refine z_sipush (v := 960) g dX11_init_82 (by decide) ?_
  refine m_newI (n := 960) g 12 h9 hm0 (by decide) (by decide) (by decide) fp_X11_37 rfl rfl hin (by rw [hR]; exact Nat.le_of_ble_eq_true rfl) (by rw [hR]; exact Nat.le_of_ble_eq_true rfl) dX11_init_85 dX11_init_87 (fun A10 M10 h10 => ?_)
  refine z_aload_n g dX11_init_90 rfl ?_
  refine z_sipush (v := 960) g dX11_init_91 (by decide) ?_
  refine m_newI (n := 960) g 13 h10 hm0 (by decide) (by decide) (by decide) fp_X11_40 rfl rfl hin (by rw [hR]; exact Nat.le_of_ble_eq_true rfl) (by rw [hR]; exact Nat.le_of_ble_eq_true rfl) dX11_init_94 dX11_init_96 (fun A11 M11 h11 => ?_)
  refine z_aload_n g dX11_init_99 rfl ?_
  refine z_bipush (v := 24) g dX11_init_100 (by decide) ?_
  refine m_newI (n := 24) g 14 h11 hm0 (by decide) (by decide) (by decide) fp_X11_43 rfl rfl hin (by rw [hR]; exact Nat.le_of_ble_eq_true rfl) (by rw [hR]; exact Nat.le_of_ble_eq_true rfl) dX11_init_102 dX11_init_104 (fun A12 M12 h12 => ?_)
  refine z_aload_n g dX11_init_107 rfl ?_
  refine z_bipush (v := 24) g dX11_init_108 (by decide) ?_
  refine m_newI (n := 24) g 15 h12 hm0 (by decide) (by decide) (by decide) fp_X11_46 rfl rfl hin (by rw [hR]; exact Nat.le_of_ble_eq_true rfl) (by rw [hR]; exact Nat.le_of_ble_eq_true rfl) dX11_init_110 dX11_init_112 (fun A13 M13 h13 => ?_)
  refine z_aload_n g dX11_init_115 rfl ?_
  refine z_bipush (v := 24) g dX11_init_116 (by decide) ?_
  refine m_newI (n := 24) g 16 h13 hm0 (by decide) (by decide) (by decide) fp_X11_49 rfl rfl hin (by rw [hR]; exact Nat.le_of_ble_eq_true rfl) (by rw [hR]; exact Nat.le_of_ble_eq_true rfl) dX11_init_118 dX11_init_120 (fun A14 M14 h14 => ?_)
  refine z_aload_n g dX11_init_123 rfl ?_
  refine z_bipush (v := 100) g dX11_init_124 (by decide) ?_
  have h14 := h14.skip (by decide) (by decide)
  refine m_newI (n := 100) g 18 h14 hm0 (by decide) (by decide) (by decide) fp_X11_52 rfl rfl hin (by rw [hR]; exact Nat.le_of_ble_eq_true rfl) (by rw [hR]; exact Nat.le_of_ble_eq_true rfl) dX11_init_126 dX11_init_128 (fun A15 M15 h15 => ?_)
  refine z_aload_n g dX11_init_131 rfl ?_
  refine z_bipush (v := 100) g dX11_init_132 (by decide) ?_
  refine m_newI (n := 100) g 19 h15 hm0 (by decide) (by decide) (by decide) fp_X11_55 rfl rfl hin (by rw [hR]; exact Nat.le_of_ble_eq_true rfl) (by rw [hR]; exact Nat.le_of_ble_eq_true rfl) dX11_init_134 dX11_init_136 (fun A16 M16 h16 => ?_)
  refine z_aload_n g dX11_init_139 rfl ?_
  refine z_bipush (v := 100) g dX11_init_140 (by decide) ?_
  refine m_newL (n := 100) g 20 h16 hm0 (by decide) (by decide) (by decide) fp_X11_58 rfl rfl hin (by rw [hR]; exact Nat.le_of_ble_eq_true rfl) (by rw [hR]; exact Nat.le_of_ble_eq_true rfl) dX11_init_142 dX11_init_144 (fun A17 M17 h17 => ?_)
  refine z_aload_n g dX11_init_147 rfl ?_
  refine z_bipush (v := 100) g dX11_init_148 (by decide) ?_
  refine m_newI (n := 100) g 21 h17 hm0 (by decide) (by decide) (by decide) fp_X11_62 rfl rfl hin (by rw [hR]; exact Nat.le_of_ble_eq_true rfl) (by rw [hR]; exact Nat.le_of_ble_eq_true rfl) dX11_init_150 dX11_init_152 (fun A18 M18 h18 => ?_)
  refine z_aload_n g dX11_init_155 rfl ?_
  refine z_bipush (v := 100) g dX11_init_156 (by decide) ?_
  refine m_newI (n := 100) g 22 h18 hm0 (by decide) (by decide) (by decide) fp_X11_65 rfl rfl hin (by rw [hR]; exact Nat.le_of_ble_eq_true rfl) (by rw [hR]; exact Nat.le_of_ble_eq_true rfl) dX11_init_158 dX11_init_160 (fun A19 M19 h19 => ?_)
  refine z_aload_n g dX11_init_163 rfl ?_
  refine z_bipush (v := 100) g dX11_init_164 (by decide) ?_
  refine m_newI (n := 100) g 23 h19 hm0 (by decide) (by decide) (by decide) fp_X11_68 rfl rfl hin (by rw [hR]; exact Nat.le_of_ble_eq_true rfl) (by rw [hR]; exact Nat.le_of_ble_eq_true rfl) dX11_init_166 dX11_init_168 (fun A20 M20 h20 => ?_)
  refine z_aload_n g dX11_init_171 rfl ?_
  refine z_bipush (v := 12) g dX11_init_172 (by decide) ?_
  have h20 := h20.skip (by decide) (by decide)
  refine m_newI (n := 12) g 25 h20 hm0 (by decide) (by decide) (by decide) fp_X11_71 rfl rfl hin (by rw [hR]; exact Nat.le_of_ble_eq_true rfl) (by rw [hR]; exact Nat.le_of_ble_eq_true rfl) dX11_init_174 dX11_init_176 (fun A21 M21 h21 => ?_)
  refine z_aload_n g dX11_init_179 rfl ?_
  refine z_bipush (v := 12) g dX11_init_180 (by decide) ?_
  refine m_newI (n := 12) g 26 h21 hm0 (by decide) (by decide) (by decide) fp_X11_74 rfl rfl hin (by rw [hR]; exact Nat.le_of_ble_eq_true rfl) (by rw [hR]; exact Nat.le_of_ble_eq_true rfl) dX11_init_182 dX11_init_184 (fun A22 M22 h22 => ?_)
  refine z_aload_n g dX11_init_187 rfl ?_
  refine z_bipush (v := 12) g dX11_init_188 (by decide) ?_
  refine m_newI (n := 12) g 27 h22 hm0 (by decide) (by decide) (by decide) fp_X11_77 rfl rfl hin (by rw [hR]; exact Nat.le_of_ble_eq_true rfl) (by rw [hR]; exact Nat.le_of_ble_eq_true rfl) dX11_init_190 dX11_init_192 (fun A23 M23 h23 => ?_)
  refine z_aload_n g dX11_init_195 rfl ?_
  refine z_bipush (v := 12) g dX11_init_196 (by decide) ?_
  refine m_newI (n := 12) g 28 h23 hm0 (by decide) (by decide) (by decide) fp_X11_80 rfl rfl hin (by rw [hR]; exact Nat.le_of_ble_eq_true rfl) (by rw [hR]; exact Nat.le_of_ble_eq_true rfl) dX11_init_198 dX11_init_200 (fun A24 M24 h24 => ?_)
  refine z_aload_n g dX11_init_203 rfl ?_
  refine z_bipush (v := 12) g dX11_init_204 (by decide) ?_
  refine m_newI (n := 12) g 29 h24 hm0 (by decide) (by decide) (by decide) fp_X11_83 rfl rfl hin (by rw [hR]; exact Nat.le_of_ble_eq_true rfl) (by rw [hR]; exact Nat.le_of_ble_eq_true rfl) dX11_init_206 dX11_init_208 (fun A25 M25 h25 => ?_)
  refine z_aload_n g dX11_init_211 rfl ?_
  refine z_bipush (v := 12) g dX11_init_212 (by decide) ?_
  refine m_newI (n := 12) g 30 h25 hm0 (by decide) (by decide) (by decide) fp_X11_86 rfl rfl hin (by rw [hR]; exact Nat.le_of_ble_eq_true rfl) (by rw [hR]; exact Nat.le_of_ble_eq_true rfl) dX11_init_214 dX11_init_216 (fun A26 M26 h26 => ?_)
  refine z_aload_n g dX11_init_219 rfl ?_
  refine z_bipush (v := 40) g dX11_init_220 (by decide) ?_
  have h26 := h26.skip (by decide) (by decide)
  refine m_newI (n := 40) g 32 h26 hm0 (by decide) (by decide) (by decide) fp_X11_89 rfl rfl hin (by rw [hR]; exact Nat.le_of_ble_eq_true rfl) (by rw [hR]; exact Nat.le_of_ble_eq_true rfl) dX11_init_222 dX11_init_224 (fun A27 M27 h27 => ?_)
  refine z_aload_n g dX11_init_227 rfl ?_
  refine z_bipush (v := 40) g dX11_init_228 (by decide) ?_
  refine m_newI (n := 40) g 33 h27 hm0 (by decide) (by decide) (by decide) fp_X11_92 rfl rfl hin (by rw [hR]; exact Nat.le_of_ble_eq_true rfl) (by rw [hR]; exact Nat.le_of_ble_eq_true rfl) dX11_init_230 dX11_init_232 (fun A28 M28 h28 => ?_)
  refine z_aload_n g dX11_init_235 rfl ?_
  refine z_bipush (v := 40) g dX11_init_236 (by decide) ?_
  refine m_newI (n := 40) g 34 h28 hm0 (by decide) (by decide) (by decide) fp_X11_95 rfl rfl hin (by rw [hR]; exact Nat.le_of_ble_eq_true rfl) (by rw [hR]; exact Nat.le_of_ble_eq_true rfl) dX11_init_238 dX11_init_240 (fun A29 M29 h29 => ?_)
  refine z_aload_n g dX11_init_243 rfl ?_
  refine z_bipush (v := 40) g dX11_init_244 (by decide) ?_
  refine m_newI (n := 40) g 35 h29 hm0 (by decide) (by decide) (by decide) fp_X11_98 rfl rfl hin (by rw [hR]; exact Nat.le_of_ble_eq_true rfl) (by rw [hR]; exact Nat.le_of_ble_eq_true rfl) dX11_init_246 dX11_init_248 (fun A30 M30 h30 => ?_)
  refine z_aload_n g dX11_init_251 rfl ?_
  refine z_bipush (v := 16) g dX11_init_252 (by decide) ?_
  have h30 := h30.skip (by decide) (by decide)
  refine m_newI (n := 16) g 37 h30 hm0 (by decide) (by decide) (by decide) fp_X11_101 rfl rfl hin (by rw [hR]; exact Nat.le_of_ble_eq_true rfl) (by rw [hR]; exact Nat.le_of_ble_eq_true rfl) dX11_init_254 dX11_init_256 (fun A31 M31 h31 => ?_)
  refine z_aload_n g dX11_init_259 rfl ?_
  refine z_bipush (v := 16) g dX11_init_260 (by decide) ?_
  refine m_newI (n := 16) g 38 h31 hm0 (by decide) (by decide) (by decide) fp_X11_104 rfl rfl hin (by rw [hR]; exact Nat.le_of_ble_eq_true rfl) (by rw [hR]; exact Nat.le_of_ble_eq_true rfl) dX11_init_262 dX11_init_264 (fun A32 M32 h32 => ?_)
  refine z_aload_n g dX11_init_267 rfl ?_
  refine z_bipush (v := 16) g dX11_init_268 (by decide) ?_
  refine m_newL (n := 16) g 39 h32 hm0 (by decide) (by decide) (by decide) fp_X11_107 rfl rfl hin (by rw [hR]; exact Nat.le_of_ble_eq_true rfl) (by rw [hR]; exact Nat.le_of_ble_eq_true rfl) dX11_init_270 dX11_init_272 (fun A33 M33 h33 => ?_)
  refine z_aload_n g dX11_init_275 rfl ?_
  refine z_bipush (v := 16) g dX11_init_276 (by decide) ?_
  refine m_newI (n := 16) g 40 h33 hm0 (by decide) (by decide) (by decide) fp_X11_110 rfl rfl hin (by rw [hR]; exact Nat.le_of_ble_eq_true rfl) (by rw [hR]; exact Nat.le_of_ble_eq_true rfl) dX11_init_278 dX11_init_280 (fun A34 M34 h34 => ?_)
  refine z_aload_n g dX11_init_283 rfl ?_
  refine z_bipush (v := 16) g dX11_init_284 (by decide) ?_
  refine m_newI (n := 16) g 41 h34 hm0 (by decide) (by decide) (by decide) fp_X11_113 rfl rfl hin (by rw [hR]; exact Nat.le_of_ble_eq_true rfl) (by rw [hR]; exact Nat.le_of_ble_eq_true rfl) dX11_init_286 dX11_init_288 (fun A35 M35 h35 => ?_)
  refine z_aload_n g dX11_init_291 rfl ?_
  refine z_bipush (v := 16) g dX11_init_292 (by decide) ?_
  refine m_newI (n := 16) g 42 h35 hm0 (by decide) (by decide) (by decide) fp_X11_116 rfl rfl hin (by rw [hR]; exact Nat.le_of_ble_eq_true rfl) (by rw [hR]; exact Nat.le_of_ble_eq_true rfl) dX11_init_294 dX11_init_296 (fun A36 M36 h36 => ?_)
  refine z_aload_n g dX11_init_299 rfl ?_
  refine z_bipush (v := 16) g dX11_init_300 (by decide) ?_
  refine m_newI (n := 16) g 43 h36 hm0 (by decide) (by decide) (by decide) fp_X11_119 rfl rfl hin (by rw [hR]; exact Nat.le_of_ble_eq_true rfl) (by rw [hR]; exact Nat.le_of_ble_eq_true rfl) dX11_init_302 dX11_init_304 (fun A37 M37 h37 => ?_)
  refine z_aload_n g dX11_init_307 rfl ?_
  refine z_bipush (v := 16) g dX11_init_308 (by decide) ?_
  refine m_newI (n := 16) g 44 h37 hm0 (by decide) (by decide) (by decide) fp_X11_122 rfl rfl hin (by rw [hR]; exact Nat.le_of_ble_eq_true rfl) (by rw [hR]; exact Nat.le_of_ble_eq_true rfl) dX11_init_310 dX11_init_312 (fun A38 M38 h38 => ?_)
  refine z_aload_n g dX11_init_315 rfl ?_
  refine z_bipush (v := 16) g dX11_init_316 (by decide) ?_
  refine m_newI (n := 16) g 45 h38 hm0 (by decide) (by decide) (by decide) fp_X11_125 rfl rfl hin (by rw [hR]; exact Nat.le_of_ble_eq_true rfl) (by rw [hR]; exact Nat.le_of_ble_eq_true rfl) dX11_init_318 dX11_init_320 (fun A39 M39 h39 => ?_)
  refine z_aload_n g dX11_init_323 rfl ?_
  refine z_bipush (v := 16) g dX11_init_324 (by decide) ?_
  refine m_newI (n := 16) g 46 h39 hm0 (by decide) (by decide) (by decide) fp_X11_128 rfl rfl hin (by rw [hR]; exact Nat.le_of_ble_eq_true rfl) (by rw [hR]; exact Nat.le_of_ble_eq_true rfl) dX11_init_326 dX11_init_328 (fun A40 M40 h40 => ?_)
  refine z_aload_n g dX11_init_331 rfl ?_
  refine z_bipush (v := 96) g dX11_init_332 (by decide) ?_
  refine m_newI (n := 96) g 47 h40 hm0 (by decide) (by decide) (by decide) fp_X11_131 rfl rfl hin (by rw [hR]; exact Nat.le_of_ble_eq_true rfl) (by rw [hR]; exact Nat.le_of_ble_eq_true rfl) dX11_init_334 dX11_init_336 (fun A41 M41 h41 => ?_)
  refine z_aload_n g dX11_init_339 rfl ?_
  refine z_bipush (v := 24) g dX11_init_340 (by decide) ?_
  refine m_newI (n := 24) g 48 h41 hm0 (by decide) (by decide) (by decide) fp_X11_134 rfl rfl hin (by rw [hR]; exact Nat.le_of_ble_eq_true rfl) (by rw [hR]; exact Nat.le_of_ble_eq_true rfl) dX11_init_342 dX11_init_344 (fun A42 M42 h42 => ?_)
  refine z_aload_n g dX11_init_347 rfl ?_
  refine z_bipush (v := 24) g dX11_init_348 (by decide) ?_
  refine m_newI (n := 24) g 49 h42 hm0 (by decide) (by decide) (by decide) fp_X11_137 rfl rfl hin (by rw [hR]; exact Nat.le_of_ble_eq_true rfl) (by rw [hR]; exact Nat.le_of_ble_eq_true rfl) dX11_init_350 dX11_init_352 (fun A43 M43 h43 => ?_)
  refine z_aload_n g dX11_init_355 rfl ?_
  refine z_bipush (v := 108) g dX11_init_356 (by decide) ?_
  refine m_newI (n := 108) g 50 h43 hm0 (by decide) (by decide) (by decide) fp_X11_140 rfl rfl hin (by rw [hR]; exact Nat.le_of_ble_eq_true rfl) (by rw [hR]; exact Nat.le_of_ble_eq_true rfl) dX11_init_358 dX11_init_360 (fun A44 M44 h44 => ?_)
  refine z_aload_n g dX11_init_363 rfl ?_
  refine z_iconst (v := 4) g dX11_init_364 (by decide) ?_
  have h44 := h44.skip (by decide) (by decide)
  refine m_newL (n := 4) g 52 h44 hm0 (by decide) (by decide) (by decide) fp_X11_143 rfl rfl hin (by rw [hR]; exact Nat.le_of_ble_eq_true rfl) (by rw [hR]; exact Nat.le_of_ble_eq_true rfl) dX11_init_365 dX11_init_367 (fun A45 M45 h45 => ?_)
  refine z_aload_n g dX11_init_370 rfl ?_
  refine z_iconst (v := 4) g dX11_init_371 (by decide) ?_
  refine m_newI (n := 4) g 53 h45 hm0 (by decide) (by decide) (by decide) fp_X11_146 rfl rfl hin (by rw [hR]; exact Nat.le_of_ble_eq_true rfl) (by rw [hR]; exact Nat.le_of_ble_eq_true rfl) dX11_init_372 dX11_init_374 (fun A46 M46 h46 => ?_)
  refine z_aload_n g dX11_init_377 rfl ?_
  refine z_iconst (v := 4) g dX11_init_378 (by decide) ?_
  refine m_newI (n := 4) g 54 h46 hm0 (by decide) (by decide) (by decide) fp_X11_149 rfl rfl hin (by rw [hR]; exact Nat.le_of_ble_eq_true rfl) (by rw [hR]; exact Nat.le_of_ble_eq_true rfl) dX11_init_379 dX11_init_381 (fun A47 M47 h47 => ?_)
  refine z_aload_n g dX11_init_384 rfl ?_
  refine z_iconst (v := 4) g dX11_init_385 (by decide) ?_
  refine m_newI (n := 4) g 55 h47 hm0 (by decide) (by decide) (by decide) fp_X11_152 rfl rfl hin (by rw [hR]; exact Nat.le_of_ble_eq_true rfl) (by rw [hR]; exact Nat.le_of_ble_eq_true rfl) dX11_init_386 dX11_init_388 (fun A48 M48 h48 => ?_)
  refine z_aload_n g dX11_init_391 rfl ?_
  refine z_bipush (v := 24) g dX11_init_392 (by decide) ?_
  refine m_newL (n := 24) g 56 h48 hm0 (by decide) (by decide) (by decide) fp_X11_155 rfl rfl hin (by rw [hR]; exact Nat.le_of_ble_eq_true rfl) (by rw [hR]; exact Nat.le_of_ble_eq_true rfl) dX11_init_394 dX11_init_396 (fun A49 M49 h49 => ?_)
  refine z_aload_n g dX11_init_399 rfl ?_
  refine z_bipush (v := 24) g dX11_init_400 (by decide) ?_
  refine m_newI (n := 24) g 57 h49 hm0 (by decide) (by decide) (by decide) fp_X11_158 rfl rfl hin (by rw [hR]; exact Nat.le_of_ble_eq_true rfl) (by rw [hR]; exact Nat.le_of_ble_eq_true rfl) dX11_init_402 dX11_init_404 (fun A50 M50 h50 => ?_)
  refine z_aload_n g dX11_init_407 rfl ?_
  refine z_iconst (v := 2) g dX11_init_408 (by decide) ?_
  refine z_putI g fp_X11_161 (by rw [h50.2.1]) (by decide) rfl (fun h => nomatch h) dX11_init_409 ?_
  have hbud := h50.bud (v := 2)
  refine z_aload_n g dX11_init_412 rfl ?_
  refine z_bipush (v := 24) g dX11_init_413 (by decide) ?_
  have hbud := hbud.skip (by decide) (by decide)
  have hbud := hbud.skip (by decide) (by decide)
  refine m_newI (n := 24) g 60 hbud hm0 (by decide) (by decide) (by decide) fp_X11_165 rfl rfl hin (by rw [hR]; exact Nat.le_of_ble_eq_true rfl) (by rw [hR]; exact Nat.le_of_ble_eq_true rfl) dX11_init_415 dX11_init_417 (fun A51 M51 h51 => ?_)
  refine z_aload_n g dX11_init_420 rfl ?_
  refine z_bipush (v := 24) g dX11_init_421 (by decide) ?_
  refine m_newI (n := 24) g 61 h51 hm0 (by decide) (by decide) (by decide) fp_X11_168 rfl rfl hin (by rw [hR]; exact Nat.le_of_ble_eq_true rfl) (by rw [hR]; exact Nat.le_of_ble_eq_true rfl) dX11_init_423 dX11_init_425 (fun A52 M52 h52 => ?_)
  refine z_aload_n g dX11_init_428 rfl ?_
  refine z_bipush (v := 12) g dX11_init_429 (by decide) ?_
  have h52 := h52.skip (by decide) (by decide)
  refine m_newI (n := 12) g 63 h52 hm0 (by decide) (by decide) (by decide) fp_X11_171 rfl rfl hin (by rw [hR]; exact Nat.le_of_ble_eq_true rfl) (by rw [hR]; exact Nat.le_of_ble_eq_true rfl) dX11_init_431 dX11_init_433 (fun A53 M53 h53 => ?_)
  refine z_aload_n g dX11_init_436 rfl ?_
  refine z_bipush (v := 13) g dX11_init_437 (by decide) ?_
  have h53 := h53.skip (by decide) (by decide)
  refine m_newI (n := 13) g 65 h53 hm0 (by decide) (by decide) (by decide) fp_X11_174 rfl rfl hin (by rw [hR]; exact Nat.le_of_ble_eq_true rfl) (by rw [hR]; exact Nat.le_of_ble_eq_true rfl) dX11_init_439 dX11_init_441 (fun A54 M54 h54 => ?_)
  refine z_aload_n g dX11_init_444 rfl ?_
  refine z_bipush (v := 16) g dX11_init_445 (by decide) ?_
  refine m_newI (n := 16) g 66 h54 hm0 (by decide) (by decide) (by decide) fp_X11_177 rfl rfl hin (by rw [hR]; exact Nat.le_of_ble_eq_true rfl) (by rw [hR]; exact Nat.le_of_ble_eq_true rfl) dX11_init_447 dX11_init_449 (fun A55 M55 h55 => ?_)
  refine z_aload_n g dX11_init_452 rfl ?_
  refine z_bipush (v := 16) g dX11_init_453 (by decide) ?_
  refine m_newI (n := 16) g 67 h55 hm0 (by decide) (by decide) (by decide) fp_X11_180 rfl rfl hin (by rw [hR]; exact Nat.le_of_ble_eq_true rfl) (by rw [hR]; exact Nat.le_of_ble_eq_true rfl) dX11_init_455 dX11_init_457 (fun A56 M56 h56 => ?_)
  refine z_iconst (v := 0) g dX11_init_460 (by decide) ?_
  refine z_istore_n g dX11_init_461 (by rw [hN]; decide) ?_
  have hRM := h56.RM
  have loop : ∀ (k j : Nat) (Mf : Mm) (hk : k + j = 108) (hMf : RM A56 m (S0n j) Mf) (frf : FM A56 m M56 Mf), Z X Mf 56 8301 462 [(0, .ref m), (1, .int (nI j))] [] := by
    intro k
    induction k using Nat.strongRecOn with
    | _ k ih =>
      intro j Mf hk hMf frf
      refine z_iload_n g dX11_init_462 rfl ?_
      refine z_bipush (v := 108) g dX11_init_463 (by decide) ?_
      refine z_icmp_ge (tgt := 484) g dX11_init_465 (by decide) (fun c_465 => ?_) (fun c_465 => ?_)
      · rw [show (108 : Int32) = nI 108 from rfl, nI_leI (by omega) (by omega)] at c_465
        rw [show j = 108 by omega] at hMf
        exact z_vret g hrt (by decide) (by decide) dX11_init_484 ⟨A56, rfl, hMf, exo.FM hRM h56.1 (fun k hk => h56.2.2.2.2.2 k (hk.elim szI_lt szL_lt) hk) frf⟩
      have h465 : j < 108 := by rw [show (108 : Int32) = nI 108 from rfl, nI_leI (by omega) (by omega)] at c_465; omega
      refine z_aload_n g dX11_init_468 rfl ?_
      refine z_getR g fl_X11_140 hMf.k0 (by decide) rfl (hMf.ref (k := 50) (by decide)) dX11_init_469 ?_
      refine z_iload_n g dX11_init_472 rfl ?_
      refine z_iload_n g dX11_init_473 rfl ?_
      refine z_bipush (v := 27) g dX11_init_474 (by decide) ?_
      refine z_irem g dX11_init_476 (by decide) ?_
      rw [show (27 : Int32) = nI 27 from rfl, pk_rem (a := j) (d := 27) (by omega) (by decide) (by decide)]
      refine m_iast g hMf frf 50 (by decide) (by show _ < 108; omega) dX11_init_477 (fun M8 hM8 fr8 => ?_)
      rw [S0n_s] at hM8
      refine z_iinc1 g dX11_init_478 rfl (by rw [hN]; decide) ?_
      refine z_goto (tgt := 462) g dX11_init_481 (by decide) ?_
      rw [nI_s]
      exact z_to (ih (k - 1) (by omega) (j + 1) M8 (by omega) hM8 fr8) ⟨rfl, rfl, trivial⟩
  exact z_to (loop 108 0 M56 rfl hRM FM.rf) ⟨rfl, rfl, trivial⟩
