/-! ===== the law: isInOrder (printed by gen/mk_order.py) ===== -/
theorem bit_t {x t : Nat} (hx : x < 16) (ht : t < 4) : ¬ (nI x >>> (nI t &&& 31) &&& 1 = 0) ↔ x.testBit t = true := by
  rw [bit_f x (by omega) t (by omega)]
  cases x.testBit t <;> decide
set_option maxHeartbeats 4000000 in
set_option maxRecDepth 100000 in
theorem c_order (E : Ev) {x : Nat} {S : Ms} (M0 : Mm) (hX : ∃ B, RX B x S M0) (hV : INV S) (hJ : JV S) (n : Nat) (hn : gi S 1 = nI n) (hn1 : cn S 1 = n) (hn9 : n ≤ 9000) (v : Int32) : CT E yL_isInOrder cL_isInOrder 13 (some .boolean) 13 4160 130000 [.ref x, .int (nI n), .int v] M0 (fun r M' => r = some (.int 1) ∧ OT x (ordS S) M0 M') noX := by
  refine CT.of rfl (Nat.le_of_ble_eq_true rfl) (fun X g hrt hno hE hN hR hI => ?_)
  subst hE
  have hT : OT x S M0 M0 := ⟨agr.rf, hX⟩
  have fin : ∀ (M : Mm) (hT : OT x S M0 M), Z X M 4096 128000 469 [(0, .ref x), (3, .int 1)] [] := by
    intro M hT
    refine z_iload_n g dL_isInOrder_469 rfl ?_
    refine z_if_eq (tgt := 521) g dL_isInOrder_470 (by decide) (fun h => absurd h (by decide)) (fun _ => ?_)
    refine z_aload_n g dL_isInOrder_473 rfl ?_
    obtain ⟨-, B_474, hB_474⟩ := id hT
    refine z_callV g _ _ cv_L_157 (k_ways _ _ hB_474 hV) hT.k (by decide) rfl (by rw [hR]; decide) (by rw [hR]; show _ ≤ 4160; omega) (by rw [hR]; show _ ≤ 130000; omega) (Nat.le_of_ble_eq_true rfl) rfl dL_isInOrder_474 (fun _ _ h => False.elim h) (fun r_474 M_474 h_474 => ?_)
    obtain ⟨rfl, hg_474, hB_474⟩ := h_474
    replace hT := hT.n hg_474 (un0 hB_474)
    clear hB_474 hg_474
    rcases sm_ways hV with ⟨wy, as⟩ | ⟨wy, as⟩
    · rw [wy]
      refine z_if_ne (tgt := 484) g dL_isInOrder_477 (by decide) (fun h => absurd rfl h) (fun _ => ?_)
      refine z_iconst (v := 1) g dL_isInOrder_480 (by decide) ?_
      refine z_goto (tgt := 485) g dL_isInOrder_481 (by decide) ?_
      refine z_aload_n g dL_isInOrder_485 rfl ?_
      obtain ⟨-, B_486, hB_486⟩ := id hT
      refine z_callV g _ _ cv_L_153 (k_assign _ _ hB_486 hV) hT.k (by decide) rfl (by rw [hR]; decide) (by rw [hR]; show _ ≤ 4160; omega) (by rw [hR]; show _ ≤ 130000; omega) (Nat.le_of_ble_eq_true rfl) rfl dL_isInOrder_486 (fun _ _ h => False.elim h) (fun r_486 M_486 h_486 => ?_)
      obtain ⟨rfl, hg_486, hB_486⟩ := h_486
      replace hT := hT.n hg_486 (un0 hB_486)
      clear hB_486 hg_486
      refine z_iconst (v := (-1)) g dL_isInOrder_489 (by decide) ?_
      rw [as]
      refine z_icmp_ne (tgt := 497) g dL_isInOrder_490 (by decide) (fun h => absurd rfl h) (fun _ => ?_)
      refine z_iconst (v := 1) g dL_isInOrder_493 (by decide) ?_
      refine z_goto (tgt := 498) g dL_isInOrder_494 (by decide) ?_
      refine z_icmp_ne (tgt := 521) g dL_isInOrder_498 (by decide) (fun h => absurd rfl h) (fun _ => ?_)
      refine z_aload_n g dL_isInOrder_501 rfl ?_
      refine z_iconst (v := 0) g dL_isInOrder_502 (by decide) ?_
      have hc_503 : cPull S 0 = 0 := c_pull0 S
      obtain ⟨-, B_503, hB_503⟩ := id hT
      refine z_callV g _ _ cv_L_46 (k_pull _ _ hB_503 hV 0) hT.k (by decide) rfl (by rw [hR]; decide) (by rw [hR]; show _ ≤ 4160; omega) (by rw [hR]; show _ ≤ 130000; omega) (Nat.le_of_ble_eq_true rfl) rfl dL_isInOrder_503 (fun E9 M9 h9 => by obtain ⟨-, h9⟩ := h9; have e9 := h9.1; rw [hc_503] at e9; exact absurd e9 (by decide)) (fun r_503 M_503 h_503 => ?_)
      obtain ⟨-, rfl, hg_503, hB_503⟩ := h_503
      replace hT := hT.n hg_503 hB_503
      clear hB_503 hg_503
      refine z_if_lt (tgt := 521) g dL_isInOrder_506 (by decide) (fun h => absurd h (sm_pull1 hV)) (fun _ => ?_)
      refine z_aload_n g dL_isInOrder_509 rfl ?_
      refine z_iconst (v := 0) g dL_isInOrder_510 (by decide) ?_
      have hc_511 : cPull (sPull S 0) 0 = 0 := c_pull0 _
      obtain ⟨-, B_511, hB_511⟩ := id hT
      refine z_callV g _ _ cv_L_46 (k_pull _ _ hB_511 (I_Pull hV (c_pull0 S)) 0) hT.k (by decide) rfl (by rw [hR]; decide) (by rw [hR]; show _ ≤ 4160; omega) (by rw [hR]; show _ ≤ 130000; omega) (Nat.le_of_ble_eq_true rfl) rfl dL_isInOrder_511 (fun E9 M9 h9 => by obtain ⟨-, h9⟩ := h9; have e9 := h9.1; rw [hc_511] at e9; exact absurd e9 (by decide)) (fun r_511 M_511 h_511 => ?_)
      obtain ⟨-, rfl, hg_511, hB_511⟩ := h_511
      replace hT := hT.n hg_511 hB_511
      clear hB_511 hg_511
      rw [sm_pull2]
      refine z_if_ne (tgt := 521) g dL_isInOrder_514 (by decide) (fun h => absurd rfl h) (fun _ => ?_)
      refine z_iconst (v := 1) g dL_isInOrder_517 (by decide) ?_
      refine z_goto (tgt := 522) g dL_isInOrder_518 (by decide) ?_
      exact z_iret g hrt (by decide) (by decide) (by decide) dL_isInOrder_522 ⟨rfl, hT⟩
    · skip
      refine z_if_ne (tgt := 484) g dL_isInOrder_477 (by decide) (fun _ => ?_) (fun h => absurd h wy)
      refine z_iconst (v := 0) g dL_isInOrder_484 (by decide) ?_
      refine z_aload_n g dL_isInOrder_485 rfl ?_
      obtain ⟨-, B_486, hB_486⟩ := id hT
      refine z_callV g _ _ cv_L_153 (k_assign _ _ hB_486 hV) hT.k (by decide) rfl (by rw [hR]; decide) (by rw [hR]; show _ ≤ 4160; omega) (by rw [hR]; show _ ≤ 130000; omega) (Nat.le_of_ble_eq_true rfl) rfl dL_isInOrder_486 (fun _ _ h => False.elim h) (fun r_486 M_486 h_486 => ?_)
      obtain ⟨rfl, hg_486, hB_486⟩ := h_486
      replace hT := hT.n hg_486 (un0 hB_486)
      clear hB_486 hg_486
      refine z_iconst (v := (-1)) g dL_isInOrder_489 (by decide) ?_
      refine z_icmp_ne (tgt := 497) g dL_isInOrder_490 (by decide) (fun _ => ?_) (fun h => absurd h as)
      refine z_iconst (v := 0) g dL_isInOrder_497 (by decide) ?_
      refine z_icmp_ne (tgt := 521) g dL_isInOrder_498 (by decide) (fun h => absurd rfl h) (fun _ => ?_)
      refine z_aload_n g dL_isInOrder_501 rfl ?_
      refine z_iconst (v := 0) g dL_isInOrder_502 (by decide) ?_
      have hc_503 : cPull S 0 = 0 := c_pull0 S
      obtain ⟨-, B_503, hB_503⟩ := id hT
      refine z_callV g _ _ cv_L_46 (k_pull _ _ hB_503 hV 0) hT.k (by decide) rfl (by rw [hR]; decide) (by rw [hR]; show _ ≤ 4160; omega) (by rw [hR]; show _ ≤ 130000; omega) (Nat.le_of_ble_eq_true rfl) rfl dL_isInOrder_503 (fun E9 M9 h9 => by obtain ⟨-, h9⟩ := h9; have e9 := h9.1; rw [hc_503] at e9; exact absurd e9 (by decide)) (fun r_503 M_503 h_503 => ?_)
      obtain ⟨-, rfl, hg_503, hB_503⟩ := h_503
      replace hT := hT.n hg_503 hB_503
      clear hB_503 hg_503
      refine z_if_lt (tgt := 521) g dL_isInOrder_506 (by decide) (fun h => absurd h (sm_pull1 hV)) (fun _ => ?_)
      refine z_aload_n g dL_isInOrder_509 rfl ?_
      refine z_iconst (v := 0) g dL_isInOrder_510 (by decide) ?_
      have hc_511 : cPull (sPull S 0) 0 = 0 := c_pull0 _
      obtain ⟨-, B_511, hB_511⟩ := id hT
      refine z_callV g _ _ cv_L_46 (k_pull _ _ hB_511 (I_Pull hV (c_pull0 S)) 0) hT.k (by decide) rfl (by rw [hR]; decide) (by rw [hR]; show _ ≤ 4160; omega) (by rw [hR]; show _ ≤ 130000; omega) (Nat.le_of_ble_eq_true rfl) rfl dL_isInOrder_511 (fun E9 M9 h9 => by obtain ⟨-, h9⟩ := h9; have e9 := h9.1; rw [hc_511] at e9; exact absurd e9 (by decide)) (fun r_511 M_511 h_511 => ?_)
      obtain ⟨-, rfl, hg_511, hB_511⟩ := h_511
      replace hT := hT.n hg_511 hB_511
      clear hB_511 hg_511
      rw [sm_pull2]
      refine z_if_ne (tgt := 521) g dL_isInOrder_514 (by decide) (fun h => absurd rfl h) (fun _ => ?_)
      refine z_iconst (v := 1) g dL_isInOrder_517 (by decide) ?_
      refine z_goto (tgt := 522) g dL_isInOrder_518 (by decide) ?_
      exact z_iret g hrt (by decide) (by decide) (by decide) dL_isInOrder_522 ⟨rfl, hT⟩
  have pets : ∀ (u p : Nat) (M : Mm) (hu : u + p = 16) (hT : OT x S M0 M), Z X M (2304 + 112 * p) (72000 + 3500 * p) 303 [(0, .ref x), (1, .int (nI n)), (3, .int 1), (4, .int (nI p))] [] := by
    intro u
    induction u using Nat.strongRecOn with
    | _ u ih =>
      intro p M hu hT
      refine z_iload g dL_isInOrder_303 rfl ?_
      refine z_bipush (v := 16) g dL_isInOrder_305 (by decide) ?_
      refine z_icmp_ge (tgt := 469) g dL_isInOrder_307 (by decide) (fun c_307 => ?_) (fun c_307 => ?_)
      · exact z_to (z_wid (by omega) (by omega) (fin M hT)) ⟨rfl, rfl, trivial⟩
      · rw [show (16 : Int32) = nI 16 from rfl, nI_leI (by omega) (by omega)] at c_307
        refine z_iload_n g dL_isInOrder_310 rfl ?_
        refine z_if_eq (tgt := 469) g dL_isInOrder_311 (by decide) (fun h => absurd h (by decide)) (fun _ => ?_)
        refine z_aload_n g dL_isInOrder_314 rfl ?_
        refine z_bipush (v := 14) g dL_isInOrder_315 (by decide) ?_
        refine z_iload g dL_isInOrder_317 rfl ?_
        refine z_iconst (v := 0) g dL_isInOrder_319 (by decide) ?_
        refine z_iconst (v := 0) g dL_isInOrder_320 (by decide) ?_
        refine z_lconst (v := 0) g dL_isInOrder_321 (by decide) ?_
        obtain ⟨-, B_322, hB_322⟩ := id hT
        refine z_callSH g _ _ csh_L_does (e_petOf _ _ hB_322 hV _ _ _ _) rfl (by rw [hR]; decide) (by rw [hR]; show _ ≤ 4160; omega) (by rw [hR]; show _ ≤ 130000; omega) (Nat.le_of_ble_eq_true rfl) rfl dL_isInOrder_322 (fun _ _ h => False.elim h) (fun r_322 M_322 h_322 => ?_)
        obtain ⟨rfl, hg_322, hB_322⟩ := h_322
        rw [g_petOf_S] at hB_322
        replace hT := hT.n hg_322 hB_322
        clear hB_322 hg_322
        refine z_lstore g dL_isInOrder_325 (by rw [hN]; decide) ?_
        refine z_lload g dL_isInOrder_327 rfl ?_
        refine z_ldc2 g dL_isInOrder_329 kc_L_68 ?_
        refine z_lcmp g dL_isInOrder_332 ?_
        refine z_if_eq (tgt := 463) g dL_isInOrder_333 (by decide) (fun c_333 => ?_) (fun c_333 => ?_)
        · refine z_iinc1 g dL_isInOrder_463 rfl (by rw [hN]; decide) ?_
          refine z_goto (tgt := 303) g dL_isInOrder_466 (by decide) ?_
          rw [nI_s]
          exact z_to (z_wid (by omega) (by omega) (ih (u - 1) (by omega) (p + 1) _ (by omega) hT)) ⟨rfl, rfl, rfl, rfl, trivial⟩
        · obtain ⟨hp, est⟩ := sm_pet hV (k := p) (by omega) (fun z => c_333 ((lg_cmp_eq _ _).mpr z))
          rw [est]
          have hvo := sm_votes hV hJ hp
          have h3 := (hV.2.2.2.2.2.2.1 p hp).2.2.2.2.2.1.2
          rcases (hJ.2.2.2 p hp).2 with ⟨zs, on⟩ | ⟨zs, on, hp5, z44, hmore⟩
          · rw [zs, show lN 0 = (0 : Int64) from rfl]
            refine z_aload_n g dL_isInOrder_336 rfl ?_
            refine z_iload g dL_isInOrder_337 rfl ?_
            refine z_iconst (v := 4) g dL_isInOrder_339 (by decide) ?_
            have hc_340 : cPetOf S (nI p) 4 = 0 := c_petOf0 (w := 4) hV hp (by decide)
            obtain ⟨-, B_340, hB_340⟩ := id hT
            refine z_callV g _ _ cv_L_127 (k_petOf _ _ hB_340 hV (nI p) 4) hT.k (by decide) rfl (by rw [hR]; decide) (by rw [hR]; show _ ≤ 4160; omega) (by rw [hR]; show _ ≤ 130000; omega) (Nat.le_of_ble_eq_true rfl) rfl dL_isInOrder_340 (fun E9 M9 h9 => by obtain ⟨-, h9⟩ := h9; rcases h9 with h9 | h9 <;> (have e9 := h9.1; rw [hc_340] at e9; exact absurd e9 (by decide))) (fun r_340 M_340 h_340 => ?_)
            obtain ⟨-, rfl, hg_340, hB_340⟩ := h_340
            replace hT := hT.n hg_340 (un0 hB_340)
            clear hB_340 hg_340
            rw [show vPetOf S (nI p) 4 = gA S 45 p from by rw [show (4 : Int32) = nI 4 from rfl, vPt_4, nI_clamp (show p < 2 ^ 31 by omega)]]
            rw [on]
            refine z_istore g dL_isInOrder_343 (by rw [hN]; decide) ?_
            refine z_aload_n g dL_isInOrder_345 rfl ?_
            refine z_iload g dL_isInOrder_346 rfl ?_
            refine z_iconst (v := 1) g dL_isInOrder_348 (by decide) ?_
            have hc_349 : cPetOf S (nI p) 1 = 0 := c_petOf0 (w := 1) hV hp (by decide)
            obtain ⟨-, B_349, hB_349⟩ := id hT
            refine z_callV g _ _ cv_L_127 (k_petOf _ _ hB_349 hV (nI p) 1) hT.k (by decide) rfl (by rw [hR]; decide) (by rw [hR]; show _ ≤ 4160; omega) (by rw [hR]; show _ ≤ 130000; omega) (Nat.le_of_ble_eq_true rfl) rfl dL_isInOrder_349 (fun E9 M9 h9 => by obtain ⟨-, h9⟩ := h9; rcases h9 with h9 | h9 <;> (have e9 := h9.1; rw [hc_349] at e9; exact absurd e9 (by decide))) (fun r_349 M_349 h_349 => ?_)
            obtain ⟨-, rfl, hg_349, hB_349⟩ := h_349
            replace hT := hT.n hg_349 (un0 hB_349)
            clear hB_349 hg_349
            rw [show vPetOf S (nI p) 1 = nI (pop (ca S 42 p)) from by rw [show (1 : Int32) = nI 1 from rfl, vPt_1, nI_clamp (show p < 2 ^ 31 by omega)]]
            refine z_aload_n g dL_isInOrder_352 rfl ?_
            refine z_iload g dL_isInOrder_353 rfl ?_
            refine z_iconst (v := 2) g dL_isInOrder_355 (by decide) ?_
            have hc_356 : cPetOf S (nI p) 2 = 0 := c_petOf0 (w := 2) hV hp (by decide)
            obtain ⟨-, B_356, hB_356⟩ := id hT
            refine z_callV g _ _ cv_L_127 (k_petOf _ _ hB_356 hV (nI p) 2) hT.k (by decide) rfl (by rw [hR]; decide) (by rw [hR]; show _ ≤ 4160; omega) (by rw [hR]; show _ ≤ 130000; omega) (Nat.le_of_ble_eq_true rfl) rfl dL_isInOrder_356 (fun E9 M9 h9 => by obtain ⟨-, h9⟩ := h9; rcases h9 with h9 | h9 <;> (have e9 := h9.1; rw [hc_356] at e9; exact absurd e9 (by decide))) (fun r_356 M_356 h_356 => ?_)
            obtain ⟨-, rfl, hg_356, hB_356⟩ := h_356
            replace hT := hT.n hg_356 (un0 hB_356)
            clear hB_356 hg_356
            rw [show vPetOf S (nI p) 2 = nI (pop (ca S 43 p)) from by rw [show (2 : Int32) = nI 2 from rfl, vPt_2, nI_clamp (show p < 2 ^ 31 by omega)]]
            refine z_iadd g dL_isInOrder_359 ?_
            rw [nI_add]
            refine z_istore g dL_isInOrder_360 (by rw [hN]; decide) ?_
            refine z_iload g dL_isInOrder_362 rfl ?_
            refine z_bipush (v := 9) g dL_isInOrder_364 (by decide) ?_
            refine z_icmp_gt (tgt := 461) g dL_isInOrder_366 (by decide) (fun h => by rw [show (9 : Int32) = nI 9 from rfl, nI_ltI (by decide) (by omega)] at h; omega) (fun _ => ?_)
            refine z_lload g dL_isInOrder_369 rfl ?_
            refine z_lconst (v := 0) g dL_isInOrder_371 (by decide) ?_
            refine z_lcmp g dL_isInOrder_372 ?_
            refine z_if_ne (tgt := 380) g dL_isInOrder_373 (by decide) (fun h => absurd h (by decide)) (fun _ => ?_)
            refine z_iconst (v := 1) g dL_isInOrder_376 (by decide) ?_
            refine z_goto (tgt := 381) g dL_isInOrder_377 (by decide) ?_
            refine z_iload g dL_isInOrder_381 rfl ?_
            refine z_iconst (v := (-1)) g dL_isInOrder_383 (by decide) ?_
            refine z_icmp_ne (tgt := 391) g dL_isInOrder_384 (by decide) (fun h => absurd rfl h) (fun _ => ?_)
            refine z_iconst (v := 1) g dL_isInOrder_387 (by decide) ?_
            refine z_goto (tgt := 392) g dL_isInOrder_388 (by decide) ?_
            refine z_icmp_ne (tgt := 461) g dL_isInOrder_392 (by decide) (fun h => absurd rfl h) (fun _ => ?_)
            refine z_iload g dL_isInOrder_395 rfl ?_
            refine z_iload_n g dL_isInOrder_397 rfl ?_
            refine z_icmp_gt (tgt := 461) g dL_isInOrder_398 (by decide) (fun h => absurd h (fun z => absurd (Int32.lt_of_lt_of_le z (by decide : (-1 : Int32) ≤ 0)) (nI_pos (by omega)))) (fun _ => ?_)
            refine z_lload g dL_isInOrder_401 rfl ?_
            refine z_lconst (v := 0) g dL_isInOrder_403 (by decide) ?_
            refine z_lcmp g dL_isInOrder_404 ?_
            refine z_if_eq (tgt := 424) g dL_isInOrder_405 (by decide) (fun _ => ?_) (fun h => absurd h (by decide))
            refine z_lload g dL_isInOrder_424 rfl ?_
            refine z_lconst (v := 1) g dL_isInOrder_426 (by decide) ?_
            refine z_lcmp g dL_isInOrder_427 ?_
            refine z_if_eq (tgt := 440) g dL_isInOrder_428 (by decide) (fun h => absurd h (by decide)) (fun _ => ?_)
            refine z_lload g dL_isInOrder_431 rfl ?_
            refine z_ldc2 g dL_isInOrder_433 kc_L_164 ?_
            refine z_lcmp g dL_isInOrder_436 ?_
            refine z_if_ne (tgt := 457) g dL_isInOrder_437 (by decide) (fun _ => ?_) (fun h => absurd h (by decide))
            refine z_iconst (v := 1) g dL_isInOrder_457 (by decide) ?_
            refine z_goto (tgt := 462) g dL_isInOrder_458 (by decide) ?_
            refine z_istore_n g dL_isInOrder_462 (by rw [hN]; decide) ?_
            refine z_iinc1 g dL_isInOrder_463 rfl (by rw [hN]; decide) ?_
            refine z_goto (tgt := 303) g dL_isInOrder_466 (by decide) ?_
            rw [nI_s]
            exact z_to (z_wid (by omega) (by omega) (ih (u - 1) (by omega) (p + 1) _ (by omega) hT)) ⟨rfl, rfl, rfl, rfl, trivial⟩
          have on2 := on.2
          rw [← (hJ.2.2.2 p hp).1] at hp5
          rcases (show ca S 41 p = 1 ∨ ca S 41 p = 2 ∨ ca S 41 p = 3 by omega) with zz | zz | zz
          · rw [zz, show lN 1 = (1 : Int64) from rfl]
            refine z_aload_n g dL_isInOrder_336 rfl ?_
            refine z_iload g dL_isInOrder_337 rfl ?_
            refine z_iconst (v := 4) g dL_isInOrder_339 (by decide) ?_
            have hc_340 : cPetOf S (nI p) 4 = 0 := c_petOf0 (w := 4) hV hp (by decide)
            obtain ⟨-, B_340, hB_340⟩ := id hT
            refine z_callV g _ _ cv_L_127 (k_petOf _ _ hB_340 hV (nI p) 4) hT.k (by decide) rfl (by rw [hR]; decide) (by rw [hR]; show _ ≤ 4160; omega) (by rw [hR]; show _ ≤ 130000; omega) (Nat.le_of_ble_eq_true rfl) rfl dL_isInOrder_340 (fun E9 M9 h9 => by obtain ⟨-, h9⟩ := h9; rcases h9 with h9 | h9 <;> (have e9 := h9.1; rw [hc_340] at e9; exact absurd e9 (by decide))) (fun r_340 M_340 h_340 => ?_)
            obtain ⟨-, rfl, hg_340, hB_340⟩ := h_340
            replace hT := hT.n hg_340 (un0 hB_340)
            clear hB_340 hg_340
            rw [show vPetOf S (nI p) 4 = gA S 45 p from by rw [show (4 : Int32) = nI 4 from rfl, vPt_4, nI_clamp (show p < 2 ^ 31 by omega)]]
            rw [on.1]
            refine z_istore g dL_isInOrder_343 (by rw [hN]; decide) ?_
            refine z_aload_n g dL_isInOrder_345 rfl ?_
            refine z_iload g dL_isInOrder_346 rfl ?_
            refine z_iconst (v := 1) g dL_isInOrder_348 (by decide) ?_
            have hc_349 : cPetOf S (nI p) 1 = 0 := c_petOf0 (w := 1) hV hp (by decide)
            obtain ⟨-, B_349, hB_349⟩ := id hT
            refine z_callV g _ _ cv_L_127 (k_petOf _ _ hB_349 hV (nI p) 1) hT.k (by decide) rfl (by rw [hR]; decide) (by rw [hR]; show _ ≤ 4160; omega) (by rw [hR]; show _ ≤ 130000; omega) (Nat.le_of_ble_eq_true rfl) rfl dL_isInOrder_349 (fun E9 M9 h9 => by obtain ⟨-, h9⟩ := h9; rcases h9 with h9 | h9 <;> (have e9 := h9.1; rw [hc_349] at e9; exact absurd e9 (by decide))) (fun r_349 M_349 h_349 => ?_)
            obtain ⟨-, rfl, hg_349, hB_349⟩ := h_349
            replace hT := hT.n hg_349 (un0 hB_349)
            clear hB_349 hg_349
            rw [show vPetOf S (nI p) 1 = nI (pop (ca S 42 p)) from by rw [show (1 : Int32) = nI 1 from rfl, vPt_1, nI_clamp (show p < 2 ^ 31 by omega)]]
            refine z_aload_n g dL_isInOrder_352 rfl ?_
            refine z_iload g dL_isInOrder_353 rfl ?_
            refine z_iconst (v := 2) g dL_isInOrder_355 (by decide) ?_
            have hc_356 : cPetOf S (nI p) 2 = 0 := c_petOf0 (w := 2) hV hp (by decide)
            obtain ⟨-, B_356, hB_356⟩ := id hT
            refine z_callV g _ _ cv_L_127 (k_petOf _ _ hB_356 hV (nI p) 2) hT.k (by decide) rfl (by rw [hR]; decide) (by rw [hR]; show _ ≤ 4160; omega) (by rw [hR]; show _ ≤ 130000; omega) (Nat.le_of_ble_eq_true rfl) rfl dL_isInOrder_356 (fun E9 M9 h9 => by obtain ⟨-, h9⟩ := h9; rcases h9 with h9 | h9 <;> (have e9 := h9.1; rw [hc_356] at e9; exact absurd e9 (by decide))) (fun r_356 M_356 h_356 => ?_)
            obtain ⟨-, rfl, hg_356, hB_356⟩ := h_356
            replace hT := hT.n hg_356 (un0 hB_356)
            clear hB_356 hg_356
            rw [show vPetOf S (nI p) 2 = nI (pop (ca S 43 p)) from by rw [show (2 : Int32) = nI 2 from rfl, vPt_2, nI_clamp (show p < 2 ^ 31 by omega)]]
            refine z_iadd g dL_isInOrder_359 ?_
            rw [nI_add]
            refine z_istore g dL_isInOrder_360 (by rw [hN]; decide) ?_
            refine z_iload g dL_isInOrder_362 rfl ?_
            refine z_bipush (v := 9) g dL_isInOrder_364 (by decide) ?_
            refine z_icmp_gt (tgt := 461) g dL_isInOrder_366 (by decide) (fun h => by rw [show (9 : Int32) = nI 9 from rfl, nI_ltI (by decide) (by omega)] at h; omega) (fun _ => ?_)
            refine z_lload g dL_isInOrder_369 rfl ?_
            refine z_lconst (v := 0) g dL_isInOrder_371 (by decide) ?_
            refine z_lcmp g dL_isInOrder_372 ?_
            refine z_if_ne (tgt := 380) g dL_isInOrder_373 (by decide) (fun _ => ?_) (fun h => absurd h (by decide))
            refine z_iconst (v := 0) g dL_isInOrder_380 (by decide) ?_
            refine z_iload g dL_isInOrder_381 rfl ?_
            refine z_iconst (v := (-1)) g dL_isInOrder_383 (by decide) ?_
            refine z_icmp_ne (tgt := 391) g dL_isInOrder_384 (by decide) (fun _ => ?_) (fun h => absurd h (nI_nm1 (by omega)))
            refine z_iconst (v := 0) g dL_isInOrder_391 (by decide) ?_
            refine z_icmp_ne (tgt := 461) g dL_isInOrder_392 (by decide) (fun h => absurd rfl h) (fun _ => ?_)
            refine z_iload g dL_isInOrder_395 rfl ?_
            refine z_iload_n g dL_isInOrder_397 rfl ?_
            refine z_icmp_gt (tgt := 461) g dL_isInOrder_398 (by decide) (fun h => by rw [nI_ltI (by omega) (by omega)] at h; omega) (fun _ => ?_)
            refine z_lload g dL_isInOrder_401 rfl ?_
            refine z_lconst (v := 0) g dL_isInOrder_403 (by decide) ?_
            refine z_lcmp g dL_isInOrder_404 ?_
            refine z_if_eq (tgt := 424) g dL_isInOrder_405 (by decide) (fun h => absurd h (by decide)) (fun _ => ?_)
            refine z_iload g dL_isInOrder_408 rfl ?_
            refine z_iconst (v := 5) g dL_isInOrder_410 (by decide) ?_
            refine z_icmp_lt (tgt := 461) g dL_isInOrder_411 (by decide) (fun h => by rw [show (5 : Int32) = nI 5 from rfl, nI_ltI (by omega) (by decide)] at h; omega) (fun _ => ?_)
            refine z_aload_n g dL_isInOrder_414 rfl ?_
            refine z_iload g dL_isInOrder_415 rfl ?_
            refine z_iconst (v := 3) g dL_isInOrder_417 (by decide) ?_
            have hc_418 : cPetOf S (nI p) 3 = 0 := c_petOf0 (w := 3) hV hp (by decide)
            obtain ⟨-, B_418, hB_418⟩ := id hT
            refine z_callV g _ _ cv_L_127 (k_petOf _ _ hB_418 hV (nI p) 3) hT.k (by decide) rfl (by rw [hR]; decide) (by rw [hR]; show _ ≤ 4160; omega) (by rw [hR]; show _ ≤ 130000; omega) (Nat.le_of_ble_eq_true rfl) rfl dL_isInOrder_418 (fun E9 M9 h9 => by obtain ⟨-, h9⟩ := h9; rcases h9 with h9 | h9 <;> (have e9 := h9.1; rw [hc_418] at e9; exact absurd e9 (by decide))) (fun r_418 M_418 h_418 => ?_)
            obtain ⟨-, rfl, hg_418, hB_418⟩ := h_418
            replace hT := hT.n hg_418 (un0 hB_418)
            clear hB_418 hg_418
            rw [show vPetOf S (nI p) 3 = nI (pop (ca S 44 p)) from by rw [show (3 : Int32) = nI 3 from rfl, vPt_3, nI_clamp (show p < 2 ^ 31 by omega)]]
            rw [z44, show nI (pop 0) = 0 from by decide]
            refine z_if_ne (tgt := 461) g dL_isInOrder_421 (by decide) (fun h => absurd rfl h) (fun _ => ?_)
            refine z_lload g dL_isInOrder_424 rfl ?_
            refine z_lconst (v := 1) g dL_isInOrder_426 (by decide) ?_
            refine z_lcmp g dL_isInOrder_427 ?_
            refine z_if_eq (tgt := 440) g dL_isInOrder_428 (by decide) (fun _ => ?_) (fun h => absurd h (by decide))
            refine z_aload_n g dL_isInOrder_440 rfl ?_
            refine z_iload g dL_isInOrder_441 rfl ?_
            refine z_iconst (v := 1) g dL_isInOrder_443 (by decide) ?_
            have hc_444 : cPetOf S (nI p) 1 = 0 := c_petOf0 (w := 1) hV hp (by decide)
            obtain ⟨-, B_444, hB_444⟩ := id hT
            refine z_callV g _ _ cv_L_127 (k_petOf _ _ hB_444 hV (nI p) 1) hT.k (by decide) rfl (by rw [hR]; decide) (by rw [hR]; show _ ≤ 4160; omega) (by rw [hR]; show _ ≤ 130000; omega) (Nat.le_of_ble_eq_true rfl) rfl dL_isInOrder_444 (fun E9 M9 h9 => by obtain ⟨-, h9⟩ := h9; rcases h9 with h9 | h9 <;> (have e9 := h9.1; rw [hc_444] at e9; exact absurd e9 (by decide))) (fun r_444 M_444 h_444 => ?_)
            obtain ⟨-, rfl, hg_444, hB_444⟩ := h_444
            replace hT := hT.n hg_444 (un0 hB_444)
            clear hB_444 hg_444
            rw [show vPetOf S (nI p) 1 = nI (pop (ca S 42 p)) from by rw [show (1 : Int32) = nI 1 from rfl, vPt_1, nI_clamp (show p < 2 ^ 31 by omega)]]
            refine z_aload_n g dL_isInOrder_447 rfl ?_
            refine z_iload g dL_isInOrder_448 rfl ?_
            refine z_iconst (v := 2) g dL_isInOrder_450 (by decide) ?_
            have hc_451 : cPetOf S (nI p) 2 = 0 := c_petOf0 (w := 2) hV hp (by decide)
            obtain ⟨-, B_451, hB_451⟩ := id hT
            refine z_callV g _ _ cv_L_127 (k_petOf _ _ hB_451 hV (nI p) 2) hT.k (by decide) rfl (by rw [hR]; decide) (by rw [hR]; show _ ≤ 4160; omega) (by rw [hR]; show _ ≤ 130000; omega) (Nat.le_of_ble_eq_true rfl) rfl dL_isInOrder_451 (fun E9 M9 h9 => by obtain ⟨-, h9⟩ := h9; rcases h9 with h9 | h9 <;> (have e9 := h9.1; rw [hc_451] at e9; exact absurd e9 (by decide))) (fun r_451 M_451 h_451 => ?_)
            obtain ⟨-, rfl, hg_451, hB_451⟩ := h_451
            replace hT := hT.n hg_451 (un0 hB_451)
            clear hB_451 hg_451
            rw [show vPetOf S (nI p) 2 = nI (pop (ca S 43 p)) from by rw [show (2 : Int32) = nI 2 from rfl, vPt_2, nI_clamp (show p < 2 ^ 31 by omega)]]
            refine z_icmp_le (tgt := 461) g dL_isInOrder_454 (by decide) (fun h => by rw [nI_leI (by omega) (by omega)] at h; have := hmore (by omega); omega) (fun _ => ?_)
            refine z_iconst (v := 1) g dL_isInOrder_457 (by decide) ?_
            refine z_goto (tgt := 462) g dL_isInOrder_458 (by decide) ?_
            refine z_istore_n g dL_isInOrder_462 (by rw [hN]; decide) ?_
            refine z_iinc1 g dL_isInOrder_463 rfl (by rw [hN]; decide) ?_
            refine z_goto (tgt := 303) g dL_isInOrder_466 (by decide) ?_
            rw [nI_s]
            exact z_to (z_wid (by omega) (by omega) (ih (u - 1) (by omega) (p + 1) _ (by omega) hT)) ⟨rfl, rfl, rfl, rfl, trivial⟩
          · rw [zz, show lN 2 = (2 : Int64) from rfl]
            refine z_aload_n g dL_isInOrder_336 rfl ?_
            refine z_iload g dL_isInOrder_337 rfl ?_
            refine z_iconst (v := 4) g dL_isInOrder_339 (by decide) ?_
            have hc_340 : cPetOf S (nI p) 4 = 0 := c_petOf0 (w := 4) hV hp (by decide)
            obtain ⟨-, B_340, hB_340⟩ := id hT
            refine z_callV g _ _ cv_L_127 (k_petOf _ _ hB_340 hV (nI p) 4) hT.k (by decide) rfl (by rw [hR]; decide) (by rw [hR]; show _ ≤ 4160; omega) (by rw [hR]; show _ ≤ 130000; omega) (Nat.le_of_ble_eq_true rfl) rfl dL_isInOrder_340 (fun E9 M9 h9 => by obtain ⟨-, h9⟩ := h9; rcases h9 with h9 | h9 <;> (have e9 := h9.1; rw [hc_340] at e9; exact absurd e9 (by decide))) (fun r_340 M_340 h_340 => ?_)
            obtain ⟨-, rfl, hg_340, hB_340⟩ := h_340
            replace hT := hT.n hg_340 (un0 hB_340)
            clear hB_340 hg_340
            rw [show vPetOf S (nI p) 4 = gA S 45 p from by rw [show (4 : Int32) = nI 4 from rfl, vPt_4, nI_clamp (show p < 2 ^ 31 by omega)]]
            rw [on.1]
            refine z_istore g dL_isInOrder_343 (by rw [hN]; decide) ?_
            refine z_aload_n g dL_isInOrder_345 rfl ?_
            refine z_iload g dL_isInOrder_346 rfl ?_
            refine z_iconst (v := 1) g dL_isInOrder_348 (by decide) ?_
            have hc_349 : cPetOf S (nI p) 1 = 0 := c_petOf0 (w := 1) hV hp (by decide)
            obtain ⟨-, B_349, hB_349⟩ := id hT
            refine z_callV g _ _ cv_L_127 (k_petOf _ _ hB_349 hV (nI p) 1) hT.k (by decide) rfl (by rw [hR]; decide) (by rw [hR]; show _ ≤ 4160; omega) (by rw [hR]; show _ ≤ 130000; omega) (Nat.le_of_ble_eq_true rfl) rfl dL_isInOrder_349 (fun E9 M9 h9 => by obtain ⟨-, h9⟩ := h9; rcases h9 with h9 | h9 <;> (have e9 := h9.1; rw [hc_349] at e9; exact absurd e9 (by decide))) (fun r_349 M_349 h_349 => ?_)
            obtain ⟨-, rfl, hg_349, hB_349⟩ := h_349
            replace hT := hT.n hg_349 (un0 hB_349)
            clear hB_349 hg_349
            rw [show vPetOf S (nI p) 1 = nI (pop (ca S 42 p)) from by rw [show (1 : Int32) = nI 1 from rfl, vPt_1, nI_clamp (show p < 2 ^ 31 by omega)]]
            refine z_aload_n g dL_isInOrder_352 rfl ?_
            refine z_iload g dL_isInOrder_353 rfl ?_
            refine z_iconst (v := 2) g dL_isInOrder_355 (by decide) ?_
            have hc_356 : cPetOf S (nI p) 2 = 0 := c_petOf0 (w := 2) hV hp (by decide)
            obtain ⟨-, B_356, hB_356⟩ := id hT
            refine z_callV g _ _ cv_L_127 (k_petOf _ _ hB_356 hV (nI p) 2) hT.k (by decide) rfl (by rw [hR]; decide) (by rw [hR]; show _ ≤ 4160; omega) (by rw [hR]; show _ ≤ 130000; omega) (Nat.le_of_ble_eq_true rfl) rfl dL_isInOrder_356 (fun E9 M9 h9 => by obtain ⟨-, h9⟩ := h9; rcases h9 with h9 | h9 <;> (have e9 := h9.1; rw [hc_356] at e9; exact absurd e9 (by decide))) (fun r_356 M_356 h_356 => ?_)
            obtain ⟨-, rfl, hg_356, hB_356⟩ := h_356
            replace hT := hT.n hg_356 (un0 hB_356)
            clear hB_356 hg_356
            rw [show vPetOf S (nI p) 2 = nI (pop (ca S 43 p)) from by rw [show (2 : Int32) = nI 2 from rfl, vPt_2, nI_clamp (show p < 2 ^ 31 by omega)]]
            refine z_iadd g dL_isInOrder_359 ?_
            rw [nI_add]
            refine z_istore g dL_isInOrder_360 (by rw [hN]; decide) ?_
            refine z_iload g dL_isInOrder_362 rfl ?_
            refine z_bipush (v := 9) g dL_isInOrder_364 (by decide) ?_
            refine z_icmp_gt (tgt := 461) g dL_isInOrder_366 (by decide) (fun h => by rw [show (9 : Int32) = nI 9 from rfl, nI_ltI (by decide) (by omega)] at h; omega) (fun _ => ?_)
            refine z_lload g dL_isInOrder_369 rfl ?_
            refine z_lconst (v := 0) g dL_isInOrder_371 (by decide) ?_
            refine z_lcmp g dL_isInOrder_372 ?_
            refine z_if_ne (tgt := 380) g dL_isInOrder_373 (by decide) (fun _ => ?_) (fun h => absurd h (by decide))
            refine z_iconst (v := 0) g dL_isInOrder_380 (by decide) ?_
            refine z_iload g dL_isInOrder_381 rfl ?_
            refine z_iconst (v := (-1)) g dL_isInOrder_383 (by decide) ?_
            refine z_icmp_ne (tgt := 391) g dL_isInOrder_384 (by decide) (fun _ => ?_) (fun h => absurd h (nI_nm1 (by omega)))
            refine z_iconst (v := 0) g dL_isInOrder_391 (by decide) ?_
            refine z_icmp_ne (tgt := 461) g dL_isInOrder_392 (by decide) (fun h => absurd rfl h) (fun _ => ?_)
            refine z_iload g dL_isInOrder_395 rfl ?_
            refine z_iload_n g dL_isInOrder_397 rfl ?_
            refine z_icmp_gt (tgt := 461) g dL_isInOrder_398 (by decide) (fun h => by rw [nI_ltI (by omega) (by omega)] at h; omega) (fun _ => ?_)
            refine z_lload g dL_isInOrder_401 rfl ?_
            refine z_lconst (v := 0) g dL_isInOrder_403 (by decide) ?_
            refine z_lcmp g dL_isInOrder_404 ?_
            refine z_if_eq (tgt := 424) g dL_isInOrder_405 (by decide) (fun h => absurd h (by decide)) (fun _ => ?_)
            refine z_iload g dL_isInOrder_408 rfl ?_
            refine z_iconst (v := 5) g dL_isInOrder_410 (by decide) ?_
            refine z_icmp_lt (tgt := 461) g dL_isInOrder_411 (by decide) (fun h => by rw [show (5 : Int32) = nI 5 from rfl, nI_ltI (by omega) (by decide)] at h; omega) (fun _ => ?_)
            refine z_aload_n g dL_isInOrder_414 rfl ?_
            refine z_iload g dL_isInOrder_415 rfl ?_
            refine z_iconst (v := 3) g dL_isInOrder_417 (by decide) ?_
            have hc_418 : cPetOf S (nI p) 3 = 0 := c_petOf0 (w := 3) hV hp (by decide)
            obtain ⟨-, B_418, hB_418⟩ := id hT
            refine z_callV g _ _ cv_L_127 (k_petOf _ _ hB_418 hV (nI p) 3) hT.k (by decide) rfl (by rw [hR]; decide) (by rw [hR]; show _ ≤ 4160; omega) (by rw [hR]; show _ ≤ 130000; omega) (Nat.le_of_ble_eq_true rfl) rfl dL_isInOrder_418 (fun E9 M9 h9 => by obtain ⟨-, h9⟩ := h9; rcases h9 with h9 | h9 <;> (have e9 := h9.1; rw [hc_418] at e9; exact absurd e9 (by decide))) (fun r_418 M_418 h_418 => ?_)
            obtain ⟨-, rfl, hg_418, hB_418⟩ := h_418
            replace hT := hT.n hg_418 (un0 hB_418)
            clear hB_418 hg_418
            rw [show vPetOf S (nI p) 3 = nI (pop (ca S 44 p)) from by rw [show (3 : Int32) = nI 3 from rfl, vPt_3, nI_clamp (show p < 2 ^ 31 by omega)]]
            rw [z44, show nI (pop 0) = 0 from by decide]
            refine z_if_ne (tgt := 461) g dL_isInOrder_421 (by decide) (fun h => absurd rfl h) (fun _ => ?_)
            refine z_lload g dL_isInOrder_424 rfl ?_
            refine z_lconst (v := 1) g dL_isInOrder_426 (by decide) ?_
            refine z_lcmp g dL_isInOrder_427 ?_
            refine z_if_eq (tgt := 440) g dL_isInOrder_428 (by decide) (fun h => absurd h (by decide)) (fun _ => ?_)
            refine z_lload g dL_isInOrder_431 rfl ?_
            refine z_ldc2 g dL_isInOrder_433 kc_L_164 ?_
            refine z_lcmp g dL_isInOrder_436 ?_
            refine z_if_ne (tgt := 457) g dL_isInOrder_437 (by decide) (fun _ => ?_) (fun h => absurd h (by decide))
            refine z_iconst (v := 1) g dL_isInOrder_457 (by decide) ?_
            refine z_goto (tgt := 462) g dL_isInOrder_458 (by decide) ?_
            refine z_istore_n g dL_isInOrder_462 (by rw [hN]; decide) ?_
            refine z_iinc1 g dL_isInOrder_463 rfl (by rw [hN]; decide) ?_
            refine z_goto (tgt := 303) g dL_isInOrder_466 (by decide) ?_
            rw [nI_s]
            exact z_to (z_wid (by omega) (by omega) (ih (u - 1) (by omega) (p + 1) _ (by omega) hT)) ⟨rfl, rfl, rfl, rfl, trivial⟩
          · rw [zz, show lN 3 = (3 : Int64) from rfl]
            refine z_aload_n g dL_isInOrder_336 rfl ?_
            refine z_iload g dL_isInOrder_337 rfl ?_
            refine z_iconst (v := 4) g dL_isInOrder_339 (by decide) ?_
            have hc_340 : cPetOf S (nI p) 4 = 0 := c_petOf0 (w := 4) hV hp (by decide)
            obtain ⟨-, B_340, hB_340⟩ := id hT
            refine z_callV g _ _ cv_L_127 (k_petOf _ _ hB_340 hV (nI p) 4) hT.k (by decide) rfl (by rw [hR]; decide) (by rw [hR]; show _ ≤ 4160; omega) (by rw [hR]; show _ ≤ 130000; omega) (Nat.le_of_ble_eq_true rfl) rfl dL_isInOrder_340 (fun E9 M9 h9 => by obtain ⟨-, h9⟩ := h9; rcases h9 with h9 | h9 <;> (have e9 := h9.1; rw [hc_340] at e9; exact absurd e9 (by decide))) (fun r_340 M_340 h_340 => ?_)
            obtain ⟨-, rfl, hg_340, hB_340⟩ := h_340
            replace hT := hT.n hg_340 (un0 hB_340)
            clear hB_340 hg_340
            rw [show vPetOf S (nI p) 4 = gA S 45 p from by rw [show (4 : Int32) = nI 4 from rfl, vPt_4, nI_clamp (show p < 2 ^ 31 by omega)]]
            rw [on.1]
            refine z_istore g dL_isInOrder_343 (by rw [hN]; decide) ?_
            refine z_aload_n g dL_isInOrder_345 rfl ?_
            refine z_iload g dL_isInOrder_346 rfl ?_
            refine z_iconst (v := 1) g dL_isInOrder_348 (by decide) ?_
            have hc_349 : cPetOf S (nI p) 1 = 0 := c_petOf0 (w := 1) hV hp (by decide)
            obtain ⟨-, B_349, hB_349⟩ := id hT
            refine z_callV g _ _ cv_L_127 (k_petOf _ _ hB_349 hV (nI p) 1) hT.k (by decide) rfl (by rw [hR]; decide) (by rw [hR]; show _ ≤ 4160; omega) (by rw [hR]; show _ ≤ 130000; omega) (Nat.le_of_ble_eq_true rfl) rfl dL_isInOrder_349 (fun E9 M9 h9 => by obtain ⟨-, h9⟩ := h9; rcases h9 with h9 | h9 <;> (have e9 := h9.1; rw [hc_349] at e9; exact absurd e9 (by decide))) (fun r_349 M_349 h_349 => ?_)
            obtain ⟨-, rfl, hg_349, hB_349⟩ := h_349
            replace hT := hT.n hg_349 (un0 hB_349)
            clear hB_349 hg_349
            rw [show vPetOf S (nI p) 1 = nI (pop (ca S 42 p)) from by rw [show (1 : Int32) = nI 1 from rfl, vPt_1, nI_clamp (show p < 2 ^ 31 by omega)]]
            refine z_aload_n g dL_isInOrder_352 rfl ?_
            refine z_iload g dL_isInOrder_353 rfl ?_
            refine z_iconst (v := 2) g dL_isInOrder_355 (by decide) ?_
            have hc_356 : cPetOf S (nI p) 2 = 0 := c_petOf0 (w := 2) hV hp (by decide)
            obtain ⟨-, B_356, hB_356⟩ := id hT
            refine z_callV g _ _ cv_L_127 (k_petOf _ _ hB_356 hV (nI p) 2) hT.k (by decide) rfl (by rw [hR]; decide) (by rw [hR]; show _ ≤ 4160; omega) (by rw [hR]; show _ ≤ 130000; omega) (Nat.le_of_ble_eq_true rfl) rfl dL_isInOrder_356 (fun E9 M9 h9 => by obtain ⟨-, h9⟩ := h9; rcases h9 with h9 | h9 <;> (have e9 := h9.1; rw [hc_356] at e9; exact absurd e9 (by decide))) (fun r_356 M_356 h_356 => ?_)
            obtain ⟨-, rfl, hg_356, hB_356⟩ := h_356
            replace hT := hT.n hg_356 (un0 hB_356)
            clear hB_356 hg_356
            rw [show vPetOf S (nI p) 2 = nI (pop (ca S 43 p)) from by rw [show (2 : Int32) = nI 2 from rfl, vPt_2, nI_clamp (show p < 2 ^ 31 by omega)]]
            refine z_iadd g dL_isInOrder_359 ?_
            rw [nI_add]
            refine z_istore g dL_isInOrder_360 (by rw [hN]; decide) ?_
            refine z_iload g dL_isInOrder_362 rfl ?_
            refine z_bipush (v := 9) g dL_isInOrder_364 (by decide) ?_
            refine z_icmp_gt (tgt := 461) g dL_isInOrder_366 (by decide) (fun h => by rw [show (9 : Int32) = nI 9 from rfl, nI_ltI (by decide) (by omega)] at h; omega) (fun _ => ?_)
            refine z_lload g dL_isInOrder_369 rfl ?_
            refine z_lconst (v := 0) g dL_isInOrder_371 (by decide) ?_
            refine z_lcmp g dL_isInOrder_372 ?_
            refine z_if_ne (tgt := 380) g dL_isInOrder_373 (by decide) (fun _ => ?_) (fun h => absurd h (by decide))
            refine z_iconst (v := 0) g dL_isInOrder_380 (by decide) ?_
            refine z_iload g dL_isInOrder_381 rfl ?_
            refine z_iconst (v := (-1)) g dL_isInOrder_383 (by decide) ?_
            refine z_icmp_ne (tgt := 391) g dL_isInOrder_384 (by decide) (fun _ => ?_) (fun h => absurd h (nI_nm1 (by omega)))
            refine z_iconst (v := 0) g dL_isInOrder_391 (by decide) ?_
            refine z_icmp_ne (tgt := 461) g dL_isInOrder_392 (by decide) (fun h => absurd rfl h) (fun _ => ?_)
            refine z_iload g dL_isInOrder_395 rfl ?_
            refine z_iload_n g dL_isInOrder_397 rfl ?_
            refine z_icmp_gt (tgt := 461) g dL_isInOrder_398 (by decide) (fun h => by rw [nI_ltI (by omega) (by omega)] at h; omega) (fun _ => ?_)
            refine z_lload g dL_isInOrder_401 rfl ?_
            refine z_lconst (v := 0) g dL_isInOrder_403 (by decide) ?_
            refine z_lcmp g dL_isInOrder_404 ?_
            refine z_if_eq (tgt := 424) g dL_isInOrder_405 (by decide) (fun h => absurd h (by decide)) (fun _ => ?_)
            refine z_iload g dL_isInOrder_408 rfl ?_
            refine z_iconst (v := 5) g dL_isInOrder_410 (by decide) ?_
            refine z_icmp_lt (tgt := 461) g dL_isInOrder_411 (by decide) (fun h => by rw [show (5 : Int32) = nI 5 from rfl, nI_ltI (by omega) (by decide)] at h; omega) (fun _ => ?_)
            refine z_aload_n g dL_isInOrder_414 rfl ?_
            refine z_iload g dL_isInOrder_415 rfl ?_
            refine z_iconst (v := 3) g dL_isInOrder_417 (by decide) ?_
            have hc_418 : cPetOf S (nI p) 3 = 0 := c_petOf0 (w := 3) hV hp (by decide)
            obtain ⟨-, B_418, hB_418⟩ := id hT
            refine z_callV g _ _ cv_L_127 (k_petOf _ _ hB_418 hV (nI p) 3) hT.k (by decide) rfl (by rw [hR]; decide) (by rw [hR]; show _ ≤ 4160; omega) (by rw [hR]; show _ ≤ 130000; omega) (Nat.le_of_ble_eq_true rfl) rfl dL_isInOrder_418 (fun E9 M9 h9 => by obtain ⟨-, h9⟩ := h9; rcases h9 with h9 | h9 <;> (have e9 := h9.1; rw [hc_418] at e9; exact absurd e9 (by decide))) (fun r_418 M_418 h_418 => ?_)
            obtain ⟨-, rfl, hg_418, hB_418⟩ := h_418
            replace hT := hT.n hg_418 (un0 hB_418)
            clear hB_418 hg_418
            rw [show vPetOf S (nI p) 3 = nI (pop (ca S 44 p)) from by rw [show (3 : Int32) = nI 3 from rfl, vPt_3, nI_clamp (show p < 2 ^ 31 by omega)]]
            rw [z44, show nI (pop 0) = 0 from by decide]
            refine z_if_ne (tgt := 461) g dL_isInOrder_421 (by decide) (fun h => absurd rfl h) (fun _ => ?_)
            refine z_lload g dL_isInOrder_424 rfl ?_
            refine z_lconst (v := 1) g dL_isInOrder_426 (by decide) ?_
            refine z_lcmp g dL_isInOrder_427 ?_
            refine z_if_eq (tgt := 440) g dL_isInOrder_428 (by decide) (fun h => absurd h (by decide)) (fun _ => ?_)
            refine z_lload g dL_isInOrder_431 rfl ?_
            refine z_ldc2 g dL_isInOrder_433 kc_L_164 ?_
            refine z_lcmp g dL_isInOrder_436 ?_
            refine z_if_ne (tgt := 457) g dL_isInOrder_437 (by decide) (fun h => absurd h (by decide)) (fun _ => ?_)
            refine z_aload_n g dL_isInOrder_440 rfl ?_
            refine z_iload g dL_isInOrder_441 rfl ?_
            refine z_iconst (v := 1) g dL_isInOrder_443 (by decide) ?_
            have hc_444 : cPetOf S (nI p) 1 = 0 := c_petOf0 (w := 1) hV hp (by decide)
            obtain ⟨-, B_444, hB_444⟩ := id hT
            refine z_callV g _ _ cv_L_127 (k_petOf _ _ hB_444 hV (nI p) 1) hT.k (by decide) rfl (by rw [hR]; decide) (by rw [hR]; show _ ≤ 4160; omega) (by rw [hR]; show _ ≤ 130000; omega) (Nat.le_of_ble_eq_true rfl) rfl dL_isInOrder_444 (fun E9 M9 h9 => by obtain ⟨-, h9⟩ := h9; rcases h9 with h9 | h9 <;> (have e9 := h9.1; rw [hc_444] at e9; exact absurd e9 (by decide))) (fun r_444 M_444 h_444 => ?_)
            obtain ⟨-, rfl, hg_444, hB_444⟩ := h_444
            replace hT := hT.n hg_444 (un0 hB_444)
            clear hB_444 hg_444
            rw [show vPetOf S (nI p) 1 = nI (pop (ca S 42 p)) from by rw [show (1 : Int32) = nI 1 from rfl, vPt_1, nI_clamp (show p < 2 ^ 31 by omega)]]
            refine z_aload_n g dL_isInOrder_447 rfl ?_
            refine z_iload g dL_isInOrder_448 rfl ?_
            refine z_iconst (v := 2) g dL_isInOrder_450 (by decide) ?_
            have hc_451 : cPetOf S (nI p) 2 = 0 := c_petOf0 (w := 2) hV hp (by decide)
            obtain ⟨-, B_451, hB_451⟩ := id hT
            refine z_callV g _ _ cv_L_127 (k_petOf _ _ hB_451 hV (nI p) 2) hT.k (by decide) rfl (by rw [hR]; decide) (by rw [hR]; show _ ≤ 4160; omega) (by rw [hR]; show _ ≤ 130000; omega) (Nat.le_of_ble_eq_true rfl) rfl dL_isInOrder_451 (fun E9 M9 h9 => by obtain ⟨-, h9⟩ := h9; rcases h9 with h9 | h9 <;> (have e9 := h9.1; rw [hc_451] at e9; exact absurd e9 (by decide))) (fun r_451 M_451 h_451 => ?_)
            obtain ⟨-, rfl, hg_451, hB_451⟩ := h_451
            replace hT := hT.n hg_451 (un0 hB_451)
            clear hB_451 hg_451
            rw [show vPetOf S (nI p) 2 = nI (pop (ca S 43 p)) from by rw [show (2 : Int32) = nI 2 from rfl, vPt_2, nI_clamp (show p < 2 ^ 31 by omega)]]
            refine z_icmp_le (tgt := 461) g dL_isInOrder_454 (by decide) (fun h => by rw [nI_leI (by omega) (by omega)] at h; have := hmore (by omega); omega) (fun _ => ?_)
            refine z_iconst (v := 1) g dL_isInOrder_457 (by decide) ?_
            refine z_goto (tgt := 462) g dL_isInOrder_458 (by decide) ?_
            refine z_istore_n g dL_isInOrder_462 (by rw [hN]; decide) ?_
            refine z_iinc1 g dL_isInOrder_463 rfl (by rw [hN]; decide) ?_
            refine z_goto (tgt := 303) g dL_isInOrder_466 (by decide) ?_
            rw [nI_s]
            exact z_to (z_wid (by omega) (by omega) (ih (u - 1) (by omega) (p + 1) _ (by omega) hT)) ⟨rfl, rfl, rfl, rfl, trivial⟩
  have outer : ∀ (m k : Nat) (M : Mm) (hm : m + k = 8) (hT : OT x S M0 M), Z X M (288 * k) (9000 * k) 5 [(0, .ref x), (1, .int (nI n)), (2, .int v), (3, .int 1), (4, .int (nI k))] [] := by
    intro m
    induction m using Nat.strongRecOn with
    | _ m ih =>
      intro k M hm hT
      refine z_iload g dL_isInOrder_5 rfl ?_
      refine z_bipush (v := 8) g dL_isInOrder_7 (by decide) ?_
      refine z_icmp_ge (tgt := 300) g dL_isInOrder_9 (by decide) (fun c_9 => ?_) (fun c_9 => ?_)
      · have c_9b := c_9
        rw [show (8 : Int32) = nI 8 from rfl, nI_leI (by omega) (by omega)] at c_9b
        refine z_iconst (v := 0) g dL_isInOrder_300 (by decide) ?_
        refine z_istore g dL_isInOrder_301 (by rw [hN]; decide) ?_
        exact z_to (z_wid (by omega) (by omega) (pets 16 0 _ rfl hT)) ⟨rfl, rfl, rfl, rfl, trivial⟩
      · rw [show (8 : Int32) = nI 8 from rfl, nI_leI (by omega) (by omega)] at c_9
        have nx : ∀ (M : Mm) (hT : OT x S M0 M), Z X M (288 * (k + 1)) (9000 * (k + 1)) 294 [(0, .ref x), (1, .int (nI n)), (2, .int v), (3, .int 1), (4, .int (nI k))] [] := by
          intro M hT
          refine z_iinc1 g dL_isInOrder_294 rfl (by rw [hN]; decide) ?_
          refine z_goto (tgt := 5) g dL_isInOrder_297 (by decide) ?_
          rw [nI_s]
          exact z_to (z_wid (by omega) (by omega) (ih (m - 1) (by omega) (k + 1) _ (by omega) hT)) ⟨rfl, rfl, rfl, rfl, rfl, trivial⟩
        refine z_iload_n g dL_isInOrder_12 rfl ?_
        refine z_if_eq (tgt := 300) g dL_isInOrder_13 (by decide) (fun h => absurd h (by decide)) (fun _ => ?_)
        refine z_iload_n g dL_isInOrder_16 rfl ?_
        refine z_iload g dL_isInOrder_17 rfl ?_
        refine z_ishr g dL_isInOrder_19 ?_
        refine z_iload_n g dL_isInOrder_20 rfl ?_
        refine z_bipush (v := 60) g dL_isInOrder_21 (by decide) ?_
        refine z_iadd g dL_isInOrder_23 ?_
        rw [show nI n + 60 = nI (n + 60) from nI_add n 60]
        refine z_callS g _ _ cs_L_140 (c_low _ _ _ _ (nI_ne0 (by omega) (by omega))) rfl (by rw [hR]; decide) (by rw [hR]; show _ ≤ 4160; omega) (by rw [hR]; show _ ≤ 130000; omega) (Nat.le_of_ble_eq_true rfl) rfl dL_isInOrder_24 (fun _ _ h => False.elim h) (fun r_24 M_24 h_24 => ?_)
        obtain ⟨rfl, rfl⟩ := h_24
        obtain ⟨dd, hdd, e_24⟩ := low_ex (v >>> (nI k &&& 31)) (n := n + 60) (by omega) (by omega)
        rw [e_24]
        refine z_istore g dL_isInOrder_27 (by rw [hN]; decide) ?_
        refine z_iload_n g dL_isInOrder_29 rfl ?_
        refine z_iload g dL_isInOrder_30 rfl ?_
        refine z_iconst (v := 3) g dL_isInOrder_32 (by decide) ?_
        refine z_iadd g dL_isInOrder_33 ?_
        refine z_ishr g dL_isInOrder_34 ?_
        refine z_iload_n g dL_isInOrder_35 rfl ?_
        refine z_iconst (v := 1) g dL_isInOrder_36 (by decide) ?_
        refine z_iadd g dL_isInOrder_37 ?_
        rw [show nI n + 1 = nI (n + 1) from nI_add n 1]
        refine z_callS g _ _ cs_L_140 (c_low _ _ _ _ (nI_ne0 (by omega) (by omega))) rfl (by rw [hR]; decide) (by rw [hR]; show _ ≤ 4160; omega) (by rw [hR]; show _ ≤ 130000; omega) (Nat.le_of_ble_eq_true rfl) rfl dL_isInOrder_38 (fun _ _ h => False.elim h) (fun r_38 M_38 h_38 => ?_)
        obtain ⟨rfl, rfl⟩ := h_38
        obtain ⟨kk, hkk, e_38⟩ := low_ex (v >>> ((nI k + 3) &&& 31)) (n := n + 1) (by omega) (by omega)
        rw [e_38]
        refine z_istore g dL_isInOrder_41 (by rw [hN]; decide) ?_
        refine z_aload_n g dL_isInOrder_43 rfl ?_
        refine z_bipush (v := 30) g dL_isInOrder_44 (by decide) ?_
        refine z_iload g dL_isInOrder_46 rfl ?_
        refine z_iconst (v := 0) g dL_isInOrder_48 (by decide) ?_
        refine z_iconst (v := 0) g dL_isInOrder_49 (by decide) ?_
        refine z_lconst (v := 0) g dL_isInOrder_50 (by decide) ?_
        obtain ⟨-, B_51, hB_51⟩ := id hT
        refine z_callSH g _ _ csh_L_does (e_sign _ _ hB_51 hV _ _ _ _) rfl (by rw [hR]; decide) (by rw [hR]; show _ ≤ 4160; omega) (by rw [hR]; show _ ≤ 130000; omega) (Nat.le_of_ble_eq_true rfl) rfl dL_isInOrder_51 (fun _ _ h => False.elim h) (fun r_51 M_51 h_51 => ?_)
        obtain ⟨rfl, hg_51, hB_51⟩ := h_51
        rw [g_sign_S] at hB_51
        replace hT := hT.n hg_51 hB_51
        clear hB_51 hg_51
        refine z_ldc2 g dL_isInOrder_54 kc_L_68 ?_
        refine z_lcmp g dL_isInOrder_57 ?_
        refine z_if_eq (tgt := 294) g dL_isInOrder_58 (by decide) (fun c_58 => ?_) (fun c_58 => ?_)
        · exact z_to (z_wid (by omega) (by omega) (nx _ hT)) ⟨rfl, rfl, rfl, rfl, rfl, trivial⟩
        · have hj : k < cn S 2 := sm_sign hV (by omega) (fun z => c_58 ((lg_cmp_eq _ _).mpr z))
          refine z_aload_n g dL_isInOrder_61 rfl ?_
          refine z_iload g dL_isInOrder_62 rfl ?_
          refine z_iload_n g dL_isInOrder_64 rfl ?_
          refine z_iconst (v := 1) g dL_isInOrder_65 (by decide) ?_
          refine z_iand g dL_isInOrder_66 ?_
          obtain ⟨tt, htt, e_66⟩ := pk_andE v (m := 1) 1 (by decide)
          rw [e_66]
          refine z_iload g dL_isInOrder_67 rfl ?_
          refine z_iload g dL_isInOrder_69 rfl ?_
          have hc_71 : cForm S (nI k) (nI tt) (nI dd) (nI kk) = 0 := c_form0 hV hj (by omega) (by omega) (by omega)
          obtain ⟨-, B_71, hB_71⟩ := id hT
          refine z_callV g _ _ cv_L_106 (k_callForm _ _ hB_71 hV (nI k) (nI tt) (nI dd) (nI kk)) hT.k (by decide) rfl (by rw [hR]; decide) (by rw [hR]; show _ ≤ 4160; omega) (by rw [hR]; show _ ≤ 130000; omega) (Nat.le_of_ble_eq_true rfl) rfl dL_isInOrder_71 (fun E9 M9 h9 => by obtain ⟨-, h9⟩ := h9; rcases h9 with h9 | h9 <;> (have e9 := h9.1; rw [hc_71] at e9; exact absurd e9 (by decide))) (fun r_71 M_71 h_71 => ?_)
          obtain ⟨-, rfl, hg_71, hB_71⟩ := h_71
          replace hT := hT.n hg_71 (un0 hB_71)
          clear hB_71 hg_71
          refine z_lstore g dL_isInOrder_74 (by rw [hN]; decide) ?_
          refine z_aload_n g dL_isInOrder_76 rfl ?_
          refine z_iload g dL_isInOrder_77 rfl ?_
          refine z_iload_n g dL_isInOrder_79 rfl ?_
          have hc_80 : cShown S (nI k) (nI n) = 0 := c_shown0 hV hj (by omega)
          obtain ⟨-, B_80, hB_80⟩ := id hT
          refine z_callV g _ _ cv_L_133 (k_shown _ _ hB_80 hV (nI k) (nI n)) hT.k (by decide) rfl (by rw [hR]; decide) (by rw [hR]; show _ ≤ 4160; omega) (by rw [hR]; show _ ≤ 130000; omega) (Nat.le_of_ble_eq_true rfl) rfl dL_isInOrder_80 (fun E9 M9 h9 => by obtain ⟨-, h9⟩ := h9; rcases h9 with h9 | h9 <;> (have e9 := h9.1; rw [hc_80] at e9; exact absurd e9 (by decide))) (fun r_80 M_80 h_80 => ?_)
          obtain ⟨-, rfl, hg_80, hB_80⟩ := h_80
          replace hT := hT.n hg_80 (un0 hB_80)
          clear hB_80 hg_80
          obtain ⟨xm, hxm, exm, hx1, hx2⟩ := sm_shown hV hj (nI n)
          rw [exm]
          rw [hn] at hx1 hx2
          refine z_istore g dL_isInOrder_83 (by rw [hN]; decide) ?_
          refine z_lload g dL_isInOrder_85 rfl ?_
          refine z_callS g _ _ cs_L_160 (c_LisW _ _ _ (formA_w hV.OkF _ _ _ _)) rfl (by rw [hR]; decide) (by rw [hR]; show _ ≤ 4160; omega) (by rw [hR]; show _ ≤ 130000; omega) (Nat.le_of_ble_eq_true rfl) rfl dL_isInOrder_87 (fun _ _ h => False.elim h) (fun r_87 M_87 h_87 => ?_)
          obtain ⟨rfl, rfl⟩ := h_87
          refine z_if_eq (tgt := 193) g dL_isInOrder_90 (by decide) (fun h => absurd h (by decide)) (fun _ => ?_)
          refine z_aload_n g dL_isInOrder_93 rfl ?_
          refine z_iload g dL_isInOrder_94 rfl ?_
          have hc_96 : cSign S (nI k) = 0 := c_sign0 hV hj
          obtain ⟨-, B_96, hB_96⟩ := id hT
          refine z_callV g _ _ cv_L_59 (k_sign _ _ hB_96 hV (nI k)) hT.k (by decide) rfl (by rw [hR]; decide) (by rw [hR]; show _ ≤ 4160; omega) (by rw [hR]; show _ ≤ 130000; omega) (Nat.le_of_ble_eq_true rfl) rfl dL_isInOrder_96 (fun E9 M9 h9 => by obtain ⟨-, h9⟩ := h9; have e9 := h9.1; rw [hc_96] at e9; exact absurd e9 (by decide)) (fun r_96 M_96 h_96 => ?_)
          obtain ⟨-, rfl, hg_96, hB_96⟩ := h_96
          replace hT := hT.n hg_96 (un0 hB_96)
          clear hB_96 hg_96
          refine z_callS g _ _ cs_L_160 (c_LisW _ _ _ (by show JW (gL S 56 (nI k).toNatClampNeg); rw [nI_clamp (show k < 2 ^ 31 by omega)]; exact hJ.1 k hj)) rfl (by rw [hR]; decide) (by rw [hR]; show _ ≤ 4160; omega) (by rw [hR]; show _ ≤ 130000; omega) (Nat.le_of_ble_eq_true rfl) rfl dL_isInOrder_99 (fun _ _ h => False.elim h) (fun r_99 M_99 h_99 => ?_)
          obtain ⟨rfl, rfl⟩ := h_99
          refine z_if_eq (tgt := 193) g dL_isInOrder_102 (by decide) (fun h => absurd h (by decide)) (fun _ => ?_)
          refine z_aload_n g dL_isInOrder_105 rfl ?_
          refine z_iload g dL_isInOrder_106 rfl ?_
          refine z_iconst (v := 0) g dL_isInOrder_108 (by decide) ?_
          refine z_iload g dL_isInOrder_109 rfl ?_
          refine z_iload g dL_isInOrder_111 rfl ?_
          have hc_113 : cOf S (nI k) 0 (nI dd) (nI kk) = 0 := c_of0 (w := 0) hV hj (by decide) (by omega) (by omega)
          obtain ⟨-, B_113, hB_113⟩ := id hT
          refine z_callV g _ _ cv_L_91 (k_of _ _ hB_113 hV (nI k) 0 (nI dd) (nI kk)) hT.k (by decide) rfl (by rw [hR]; decide) (by rw [hR]; show _ ≤ 4160; omega) (by rw [hR]; show _ ≤ 130000; omega) (Nat.le_of_ble_eq_true rfl) rfl dL_isInOrder_113 (fun E9 M9 h9 => by obtain ⟨-, h9⟩ := h9; rcases h9 with h9 | h9 <;> (have e9 := h9.1; rw [hc_113] at e9; exact absurd e9 (by decide))) (fun r_113 M_113 h_113 => ?_)
          obtain ⟨-, rfl, hg_113, hB_113⟩ := h_113
          replace hT := hT.n hg_113 (un0 hB_113)
          clear hB_113 hg_113
          refine z_if_eq (tgt := 147) g dL_isInOrder_116 (by decide) (fun c_116 => ?_) (fun c_116 => ?_)
          · refine z_aload_n g dL_isInOrder_147 rfl ?_
            refine z_iload g dL_isInOrder_148 rfl ?_
            refine z_iconst (v := 3) g dL_isInOrder_150 (by decide) ?_
            refine z_iload g dL_isInOrder_151 rfl ?_
            refine z_iload g dL_isInOrder_153 rfl ?_
            have hc_155 : cOf S (nI k) 3 (nI dd) (nI kk) = 0 := c_of0 (w := 3) hV hj (by decide) (by omega) (by omega)
            obtain ⟨-, B_155, hB_155⟩ := id hT
            refine z_callV g _ _ cv_L_91 (k_of _ _ hB_155 hV (nI k) 3 (nI dd) (nI kk)) hT.k (by decide) rfl (by rw [hR]; decide) (by rw [hR]; show _ ≤ 4160; omega) (by rw [hR]; show _ ≤ 130000; omega) (Nat.le_of_ble_eq_true rfl) rfl dL_isInOrder_155 (fun E9 M9 h9 => by obtain ⟨-, h9⟩ := h9; rcases h9 with h9 | h9 <;> (have e9 := h9.1; rw [hc_155] at e9; exact absurd e9 (by decide))) (fun r_155 M_155 h_155 => ?_)
            obtain ⟨-, rfl, hg_155, hB_155⟩ := h_155
            replace hT := hT.n hg_155 (un0 hB_155)
            clear hB_155 hg_155
            refine z_iload g dL_isInOrder_158 rfl ?_
            refine z_icmp_ge (tgt := 193) g dL_isInOrder_160 (by decide) (fun h => absurd h (sm_of3 hV hJ hj)) (fun _ => ?_)
            refine z_aload_n g dL_isInOrder_163 rfl ?_
            refine z_iload g dL_isInOrder_164 rfl ?_
            refine z_iconst (v := 0) g dL_isInOrder_166 (by decide) ?_
            refine z_iload g dL_isInOrder_167 rfl ?_
            refine z_iload_n g dL_isInOrder_169 rfl ?_
            have hc_170 : cOf S (nI k) 0 (nI dd) (nI n) = 0 := c_of0 (w := 0) hV hj (by decide) (by omega) (by omega)
            obtain ⟨-, B_170, hB_170⟩ := id hT
            refine z_callV g _ _ cv_L_91 (k_of _ _ hB_170 hV (nI k) 0 (nI dd) (nI n)) hT.k (by decide) rfl (by rw [hR]; decide) (by rw [hR]; show _ ≤ 4160; omega) (by rw [hR]; show _ ≤ 130000; omega) (Nat.le_of_ble_eq_true rfl) rfl dL_isInOrder_170 (fun E9 M9 h9 => by obtain ⟨-, h9⟩ := h9; rcases h9 with h9 | h9 <;> (have e9 := h9.1; rw [hc_170] at e9; exact absurd e9 (by decide))) (fun r_170 M_170 h_170 => ?_)
            obtain ⟨-, rfl, hg_170, hB_170⟩ := h_170
            replace hT := hT.n hg_170 (un0 hB_170)
            clear hB_170 hg_170
            refine z_aload_n g dL_isInOrder_173 rfl ?_
            refine z_iload g dL_isInOrder_174 rfl ?_
            refine z_iconst (v := 0) g dL_isInOrder_176 (by decide) ?_
            refine z_iload g dL_isInOrder_177 rfl ?_
            refine z_iload_n g dL_isInOrder_179 rfl ?_
            refine z_bipush (v := 9) g dL_isInOrder_180 (by decide) ?_
            refine z_iadd g dL_isInOrder_182 ?_
            rw [show nI n + 9 = nI (n + 9) from nI_add n 9]
            have hc_183 : cOf S (nI k) 0 (nI dd) (nI (n + 9)) = 0 := c_of0 (w := 0) hV hj (by decide) (by omega) (by omega)
            obtain ⟨-, B_183, hB_183⟩ := id hT
            refine z_callV g _ _ cv_L_91 (k_of _ _ hB_183 hV (nI k) 0 (nI dd) (nI (n + 9))) hT.k (by decide) rfl (by rw [hR]; decide) (by rw [hR]; show _ ≤ 4160; omega) (by rw [hR]; show _ ≤ 130000; omega) (Nat.le_of_ble_eq_true rfl) rfl dL_isInOrder_183 (fun E9 M9 h9 => by obtain ⟨-, h9⟩ := h9; rcases h9 with h9 | h9 <;> (have e9 := h9.1; rw [hc_183] at e9; exact absurd e9 (by decide))) (fun r_183 M_183 h_183 => ?_)
            obtain ⟨-, rfl, hg_183, hB_183⟩ := h_183
            replace hT := hT.n hg_183 (un0 hB_183)
            clear hB_183 hg_183
            refine z_icmp_gt (tgt := 193) g dL_isInOrder_186 (by decide) (fun h => absurd h (by rw [show nI (n + 9) = nI n + 9 from (nI_add n 9).symm]; exact sm_mono hV hj hn hn9)) (fun _ => ?_)
            refine z_iconst (v := 1) g dL_isInOrder_189 (by decide) ?_
            refine z_goto (tgt := 194) g dL_isInOrder_190 (by decide) ?_
            refine z_istore_n g dL_isInOrder_194 (by rw [hN]; decide) ?_
            refine z_iconst (v := 0) g dL_isInOrder_195 (by decide) ?_
            refine z_istore g dL_isInOrder_196 (by rw [hN]; decide) ?_
            have tong : ∀ (u t : Nat) (M : Mm) (hu : u + t = 4) (hT : OT x S M0 M), Z X M (288 * k + 160 + 32 * t) (9000 * k + 5000 + 1000 * t) 198 [(0, .ref x), (1, .int (nI n)), (2, .int v), (3, .int 1), (4, .int (nI k)), (9, .int (nI xm)), (10, .int (nI t))] [] := by
              intro u
              induction u using Nat.strongRecOn with
              | _ u ih =>
                intro t M hu hT
                refine z_iload g dL_isInOrder_198 rfl ?_
                refine z_iconst (v := 4) g dL_isInOrder_200 (by decide) ?_
                refine z_icmp_ge (tgt := 294) g dL_isInOrder_201 (by decide) (fun c_201 => ?_) (fun c_201 => ?_)
                · exact z_to (z_wid (by omega) (by omega) (nx M hT)) ⟨rfl, rfl, rfl, rfl, rfl, trivial⟩
                · rw [show (4 : Int32) = nI 4 from rfl, nI_leI (by omega) (by omega)] at c_201
                  have ht4 : t < 4 := by omega
                  refine z_iload_n g dL_isInOrder_204 rfl ?_
                  refine z_if_eq (tgt := 294) g dL_isInOrder_205 (by decide) (fun h => absurd h (by decide)) (fun _ => ?_)
                  refine z_aload_n g dL_isInOrder_208 rfl ?_
                  refine z_iload g dL_isInOrder_209 rfl ?_
                  refine z_iload g dL_isInOrder_211 rfl ?_
                  refine z_iload_n g dL_isInOrder_213 rfl ?_
                  refine z_iload_n g dL_isInOrder_214 rfl ?_
                  have hc_215 : cForm S (nI k) (nI t) (nI n) (nI n) = 0 := c_form0 hV hj (by omega) (by omega) (by omega)
                  obtain ⟨-, B_215, hB_215⟩ := id hT
                  refine z_callV g _ _ cv_L_106 (k_callForm _ _ hB_215 hV (nI k) (nI t) (nI n) (nI n)) hT.k (by decide) rfl (by rw [hR]; decide) (by rw [hR]; show _ ≤ 4160; omega) (by rw [hR]; show _ ≤ 130000; omega) (Nat.le_of_ble_eq_true rfl) rfl dL_isInOrder_215 (fun E9 M9 h9 => by obtain ⟨-, h9⟩ := h9; rcases h9 with h9 | h9 <;> (have e9 := h9.1; rw [hc_215] at e9; exact absurd e9 (by decide))) (fun r_215 M_215 h_215 => ?_)
                  obtain ⟨-, rfl, hg_215, hB_215⟩ := h_215
                  replace hT := hT.n hg_215 (un0 hB_215)
                  clear hB_215 hg_215
                  have hw : JW (vForm S (nI k) (nI t) (nI n) (nI n)) := formA_w hV.OkF _ _ _ _
                  refine z_lstore g dL_isInOrder_218 (by rw [hN]; decide) ?_
                  refine z_lload g dL_isInOrder_220 rfl ?_
                  refine z_callS g _ _ cs_L_160 (c_LisW _ _ _ (hw)) rfl (by rw [hR]; decide) (by rw [hR]; show _ ≤ 4160; omega) (by rw [hR]; show _ ≤ 130000; omega) (Nat.le_of_ble_eq_true rfl) rfl dL_isInOrder_222 (fun _ _ h => False.elim h) (fun r_222 M_222 h_222 => ?_)
                  obtain ⟨rfl, rfl⟩ := h_222
                  refine z_if_eq (tgt := 286) g dL_isInOrder_225 (by decide) (fun h => absurd h (by decide)) (fun _ => ?_)
                  refine z_iload g dL_isInOrder_228 rfl ?_
                  refine z_iload g dL_isInOrder_230 rfl ?_
                  refine z_ishr g dL_isInOrder_232 ?_
                  refine z_iconst (v := 1) g dL_isInOrder_233 (by decide) ?_
                  refine z_iand g dL_isInOrder_234 ?_
                  refine z_if_eq (tgt := 245) g dL_isInOrder_235 (by decide) (fun c_235 => ?_) (fun c_235 => ?_)
                  · refine z_lload g dL_isInOrder_245 rfl ?_
                    refine z_lconst (v := 0) g dL_isInOrder_247 (by decide) ?_
                    refine z_lcmp g dL_isInOrder_248 ?_
                    refine z_if_eq (tgt := 257) g dL_isInOrder_249 (by decide) (fun c_249 => ?_) (fun c_249 => ?_)
                    · refine z_lload g dL_isInOrder_257 rfl ?_
                      refine z_lconst (v := 0) g dL_isInOrder_259 (by decide) ?_
                      refine z_lcmp g dL_isInOrder_260 ?_
                      refine z_if_eq (tgt := 282) g dL_isInOrder_261 (by decide) (fun c_261 => ?_) (fun c_261 => ?_)
                      · refine z_iconst (v := 1) g dL_isInOrder_282 (by decide) ?_
                        refine z_goto (tgt := 287) g dL_isInOrder_283 (by decide) ?_
                        refine z_istore_n g dL_isInOrder_287 (by rw [hN]; decide) ?_
                        refine z_iinc1 g dL_isInOrder_288 rfl (by rw [hN]; decide) ?_
                        refine z_goto (tgt := 198) g dL_isInOrder_291 (by decide) ?_
                        rw [nI_s]
                        exact z_to (z_wid (by omega) (by omega) (ih (u - 1) (by omega) (t + 1) _ (by omega) hT)) ⟨rfl, rfl, rfl, rfl, rfl, rfl, rfl, trivial⟩
                      · refine z_iload g dL_isInOrder_264 rfl ?_
                        refine z_iconst (v := 1) g dL_isInOrder_266 (by decide) ?_
                        refine z_icmp_gt (tgt := 282) g dL_isInOrder_267 (by decide) (fun c_267 => ?_) (fun c_267 => ?_)
                        · refine z_iconst (v := 1) g dL_isInOrder_282 (by decide) ?_
                          refine z_goto (tgt := 287) g dL_isInOrder_283 (by decide) ?_
                          refine z_istore_n g dL_isInOrder_287 (by rw [hN]; decide) ?_
                          refine z_iinc1 g dL_isInOrder_288 rfl (by rw [hN]; decide) ?_
                          refine z_goto (tgt := 198) g dL_isInOrder_291 (by decide) ?_
                          rw [nI_s]
                          exact z_to (z_wid (by omega) (by omega) (ih (u - 1) (by omega) (t + 1) _ (by omega) hT)) ⟨rfl, rfl, rfl, rfl, rfl, rfl, rfl, trivial⟩
                        · refine z_aload_n g dL_isInOrder_270 rfl ?_
                          refine z_lload g dL_isInOrder_271 rfl ?_
                          refine z_iconst (v := 0) g dL_isInOrder_273 (by decide) ?_
                          refine z_iconst (v := 0) g dL_isInOrder_274 (by decide) ?_
                          refine z_iconst (v := 0) g dL_isInOrder_275 (by decide) ?_
                          have hwn : vForm S (nI k) (nI t) (nI n) (nI n) ≠ 0 := fun z => c_261 ((lg_cmp_eq _ _).mpr z)
                          have hc_276 : cFind S (vForm S (nI k) (nI t) (nI n) (nI n)) 0 0 0 = 0 := c_find0 (JW_isWd hw hwn)
                          obtain ⟨-, B_276, hB_276⟩ := id hT
                          refine z_callV g _ _ cv_L_42 (k_find _ _ hB_276 hV (vForm S (nI k) (nI t) (nI n) (nI n)) 0 0 0) hT.k (by decide) rfl (by rw [hR]; decide) (by rw [hR]; show _ ≤ 4160; omega) (by rw [hR]; show _ ≤ 130000; omega) (Nat.le_of_ble_eq_true rfl) rfl dL_isInOrder_276 (fun E9 M9 h9 => by obtain ⟨-, h9⟩ := h9; rcases h9 with h9 | h9 <;> (have e9 := h9.1; rw [hc_276] at e9; exact absurd e9 (by decide))) (fun r_276 M_276 h_276 => ?_)
                          obtain ⟨-, rfl, hg_276, hB_276⟩ := h_276
                          replace hT := hT.n hg_276 (un0 hB_276)
                          clear hB_276 hg_276
                          refine z_if_lt (tgt := 286) g dL_isInOrder_279 (by decide) (fun h => absurd h (sm_find hV hj (frL_t (t := t) (by rw [hn]; rfl) 4 ht4))) (fun _ => ?_)
                          refine z_iconst (v := 1) g dL_isInOrder_282 (by decide) ?_
                          refine z_goto (tgt := 287) g dL_isInOrder_283 (by decide) ?_
                          refine z_istore_n g dL_isInOrder_287 (by rw [hN]; decide) ?_
                          refine z_iinc1 g dL_isInOrder_288 rfl (by rw [hN]; decide) ?_
                          refine z_goto (tgt := 198) g dL_isInOrder_291 (by decide) ?_
                          rw [nI_s]
                          exact z_to (z_wid (by omega) (by omega) (ih (u - 1) (by omega) (t + 1) _ (by omega) hT)) ⟨rfl, rfl, rfl, rfl, rfl, rfl, rfl, trivial⟩
                    · refine z_iload g dL_isInOrder_252 rfl ?_
                      refine z_if_le (tgt := 286) g dL_isInOrder_254 (by decide) (fun h => absurd h (nI_nle (hx2 t ht4 (fun z => c_249 ((lg_cmp_eq _ _).mpr z))) (by omega))) (fun _ => ?_)
                      refine z_lload g dL_isInOrder_257 rfl ?_
                      refine z_lconst (v := 0) g dL_isInOrder_259 (by decide) ?_
                      refine z_lcmp g dL_isInOrder_260 ?_
                      refine z_if_eq (tgt := 282) g dL_isInOrder_261 (by decide) (fun c_261 => ?_) (fun c_261 => ?_)
                      · refine z_iconst (v := 1) g dL_isInOrder_282 (by decide) ?_
                        refine z_goto (tgt := 287) g dL_isInOrder_283 (by decide) ?_
                        refine z_istore_n g dL_isInOrder_287 (by rw [hN]; decide) ?_
                        refine z_iinc1 g dL_isInOrder_288 rfl (by rw [hN]; decide) ?_
                        refine z_goto (tgt := 198) g dL_isInOrder_291 (by decide) ?_
                        rw [nI_s]
                        exact z_to (z_wid (by omega) (by omega) (ih (u - 1) (by omega) (t + 1) _ (by omega) hT)) ⟨rfl, rfl, rfl, rfl, rfl, rfl, rfl, trivial⟩
                      · refine z_iload g dL_isInOrder_264 rfl ?_
                        refine z_iconst (v := 1) g dL_isInOrder_266 (by decide) ?_
                        refine z_icmp_gt (tgt := 282) g dL_isInOrder_267 (by decide) (fun c_267 => ?_) (fun c_267 => ?_)
                        · refine z_iconst (v := 1) g dL_isInOrder_282 (by decide) ?_
                          refine z_goto (tgt := 287) g dL_isInOrder_283 (by decide) ?_
                          refine z_istore_n g dL_isInOrder_287 (by rw [hN]; decide) ?_
                          refine z_iinc1 g dL_isInOrder_288 rfl (by rw [hN]; decide) ?_
                          refine z_goto (tgt := 198) g dL_isInOrder_291 (by decide) ?_
                          rw [nI_s]
                          exact z_to (z_wid (by omega) (by omega) (ih (u - 1) (by omega) (t + 1) _ (by omega) hT)) ⟨rfl, rfl, rfl, rfl, rfl, rfl, rfl, trivial⟩
                        · refine z_aload_n g dL_isInOrder_270 rfl ?_
                          refine z_lload g dL_isInOrder_271 rfl ?_
                          refine z_iconst (v := 0) g dL_isInOrder_273 (by decide) ?_
                          refine z_iconst (v := 0) g dL_isInOrder_274 (by decide) ?_
                          refine z_iconst (v := 0) g dL_isInOrder_275 (by decide) ?_
                          have hwn : vForm S (nI k) (nI t) (nI n) (nI n) ≠ 0 := fun z => c_261 ((lg_cmp_eq _ _).mpr z)
                          have hc_276 : cFind S (vForm S (nI k) (nI t) (nI n) (nI n)) 0 0 0 = 0 := c_find0 (JW_isWd hw hwn)
                          obtain ⟨-, B_276, hB_276⟩ := id hT
                          refine z_callV g _ _ cv_L_42 (k_find _ _ hB_276 hV (vForm S (nI k) (nI t) (nI n) (nI n)) 0 0 0) hT.k (by decide) rfl (by rw [hR]; decide) (by rw [hR]; show _ ≤ 4160; omega) (by rw [hR]; show _ ≤ 130000; omega) (Nat.le_of_ble_eq_true rfl) rfl dL_isInOrder_276 (fun E9 M9 h9 => by obtain ⟨-, h9⟩ := h9; rcases h9 with h9 | h9 <;> (have e9 := h9.1; rw [hc_276] at e9; exact absurd e9 (by decide))) (fun r_276 M_276 h_276 => ?_)
                          obtain ⟨-, rfl, hg_276, hB_276⟩ := h_276
                          replace hT := hT.n hg_276 (un0 hB_276)
                          clear hB_276 hg_276
                          refine z_if_lt (tgt := 286) g dL_isInOrder_279 (by decide) (fun h => absurd h (sm_find hV hj (frL_t (t := t) (by rw [hn]; rfl) 4 ht4))) (fun _ => ?_)
                          refine z_iconst (v := 1) g dL_isInOrder_282 (by decide) ?_
                          refine z_goto (tgt := 287) g dL_isInOrder_283 (by decide) ?_
                          refine z_istore_n g dL_isInOrder_287 (by rw [hN]; decide) ?_
                          refine z_iinc1 g dL_isInOrder_288 rfl (by rw [hN]; decide) ?_
                          refine z_goto (tgt := 198) g dL_isInOrder_291 (by decide) ?_
                          rw [nI_s]
                          exact z_to (z_wid (by omega) (by omega) (ih (u - 1) (by omega) (t + 1) _ (by omega) hT)) ⟨rfl, rfl, rfl, rfl, rfl, rfl, rfl, trivial⟩
                  · refine z_lload g dL_isInOrder_238 rfl ?_
                    refine z_lconst (v := 0) g dL_isInOrder_240 (by decide) ?_
                    refine z_lcmp g dL_isInOrder_241 ?_
                    refine z_if_le (tgt := 286) g dL_isInOrder_242 (by decide) (fun h => absurd ((lg_cmp_le _ _).mp h) (Int64.not_le.mpr (JW_pos hw (hx1 t ((bit_t hxm ht4).mp c_235))))) (fun _ => ?_)
                    refine z_lload g dL_isInOrder_245 rfl ?_
                    refine z_lconst (v := 0) g dL_isInOrder_247 (by decide) ?_
                    refine z_lcmp g dL_isInOrder_248 ?_
                    refine z_if_eq (tgt := 257) g dL_isInOrder_249 (by decide) (fun c_249 => ?_) (fun c_249 => ?_)
                    · refine z_lload g dL_isInOrder_257 rfl ?_
                      refine z_lconst (v := 0) g dL_isInOrder_259 (by decide) ?_
                      refine z_lcmp g dL_isInOrder_260 ?_
                      refine z_if_eq (tgt := 282) g dL_isInOrder_261 (by decide) (fun c_261 => ?_) (fun c_261 => ?_)
                      · refine z_iconst (v := 1) g dL_isInOrder_282 (by decide) ?_
                        refine z_goto (tgt := 287) g dL_isInOrder_283 (by decide) ?_
                        refine z_istore_n g dL_isInOrder_287 (by rw [hN]; decide) ?_
                        refine z_iinc1 g dL_isInOrder_288 rfl (by rw [hN]; decide) ?_
                        refine z_goto (tgt := 198) g dL_isInOrder_291 (by decide) ?_
                        rw [nI_s]
                        exact z_to (z_wid (by omega) (by omega) (ih (u - 1) (by omega) (t + 1) _ (by omega) hT)) ⟨rfl, rfl, rfl, rfl, rfl, rfl, rfl, trivial⟩
                      · refine z_iload g dL_isInOrder_264 rfl ?_
                        refine z_iconst (v := 1) g dL_isInOrder_266 (by decide) ?_
                        refine z_icmp_gt (tgt := 282) g dL_isInOrder_267 (by decide) (fun c_267 => ?_) (fun c_267 => ?_)
                        · refine z_iconst (v := 1) g dL_isInOrder_282 (by decide) ?_
                          refine z_goto (tgt := 287) g dL_isInOrder_283 (by decide) ?_
                          refine z_istore_n g dL_isInOrder_287 (by rw [hN]; decide) ?_
                          refine z_iinc1 g dL_isInOrder_288 rfl (by rw [hN]; decide) ?_
                          refine z_goto (tgt := 198) g dL_isInOrder_291 (by decide) ?_
                          rw [nI_s]
                          exact z_to (z_wid (by omega) (by omega) (ih (u - 1) (by omega) (t + 1) _ (by omega) hT)) ⟨rfl, rfl, rfl, rfl, rfl, rfl, rfl, trivial⟩
                        · refine z_aload_n g dL_isInOrder_270 rfl ?_
                          refine z_lload g dL_isInOrder_271 rfl ?_
                          refine z_iconst (v := 0) g dL_isInOrder_273 (by decide) ?_
                          refine z_iconst (v := 0) g dL_isInOrder_274 (by decide) ?_
                          refine z_iconst (v := 0) g dL_isInOrder_275 (by decide) ?_
                          have hwn : vForm S (nI k) (nI t) (nI n) (nI n) ≠ 0 := fun z => c_261 ((lg_cmp_eq _ _).mpr z)
                          have hc_276 : cFind S (vForm S (nI k) (nI t) (nI n) (nI n)) 0 0 0 = 0 := c_find0 (JW_isWd hw hwn)
                          obtain ⟨-, B_276, hB_276⟩ := id hT
                          refine z_callV g _ _ cv_L_42 (k_find _ _ hB_276 hV (vForm S (nI k) (nI t) (nI n) (nI n)) 0 0 0) hT.k (by decide) rfl (by rw [hR]; decide) (by rw [hR]; show _ ≤ 4160; omega) (by rw [hR]; show _ ≤ 130000; omega) (Nat.le_of_ble_eq_true rfl) rfl dL_isInOrder_276 (fun E9 M9 h9 => by obtain ⟨-, h9⟩ := h9; rcases h9 with h9 | h9 <;> (have e9 := h9.1; rw [hc_276] at e9; exact absurd e9 (by decide))) (fun r_276 M_276 h_276 => ?_)
                          obtain ⟨-, rfl, hg_276, hB_276⟩ := h_276
                          replace hT := hT.n hg_276 (un0 hB_276)
                          clear hB_276 hg_276
                          refine z_if_lt (tgt := 286) g dL_isInOrder_279 (by decide) (fun h => absurd h (sm_find hV hj (frL_t (t := t) (by rw [hn]; rfl) 4 ht4))) (fun _ => ?_)
                          refine z_iconst (v := 1) g dL_isInOrder_282 (by decide) ?_
                          refine z_goto (tgt := 287) g dL_isInOrder_283 (by decide) ?_
                          refine z_istore_n g dL_isInOrder_287 (by rw [hN]; decide) ?_
                          refine z_iinc1 g dL_isInOrder_288 rfl (by rw [hN]; decide) ?_
                          refine z_goto (tgt := 198) g dL_isInOrder_291 (by decide) ?_
                          rw [nI_s]
                          exact z_to (z_wid (by omega) (by omega) (ih (u - 1) (by omega) (t + 1) _ (by omega) hT)) ⟨rfl, rfl, rfl, rfl, rfl, rfl, rfl, trivial⟩
                    · refine z_iload g dL_isInOrder_252 rfl ?_
                      refine z_if_le (tgt := 286) g dL_isInOrder_254 (by decide) (fun h => absurd h (nI_nle (hx2 t ht4 (fun z => c_249 ((lg_cmp_eq _ _).mpr z))) (by omega))) (fun _ => ?_)
                      refine z_lload g dL_isInOrder_257 rfl ?_
                      refine z_lconst (v := 0) g dL_isInOrder_259 (by decide) ?_
                      refine z_lcmp g dL_isInOrder_260 ?_
                      refine z_if_eq (tgt := 282) g dL_isInOrder_261 (by decide) (fun c_261 => ?_) (fun c_261 => ?_)
                      · refine z_iconst (v := 1) g dL_isInOrder_282 (by decide) ?_
                        refine z_goto (tgt := 287) g dL_isInOrder_283 (by decide) ?_
                        refine z_istore_n g dL_isInOrder_287 (by rw [hN]; decide) ?_
                        refine z_iinc1 g dL_isInOrder_288 rfl (by rw [hN]; decide) ?_
                        refine z_goto (tgt := 198) g dL_isInOrder_291 (by decide) ?_
                        rw [nI_s]
                        exact z_to (z_wid (by omega) (by omega) (ih (u - 1) (by omega) (t + 1) _ (by omega) hT)) ⟨rfl, rfl, rfl, rfl, rfl, rfl, rfl, trivial⟩
                      · refine z_iload g dL_isInOrder_264 rfl ?_
                        refine z_iconst (v := 1) g dL_isInOrder_266 (by decide) ?_
                        refine z_icmp_gt (tgt := 282) g dL_isInOrder_267 (by decide) (fun c_267 => ?_) (fun c_267 => ?_)
                        · refine z_iconst (v := 1) g dL_isInOrder_282 (by decide) ?_
                          refine z_goto (tgt := 287) g dL_isInOrder_283 (by decide) ?_
                          refine z_istore_n g dL_isInOrder_287 (by rw [hN]; decide) ?_
                          refine z_iinc1 g dL_isInOrder_288 rfl (by rw [hN]; decide) ?_
                          refine z_goto (tgt := 198) g dL_isInOrder_291 (by decide) ?_
                          rw [nI_s]
                          exact z_to (z_wid (by omega) (by omega) (ih (u - 1) (by omega) (t + 1) _ (by omega) hT)) ⟨rfl, rfl, rfl, rfl, rfl, rfl, rfl, trivial⟩
                        · refine z_aload_n g dL_isInOrder_270 rfl ?_
                          refine z_lload g dL_isInOrder_271 rfl ?_
                          refine z_iconst (v := 0) g dL_isInOrder_273 (by decide) ?_
                          refine z_iconst (v := 0) g dL_isInOrder_274 (by decide) ?_
                          refine z_iconst (v := 0) g dL_isInOrder_275 (by decide) ?_
                          have hwn : vForm S (nI k) (nI t) (nI n) (nI n) ≠ 0 := fun z => c_261 ((lg_cmp_eq _ _).mpr z)
                          have hc_276 : cFind S (vForm S (nI k) (nI t) (nI n) (nI n)) 0 0 0 = 0 := c_find0 (JW_isWd hw hwn)
                          obtain ⟨-, B_276, hB_276⟩ := id hT
                          refine z_callV g _ _ cv_L_42 (k_find _ _ hB_276 hV (vForm S (nI k) (nI t) (nI n) (nI n)) 0 0 0) hT.k (by decide) rfl (by rw [hR]; decide) (by rw [hR]; show _ ≤ 4160; omega) (by rw [hR]; show _ ≤ 130000; omega) (Nat.le_of_ble_eq_true rfl) rfl dL_isInOrder_276 (fun E9 M9 h9 => by obtain ⟨-, h9⟩ := h9; rcases h9 with h9 | h9 <;> (have e9 := h9.1; rw [hc_276] at e9; exact absurd e9 (by decide))) (fun r_276 M_276 h_276 => ?_)
                          obtain ⟨-, rfl, hg_276, hB_276⟩ := h_276
                          replace hT := hT.n hg_276 (un0 hB_276)
                          clear hB_276 hg_276
                          refine z_if_lt (tgt := 286) g dL_isInOrder_279 (by decide) (fun h => absurd h (sm_find hV hj (frL_t (t := t) (by rw [hn]; rfl) 4 ht4))) (fun _ => ?_)
                          refine z_iconst (v := 1) g dL_isInOrder_282 (by decide) ?_
                          refine z_goto (tgt := 287) g dL_isInOrder_283 (by decide) ?_
                          refine z_istore_n g dL_isInOrder_287 (by rw [hN]; decide) ?_
                          refine z_iinc1 g dL_isInOrder_288 rfl (by rw [hN]; decide) ?_
                          refine z_goto (tgt := 198) g dL_isInOrder_291 (by decide) ?_
                          rw [nI_s]
                          exact z_to (z_wid (by omega) (by omega) (ih (u - 1) (by omega) (t + 1) _ (by omega) hT)) ⟨rfl, rfl, rfl, rfl, rfl, rfl, rfl, trivial⟩
            exact z_to (z_wid (by omega) (by omega) (tong 4 0 _ rfl hT)) ⟨rfl, rfl, rfl, rfl, rfl, rfl, rfl, trivial⟩
          · refine z_aload_n g dL_isInOrder_119 rfl ?_
            refine z_iload g dL_isInOrder_120 rfl ?_
            refine z_iconst (v := 1) g dL_isInOrder_122 (by decide) ?_
            refine z_iload g dL_isInOrder_123 rfl ?_
            refine z_iload g dL_isInOrder_125 rfl ?_
            have hc_127 : cOf S (nI k) 1 (nI dd) (nI kk) = 0 := c_of0 (w := 1) hV hj (by decide) (by omega) (by omega)
            obtain ⟨-, B_127, hB_127⟩ := id hT
            refine z_callV g _ _ cv_L_91 (k_of _ _ hB_127 hV (nI k) 1 (nI dd) (nI kk)) hT.k (by decide) rfl (by rw [hR]; decide) (by rw [hR]; show _ ≤ 4160; omega) (by rw [hR]; show _ ≤ 130000; omega) (Nat.le_of_ble_eq_true rfl) rfl dL_isInOrder_127 (fun E9 M9 h9 => by obtain ⟨-, h9⟩ := h9; rcases h9 with h9 | h9 <;> (have e9 := h9.1; rw [hc_127] at e9; exact absurd e9 (by decide))) (fun r_127 M_127 h_127 => ?_)
            obtain ⟨-, rfl, hg_127, hB_127⟩ := h_127
            replace hT := hT.n hg_127 (un0 hB_127)
            clear hB_127 hg_127
            refine z_if_lt (tgt := 193) g dL_isInOrder_130 (by decide) (fun h => absurd h (sm_of12 hV hJ hj (by omega) (by omega) (by have h9 := sm_of0 c_116; rw [nI_clamp (show k < 2 ^ 31 by omega)] at h9; exact h9)).1) (fun _ => ?_)
            refine z_aload_n g dL_isInOrder_133 rfl ?_
            refine z_iload g dL_isInOrder_134 rfl ?_
            refine z_iconst (v := 2) g dL_isInOrder_136 (by decide) ?_
            refine z_iload g dL_isInOrder_137 rfl ?_
            refine z_iload g dL_isInOrder_139 rfl ?_
            have hc_141 : cOf S (nI k) 2 (nI dd) (nI kk) = 0 := c_of0 (w := 2) hV hj (by decide) (by omega) (by omega)
            obtain ⟨-, B_141, hB_141⟩ := id hT
            refine z_callV g _ _ cv_L_91 (k_of _ _ hB_141 hV (nI k) 2 (nI dd) (nI kk)) hT.k (by decide) rfl (by rw [hR]; decide) (by rw [hR]; show _ ≤ 4160; omega) (by rw [hR]; show _ ≤ 130000; omega) (Nat.le_of_ble_eq_true rfl) rfl dL_isInOrder_141 (fun E9 M9 h9 => by obtain ⟨-, h9⟩ := h9; rcases h9 with h9 | h9 <;> (have e9 := h9.1; rw [hc_141] at e9; exact absurd e9 (by decide))) (fun r_141 M_141 h_141 => ?_)
            obtain ⟨-, rfl, hg_141, hB_141⟩ := h_141
            replace hT := hT.n hg_141 (un0 hB_141)
            clear hB_141 hg_141
            refine z_if_lt (tgt := 193) g dL_isInOrder_144 (by decide) (fun h => absurd h (sm_of12 hV hJ hj (by omega) (by omega) (by have h9 := sm_of0 c_116; rw [nI_clamp (show k < 2 ^ 31 by omega)] at h9; exact h9)).2) (fun _ => ?_)
            refine z_aload_n g dL_isInOrder_147 rfl ?_
            refine z_iload g dL_isInOrder_148 rfl ?_
            refine z_iconst (v := 3) g dL_isInOrder_150 (by decide) ?_
            refine z_iload g dL_isInOrder_151 rfl ?_
            refine z_iload g dL_isInOrder_153 rfl ?_
            have hc_155 : cOf S (nI k) 3 (nI dd) (nI kk) = 0 := c_of0 (w := 3) hV hj (by decide) (by omega) (by omega)
            obtain ⟨-, B_155, hB_155⟩ := id hT
            refine z_callV g _ _ cv_L_91 (k_of _ _ hB_155 hV (nI k) 3 (nI dd) (nI kk)) hT.k (by decide) rfl (by rw [hR]; decide) (by rw [hR]; show _ ≤ 4160; omega) (by rw [hR]; show _ ≤ 130000; omega) (Nat.le_of_ble_eq_true rfl) rfl dL_isInOrder_155 (fun E9 M9 h9 => by obtain ⟨-, h9⟩ := h9; rcases h9 with h9 | h9 <;> (have e9 := h9.1; rw [hc_155] at e9; exact absurd e9 (by decide))) (fun r_155 M_155 h_155 => ?_)
            obtain ⟨-, rfl, hg_155, hB_155⟩ := h_155
            replace hT := hT.n hg_155 (un0 hB_155)
            clear hB_155 hg_155
            refine z_iload g dL_isInOrder_158 rfl ?_
            refine z_icmp_ge (tgt := 193) g dL_isInOrder_160 (by decide) (fun h => absurd h (sm_of3 hV hJ hj)) (fun _ => ?_)
            refine z_aload_n g dL_isInOrder_163 rfl ?_
            refine z_iload g dL_isInOrder_164 rfl ?_
            refine z_iconst (v := 0) g dL_isInOrder_166 (by decide) ?_
            refine z_iload g dL_isInOrder_167 rfl ?_
            refine z_iload_n g dL_isInOrder_169 rfl ?_
            have hc_170 : cOf S (nI k) 0 (nI dd) (nI n) = 0 := c_of0 (w := 0) hV hj (by decide) (by omega) (by omega)
            obtain ⟨-, B_170, hB_170⟩ := id hT
            refine z_callV g _ _ cv_L_91 (k_of _ _ hB_170 hV (nI k) 0 (nI dd) (nI n)) hT.k (by decide) rfl (by rw [hR]; decide) (by rw [hR]; show _ ≤ 4160; omega) (by rw [hR]; show _ ≤ 130000; omega) (Nat.le_of_ble_eq_true rfl) rfl dL_isInOrder_170 (fun E9 M9 h9 => by obtain ⟨-, h9⟩ := h9; rcases h9 with h9 | h9 <;> (have e9 := h9.1; rw [hc_170] at e9; exact absurd e9 (by decide))) (fun r_170 M_170 h_170 => ?_)
            obtain ⟨-, rfl, hg_170, hB_170⟩ := h_170
            replace hT := hT.n hg_170 (un0 hB_170)
            clear hB_170 hg_170
            refine z_aload_n g dL_isInOrder_173 rfl ?_
            refine z_iload g dL_isInOrder_174 rfl ?_
            refine z_iconst (v := 0) g dL_isInOrder_176 (by decide) ?_
            refine z_iload g dL_isInOrder_177 rfl ?_
            refine z_iload_n g dL_isInOrder_179 rfl ?_
            refine z_bipush (v := 9) g dL_isInOrder_180 (by decide) ?_
            refine z_iadd g dL_isInOrder_182 ?_
            rw [show nI n + 9 = nI (n + 9) from nI_add n 9]
            have hc_183 : cOf S (nI k) 0 (nI dd) (nI (n + 9)) = 0 := c_of0 (w := 0) hV hj (by decide) (by omega) (by omega)
            obtain ⟨-, B_183, hB_183⟩ := id hT
            refine z_callV g _ _ cv_L_91 (k_of _ _ hB_183 hV (nI k) 0 (nI dd) (nI (n + 9))) hT.k (by decide) rfl (by rw [hR]; decide) (by rw [hR]; show _ ≤ 4160; omega) (by rw [hR]; show _ ≤ 130000; omega) (Nat.le_of_ble_eq_true rfl) rfl dL_isInOrder_183 (fun E9 M9 h9 => by obtain ⟨-, h9⟩ := h9; rcases h9 with h9 | h9 <;> (have e9 := h9.1; rw [hc_183] at e9; exact absurd e9 (by decide))) (fun r_183 M_183 h_183 => ?_)
            obtain ⟨-, rfl, hg_183, hB_183⟩ := h_183
            replace hT := hT.n hg_183 (un0 hB_183)
            clear hB_183 hg_183
            refine z_icmp_gt (tgt := 193) g dL_isInOrder_186 (by decide) (fun h => absurd h (by rw [show nI (n + 9) = nI n + 9 from (nI_add n 9).symm]; exact sm_mono hV hj hn hn9)) (fun _ => ?_)
            refine z_iconst (v := 1) g dL_isInOrder_189 (by decide) ?_
            refine z_goto (tgt := 194) g dL_isInOrder_190 (by decide) ?_
            refine z_istore_n g dL_isInOrder_194 (by rw [hN]; decide) ?_
            refine z_iconst (v := 0) g dL_isInOrder_195 (by decide) ?_
            refine z_istore g dL_isInOrder_196 (by rw [hN]; decide) ?_
            have tong : ∀ (u t : Nat) (M : Mm) (hu : u + t = 4) (hT : OT x S M0 M), Z X M (288 * k + 160 + 32 * t) (9000 * k + 5000 + 1000 * t) 198 [(0, .ref x), (1, .int (nI n)), (2, .int v), (3, .int 1), (4, .int (nI k)), (9, .int (nI xm)), (10, .int (nI t))] [] := by
              intro u
              induction u using Nat.strongRecOn with
              | _ u ih =>
                intro t M hu hT
                refine z_iload g dL_isInOrder_198 rfl ?_
                refine z_iconst (v := 4) g dL_isInOrder_200 (by decide) ?_
                refine z_icmp_ge (tgt := 294) g dL_isInOrder_201 (by decide) (fun c_201 => ?_) (fun c_201 => ?_)
                · exact z_to (z_wid (by omega) (by omega) (nx M hT)) ⟨rfl, rfl, rfl, rfl, rfl, trivial⟩
                · rw [show (4 : Int32) = nI 4 from rfl, nI_leI (by omega) (by omega)] at c_201
                  have ht4 : t < 4 := by omega
                  refine z_iload_n g dL_isInOrder_204 rfl ?_
                  refine z_if_eq (tgt := 294) g dL_isInOrder_205 (by decide) (fun h => absurd h (by decide)) (fun _ => ?_)
                  refine z_aload_n g dL_isInOrder_208 rfl ?_
                  refine z_iload g dL_isInOrder_209 rfl ?_
                  refine z_iload g dL_isInOrder_211 rfl ?_
                  refine z_iload_n g dL_isInOrder_213 rfl ?_
                  refine z_iload_n g dL_isInOrder_214 rfl ?_
                  have hc_215 : cForm S (nI k) (nI t) (nI n) (nI n) = 0 := c_form0 hV hj (by omega) (by omega) (by omega)
                  obtain ⟨-, B_215, hB_215⟩ := id hT
                  refine z_callV g _ _ cv_L_106 (k_callForm _ _ hB_215 hV (nI k) (nI t) (nI n) (nI n)) hT.k (by decide) rfl (by rw [hR]; decide) (by rw [hR]; show _ ≤ 4160; omega) (by rw [hR]; show _ ≤ 130000; omega) (Nat.le_of_ble_eq_true rfl) rfl dL_isInOrder_215 (fun E9 M9 h9 => by obtain ⟨-, h9⟩ := h9; rcases h9 with h9 | h9 <;> (have e9 := h9.1; rw [hc_215] at e9; exact absurd e9 (by decide))) (fun r_215 M_215 h_215 => ?_)
                  obtain ⟨-, rfl, hg_215, hB_215⟩ := h_215
                  replace hT := hT.n hg_215 (un0 hB_215)
                  clear hB_215 hg_215
                  have hw : JW (vForm S (nI k) (nI t) (nI n) (nI n)) := formA_w hV.OkF _ _ _ _
                  refine z_lstore g dL_isInOrder_218 (by rw [hN]; decide) ?_
                  refine z_lload g dL_isInOrder_220 rfl ?_
                  refine z_callS g _ _ cs_L_160 (c_LisW _ _ _ (hw)) rfl (by rw [hR]; decide) (by rw [hR]; show _ ≤ 4160; omega) (by rw [hR]; show _ ≤ 130000; omega) (Nat.le_of_ble_eq_true rfl) rfl dL_isInOrder_222 (fun _ _ h => False.elim h) (fun r_222 M_222 h_222 => ?_)
                  obtain ⟨rfl, rfl⟩ := h_222
                  refine z_if_eq (tgt := 286) g dL_isInOrder_225 (by decide) (fun h => absurd h (by decide)) (fun _ => ?_)
                  refine z_iload g dL_isInOrder_228 rfl ?_
                  refine z_iload g dL_isInOrder_230 rfl ?_
                  refine z_ishr g dL_isInOrder_232 ?_
                  refine z_iconst (v := 1) g dL_isInOrder_233 (by decide) ?_
                  refine z_iand g dL_isInOrder_234 ?_
                  refine z_if_eq (tgt := 245) g dL_isInOrder_235 (by decide) (fun c_235 => ?_) (fun c_235 => ?_)
                  · refine z_lload g dL_isInOrder_245 rfl ?_
                    refine z_lconst (v := 0) g dL_isInOrder_247 (by decide) ?_
                    refine z_lcmp g dL_isInOrder_248 ?_
                    refine z_if_eq (tgt := 257) g dL_isInOrder_249 (by decide) (fun c_249 => ?_) (fun c_249 => ?_)
                    · refine z_lload g dL_isInOrder_257 rfl ?_
                      refine z_lconst (v := 0) g dL_isInOrder_259 (by decide) ?_
                      refine z_lcmp g dL_isInOrder_260 ?_
                      refine z_if_eq (tgt := 282) g dL_isInOrder_261 (by decide) (fun c_261 => ?_) (fun c_261 => ?_)
                      · refine z_iconst (v := 1) g dL_isInOrder_282 (by decide) ?_
                        refine z_goto (tgt := 287) g dL_isInOrder_283 (by decide) ?_
                        refine z_istore_n g dL_isInOrder_287 (by rw [hN]; decide) ?_
                        refine z_iinc1 g dL_isInOrder_288 rfl (by rw [hN]; decide) ?_
                        refine z_goto (tgt := 198) g dL_isInOrder_291 (by decide) ?_
                        rw [nI_s]
                        exact z_to (z_wid (by omega) (by omega) (ih (u - 1) (by omega) (t + 1) _ (by omega) hT)) ⟨rfl, rfl, rfl, rfl, rfl, rfl, rfl, trivial⟩
                      · refine z_iload g dL_isInOrder_264 rfl ?_
                        refine z_iconst (v := 1) g dL_isInOrder_266 (by decide) ?_
                        refine z_icmp_gt (tgt := 282) g dL_isInOrder_267 (by decide) (fun c_267 => ?_) (fun c_267 => ?_)
                        · refine z_iconst (v := 1) g dL_isInOrder_282 (by decide) ?_
                          refine z_goto (tgt := 287) g dL_isInOrder_283 (by decide) ?_
                          refine z_istore_n g dL_isInOrder_287 (by rw [hN]; decide) ?_
                          refine z_iinc1 g dL_isInOrder_288 rfl (by rw [hN]; decide) ?_
                          refine z_goto (tgt := 198) g dL_isInOrder_291 (by decide) ?_
                          rw [nI_s]
                          exact z_to (z_wid (by omega) (by omega) (ih (u - 1) (by omega) (t + 1) _ (by omega) hT)) ⟨rfl, rfl, rfl, rfl, rfl, rfl, rfl, trivial⟩
                        · refine z_aload_n g dL_isInOrder_270 rfl ?_
                          refine z_lload g dL_isInOrder_271 rfl ?_
                          refine z_iconst (v := 0) g dL_isInOrder_273 (by decide) ?_
                          refine z_iconst (v := 0) g dL_isInOrder_274 (by decide) ?_
                          refine z_iconst (v := 0) g dL_isInOrder_275 (by decide) ?_
                          have hwn : vForm S (nI k) (nI t) (nI n) (nI n) ≠ 0 := fun z => c_261 ((lg_cmp_eq _ _).mpr z)
                          have hc_276 : cFind S (vForm S (nI k) (nI t) (nI n) (nI n)) 0 0 0 = 0 := c_find0 (JW_isWd hw hwn)
                          obtain ⟨-, B_276, hB_276⟩ := id hT
                          refine z_callV g _ _ cv_L_42 (k_find _ _ hB_276 hV (vForm S (nI k) (nI t) (nI n) (nI n)) 0 0 0) hT.k (by decide) rfl (by rw [hR]; decide) (by rw [hR]; show _ ≤ 4160; omega) (by rw [hR]; show _ ≤ 130000; omega) (Nat.le_of_ble_eq_true rfl) rfl dL_isInOrder_276 (fun E9 M9 h9 => by obtain ⟨-, h9⟩ := h9; rcases h9 with h9 | h9 <;> (have e9 := h9.1; rw [hc_276] at e9; exact absurd e9 (by decide))) (fun r_276 M_276 h_276 => ?_)
                          obtain ⟨-, rfl, hg_276, hB_276⟩ := h_276
                          replace hT := hT.n hg_276 (un0 hB_276)
                          clear hB_276 hg_276
                          refine z_if_lt (tgt := 286) g dL_isInOrder_279 (by decide) (fun h => absurd h (sm_find hV hj (frL_t (t := t) (by rw [hn]; rfl) 4 ht4))) (fun _ => ?_)
                          refine z_iconst (v := 1) g dL_isInOrder_282 (by decide) ?_
                          refine z_goto (tgt := 287) g dL_isInOrder_283 (by decide) ?_
                          refine z_istore_n g dL_isInOrder_287 (by rw [hN]; decide) ?_
                          refine z_iinc1 g dL_isInOrder_288 rfl (by rw [hN]; decide) ?_
                          refine z_goto (tgt := 198) g dL_isInOrder_291 (by decide) ?_
                          rw [nI_s]
                          exact z_to (z_wid (by omega) (by omega) (ih (u - 1) (by omega) (t + 1) _ (by omega) hT)) ⟨rfl, rfl, rfl, rfl, rfl, rfl, rfl, trivial⟩
                    · refine z_iload g dL_isInOrder_252 rfl ?_
                      refine z_if_le (tgt := 286) g dL_isInOrder_254 (by decide) (fun h => absurd h (nI_nle (hx2 t ht4 (fun z => c_249 ((lg_cmp_eq _ _).mpr z))) (by omega))) (fun _ => ?_)
                      refine z_lload g dL_isInOrder_257 rfl ?_
                      refine z_lconst (v := 0) g dL_isInOrder_259 (by decide) ?_
                      refine z_lcmp g dL_isInOrder_260 ?_
                      refine z_if_eq (tgt := 282) g dL_isInOrder_261 (by decide) (fun c_261 => ?_) (fun c_261 => ?_)
                      · refine z_iconst (v := 1) g dL_isInOrder_282 (by decide) ?_
                        refine z_goto (tgt := 287) g dL_isInOrder_283 (by decide) ?_
                        refine z_istore_n g dL_isInOrder_287 (by rw [hN]; decide) ?_
                        refine z_iinc1 g dL_isInOrder_288 rfl (by rw [hN]; decide) ?_
                        refine z_goto (tgt := 198) g dL_isInOrder_291 (by decide) ?_
                        rw [nI_s]
                        exact z_to (z_wid (by omega) (by omega) (ih (u - 1) (by omega) (t + 1) _ (by omega) hT)) ⟨rfl, rfl, rfl, rfl, rfl, rfl, rfl, trivial⟩
                      · refine z_iload g dL_isInOrder_264 rfl ?_
                        refine z_iconst (v := 1) g dL_isInOrder_266 (by decide) ?_
                        refine z_icmp_gt (tgt := 282) g dL_isInOrder_267 (by decide) (fun c_267 => ?_) (fun c_267 => ?_)
                        · refine z_iconst (v := 1) g dL_isInOrder_282 (by decide) ?_
                          refine z_goto (tgt := 287) g dL_isInOrder_283 (by decide) ?_
                          refine z_istore_n g dL_isInOrder_287 (by rw [hN]; decide) ?_
                          refine z_iinc1 g dL_isInOrder_288 rfl (by rw [hN]; decide) ?_
                          refine z_goto (tgt := 198) g dL_isInOrder_291 (by decide) ?_
                          rw [nI_s]
                          exact z_to (z_wid (by omega) (by omega) (ih (u - 1) (by omega) (t + 1) _ (by omega) hT)) ⟨rfl, rfl, rfl, rfl, rfl, rfl, rfl, trivial⟩
                        · refine z_aload_n g dL_isInOrder_270 rfl ?_
                          refine z_lload g dL_isInOrder_271 rfl ?_
                          refine z_iconst (v := 0) g dL_isInOrder_273 (by decide) ?_
                          refine z_iconst (v := 0) g dL_isInOrder_274 (by decide) ?_
                          refine z_iconst (v := 0) g dL_isInOrder_275 (by decide) ?_
                          have hwn : vForm S (nI k) (nI t) (nI n) (nI n) ≠ 0 := fun z => c_261 ((lg_cmp_eq _ _).mpr z)
                          have hc_276 : cFind S (vForm S (nI k) (nI t) (nI n) (nI n)) 0 0 0 = 0 := c_find0 (JW_isWd hw hwn)
                          obtain ⟨-, B_276, hB_276⟩ := id hT
                          refine z_callV g _ _ cv_L_42 (k_find _ _ hB_276 hV (vForm S (nI k) (nI t) (nI n) (nI n)) 0 0 0) hT.k (by decide) rfl (by rw [hR]; decide) (by rw [hR]; show _ ≤ 4160; omega) (by rw [hR]; show _ ≤ 130000; omega) (Nat.le_of_ble_eq_true rfl) rfl dL_isInOrder_276 (fun E9 M9 h9 => by obtain ⟨-, h9⟩ := h9; rcases h9 with h9 | h9 <;> (have e9 := h9.1; rw [hc_276] at e9; exact absurd e9 (by decide))) (fun r_276 M_276 h_276 => ?_)
                          obtain ⟨-, rfl, hg_276, hB_276⟩ := h_276
                          replace hT := hT.n hg_276 (un0 hB_276)
                          clear hB_276 hg_276
                          refine z_if_lt (tgt := 286) g dL_isInOrder_279 (by decide) (fun h => absurd h (sm_find hV hj (frL_t (t := t) (by rw [hn]; rfl) 4 ht4))) (fun _ => ?_)
                          refine z_iconst (v := 1) g dL_isInOrder_282 (by decide) ?_
                          refine z_goto (tgt := 287) g dL_isInOrder_283 (by decide) ?_
                          refine z_istore_n g dL_isInOrder_287 (by rw [hN]; decide) ?_
                          refine z_iinc1 g dL_isInOrder_288 rfl (by rw [hN]; decide) ?_
                          refine z_goto (tgt := 198) g dL_isInOrder_291 (by decide) ?_
                          rw [nI_s]
                          exact z_to (z_wid (by omega) (by omega) (ih (u - 1) (by omega) (t + 1) _ (by omega) hT)) ⟨rfl, rfl, rfl, rfl, rfl, rfl, rfl, trivial⟩
                  · refine z_lload g dL_isInOrder_238 rfl ?_
                    refine z_lconst (v := 0) g dL_isInOrder_240 (by decide) ?_
                    refine z_lcmp g dL_isInOrder_241 ?_
                    refine z_if_le (tgt := 286) g dL_isInOrder_242 (by decide) (fun h => absurd ((lg_cmp_le _ _).mp h) (Int64.not_le.mpr (JW_pos hw (hx1 t ((bit_t hxm ht4).mp c_235))))) (fun _ => ?_)
                    refine z_lload g dL_isInOrder_245 rfl ?_
                    refine z_lconst (v := 0) g dL_isInOrder_247 (by decide) ?_
                    refine z_lcmp g dL_isInOrder_248 ?_
                    refine z_if_eq (tgt := 257) g dL_isInOrder_249 (by decide) (fun c_249 => ?_) (fun c_249 => ?_)
                    · refine z_lload g dL_isInOrder_257 rfl ?_
                      refine z_lconst (v := 0) g dL_isInOrder_259 (by decide) ?_
                      refine z_lcmp g dL_isInOrder_260 ?_
                      refine z_if_eq (tgt := 282) g dL_isInOrder_261 (by decide) (fun c_261 => ?_) (fun c_261 => ?_)
                      · refine z_iconst (v := 1) g dL_isInOrder_282 (by decide) ?_
                        refine z_goto (tgt := 287) g dL_isInOrder_283 (by decide) ?_
                        refine z_istore_n g dL_isInOrder_287 (by rw [hN]; decide) ?_
                        refine z_iinc1 g dL_isInOrder_288 rfl (by rw [hN]; decide) ?_
                        refine z_goto (tgt := 198) g dL_isInOrder_291 (by decide) ?_
                        rw [nI_s]
                        exact z_to (z_wid (by omega) (by omega) (ih (u - 1) (by omega) (t + 1) _ (by omega) hT)) ⟨rfl, rfl, rfl, rfl, rfl, rfl, rfl, trivial⟩
                      · refine z_iload g dL_isInOrder_264 rfl ?_
                        refine z_iconst (v := 1) g dL_isInOrder_266 (by decide) ?_
                        refine z_icmp_gt (tgt := 282) g dL_isInOrder_267 (by decide) (fun c_267 => ?_) (fun c_267 => ?_)
                        · refine z_iconst (v := 1) g dL_isInOrder_282 (by decide) ?_
                          refine z_goto (tgt := 287) g dL_isInOrder_283 (by decide) ?_
                          refine z_istore_n g dL_isInOrder_287 (by rw [hN]; decide) ?_
                          refine z_iinc1 g dL_isInOrder_288 rfl (by rw [hN]; decide) ?_
                          refine z_goto (tgt := 198) g dL_isInOrder_291 (by decide) ?_
                          rw [nI_s]
                          exact z_to (z_wid (by omega) (by omega) (ih (u - 1) (by omega) (t + 1) _ (by omega) hT)) ⟨rfl, rfl, rfl, rfl, rfl, rfl, rfl, trivial⟩
                        · refine z_aload_n g dL_isInOrder_270 rfl ?_
                          refine z_lload g dL_isInOrder_271 rfl ?_
                          refine z_iconst (v := 0) g dL_isInOrder_273 (by decide) ?_
                          refine z_iconst (v := 0) g dL_isInOrder_274 (by decide) ?_
                          refine z_iconst (v := 0) g dL_isInOrder_275 (by decide) ?_
                          have hwn : vForm S (nI k) (nI t) (nI n) (nI n) ≠ 0 := fun z => c_261 ((lg_cmp_eq _ _).mpr z)
                          have hc_276 : cFind S (vForm S (nI k) (nI t) (nI n) (nI n)) 0 0 0 = 0 := c_find0 (JW_isWd hw hwn)
                          obtain ⟨-, B_276, hB_276⟩ := id hT
                          refine z_callV g _ _ cv_L_42 (k_find _ _ hB_276 hV (vForm S (nI k) (nI t) (nI n) (nI n)) 0 0 0) hT.k (by decide) rfl (by rw [hR]; decide) (by rw [hR]; show _ ≤ 4160; omega) (by rw [hR]; show _ ≤ 130000; omega) (Nat.le_of_ble_eq_true rfl) rfl dL_isInOrder_276 (fun E9 M9 h9 => by obtain ⟨-, h9⟩ := h9; rcases h9 with h9 | h9 <;> (have e9 := h9.1; rw [hc_276] at e9; exact absurd e9 (by decide))) (fun r_276 M_276 h_276 => ?_)
                          obtain ⟨-, rfl, hg_276, hB_276⟩ := h_276
                          replace hT := hT.n hg_276 (un0 hB_276)
                          clear hB_276 hg_276
                          refine z_if_lt (tgt := 286) g dL_isInOrder_279 (by decide) (fun h => absurd h (sm_find hV hj (frL_t (t := t) (by rw [hn]; rfl) 4 ht4))) (fun _ => ?_)
                          refine z_iconst (v := 1) g dL_isInOrder_282 (by decide) ?_
                          refine z_goto (tgt := 287) g dL_isInOrder_283 (by decide) ?_
                          refine z_istore_n g dL_isInOrder_287 (by rw [hN]; decide) ?_
                          refine z_iinc1 g dL_isInOrder_288 rfl (by rw [hN]; decide) ?_
                          refine z_goto (tgt := 198) g dL_isInOrder_291 (by decide) ?_
                          rw [nI_s]
                          exact z_to (z_wid (by omega) (by omega) (ih (u - 1) (by omega) (t + 1) _ (by omega) hT)) ⟨rfl, rfl, rfl, rfl, rfl, rfl, rfl, trivial⟩
                    · refine z_iload g dL_isInOrder_252 rfl ?_
                      refine z_if_le (tgt := 286) g dL_isInOrder_254 (by decide) (fun h => absurd h (nI_nle (hx2 t ht4 (fun z => c_249 ((lg_cmp_eq _ _).mpr z))) (by omega))) (fun _ => ?_)
                      refine z_lload g dL_isInOrder_257 rfl ?_
                      refine z_lconst (v := 0) g dL_isInOrder_259 (by decide) ?_
                      refine z_lcmp g dL_isInOrder_260 ?_
                      refine z_if_eq (tgt := 282) g dL_isInOrder_261 (by decide) (fun c_261 => ?_) (fun c_261 => ?_)
                      · refine z_iconst (v := 1) g dL_isInOrder_282 (by decide) ?_
                        refine z_goto (tgt := 287) g dL_isInOrder_283 (by decide) ?_
                        refine z_istore_n g dL_isInOrder_287 (by rw [hN]; decide) ?_
                        refine z_iinc1 g dL_isInOrder_288 rfl (by rw [hN]; decide) ?_
                        refine z_goto (tgt := 198) g dL_isInOrder_291 (by decide) ?_
                        rw [nI_s]
                        exact z_to (z_wid (by omega) (by omega) (ih (u - 1) (by omega) (t + 1) _ (by omega) hT)) ⟨rfl, rfl, rfl, rfl, rfl, rfl, rfl, trivial⟩
                      · refine z_iload g dL_isInOrder_264 rfl ?_
                        refine z_iconst (v := 1) g dL_isInOrder_266 (by decide) ?_
                        refine z_icmp_gt (tgt := 282) g dL_isInOrder_267 (by decide) (fun c_267 => ?_) (fun c_267 => ?_)
                        · refine z_iconst (v := 1) g dL_isInOrder_282 (by decide) ?_
                          refine z_goto (tgt := 287) g dL_isInOrder_283 (by decide) ?_
                          refine z_istore_n g dL_isInOrder_287 (by rw [hN]; decide) ?_
                          refine z_iinc1 g dL_isInOrder_288 rfl (by rw [hN]; decide) ?_
                          refine z_goto (tgt := 198) g dL_isInOrder_291 (by decide) ?_
                          rw [nI_s]
                          exact z_to (z_wid (by omega) (by omega) (ih (u - 1) (by omega) (t + 1) _ (by omega) hT)) ⟨rfl, rfl, rfl, rfl, rfl, rfl, rfl, trivial⟩
                        · refine z_aload_n g dL_isInOrder_270 rfl ?_
                          refine z_lload g dL_isInOrder_271 rfl ?_
                          refine z_iconst (v := 0) g dL_isInOrder_273 (by decide) ?_
                          refine z_iconst (v := 0) g dL_isInOrder_274 (by decide) ?_
                          refine z_iconst (v := 0) g dL_isInOrder_275 (by decide) ?_
                          have hwn : vForm S (nI k) (nI t) (nI n) (nI n) ≠ 0 := fun z => c_261 ((lg_cmp_eq _ _).mpr z)
                          have hc_276 : cFind S (vForm S (nI k) (nI t) (nI n) (nI n)) 0 0 0 = 0 := c_find0 (JW_isWd hw hwn)
                          obtain ⟨-, B_276, hB_276⟩ := id hT
                          refine z_callV g _ _ cv_L_42 (k_find _ _ hB_276 hV (vForm S (nI k) (nI t) (nI n) (nI n)) 0 0 0) hT.k (by decide) rfl (by rw [hR]; decide) (by rw [hR]; show _ ≤ 4160; omega) (by rw [hR]; show _ ≤ 130000; omega) (Nat.le_of_ble_eq_true rfl) rfl dL_isInOrder_276 (fun E9 M9 h9 => by obtain ⟨-, h9⟩ := h9; rcases h9 with h9 | h9 <;> (have e9 := h9.1; rw [hc_276] at e9; exact absurd e9 (by decide))) (fun r_276 M_276 h_276 => ?_)
                          obtain ⟨-, rfl, hg_276, hB_276⟩ := h_276
                          replace hT := hT.n hg_276 (un0 hB_276)
                          clear hB_276 hg_276
                          refine z_if_lt (tgt := 286) g dL_isInOrder_279 (by decide) (fun h => absurd h (sm_find hV hj (frL_t (t := t) (by rw [hn]; rfl) 4 ht4))) (fun _ => ?_)
                          refine z_iconst (v := 1) g dL_isInOrder_282 (by decide) ?_
                          refine z_goto (tgt := 287) g dL_isInOrder_283 (by decide) ?_
                          refine z_istore_n g dL_isInOrder_287 (by rw [hN]; decide) ?_
                          refine z_iinc1 g dL_isInOrder_288 rfl (by rw [hN]; decide) ?_
                          refine z_goto (tgt := 198) g dL_isInOrder_291 (by decide) ?_
                          rw [nI_s]
                          exact z_to (z_wid (by omega) (by omega) (ih (u - 1) (by omega) (t + 1) _ (by omega) hT)) ⟨rfl, rfl, rfl, rfl, rfl, rfl, rfl, trivial⟩
            exact z_to (z_wid (by omega) (by omega) (tong 4 0 _ rfl hT)) ⟨rfl, rfl, rfl, rfl, rfl, rfl, rfl, trivial⟩
  refine z_iconst (v := 1) g dL_isInOrder_0 (by decide) ?_
  refine z_istore_n g dL_isInOrder_1 (by rw [hN]; decide) ?_
  refine z_iconst (v := 0) g dL_isInOrder_2 (by decide) ?_
  refine z_istore g dL_isInOrder_3 (by rw [hN]; decide) ?_
  exact z_to (outer 8 0 _ rfl hT) ⟨rfl, rfl, rfl, rfl, rfl, trivial⟩
