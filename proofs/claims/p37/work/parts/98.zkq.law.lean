/-! ===== the law: its loops (printed by gen/mk_law.py) ===== -/
set_option maxHeartbeats 4000000 in
set_option maxRecDepth 100000 in
theorem law_loops {X : Cx} {b L x y : Nat} {xs : Nat → Int32} (g : Gd X cL_law RL) (hN : xN X = 10) (hR : xR X = room_1) (hL : L ≤ 260) (hSc : ScX X b L xs)
    (fin : ∀ M, Z X M 600000 7300000 393 [] [.int 1]) (S : Ms) (M : Mm) (hc2 : cn S 2 ≤ 0) (hT : TL2 x y S S M) (hI : LI x y S 0) : Z X M 62 1828 24 [(0, .ref b), (1, .ref x), (2, .ref y), (3, .int 1), (4, .int 0), (5, .int (nI 0))] [] := by
  have endd : ∀ (S : Ms) (n : Nat) (M : Mm) (hT : TL2 x y S S M) (hI : LI x y S n) (hn : n ≤ 3750), Z X M 202302 6321828 361 [(1, .ref x), (2, .ref y), (3, .int 1), (4, .int (nI n))] [] := by
    intro S n M hT hI hn
    refine z_iload_n g dL_law_361 rfl ?_
    refine z_if_eq (tgt := 392) g dL_law_362 (by decide) (fun h => absurd h (by decide)) (fun _ => ?_)
    refine z_aload_n g dL_law_365 rfl ?_
    refine z_aload_n g dL_law_366 rfl ?_
    refine z_iload g dL_law_367 rfl ?_
    refine z_bipush (v := 77) g dL_law_369 (by decide) ?_
    refine z_callS g _ _ cs_L_175 (c_alike _ M hT hI.1 _ _) rfl (by rw [hR]; decide) (by rw [hR]; show _ ≤ 600086; omega) (by rw [hR]; show _ ≤ 7301442; omega) (Nat.le_of_ble_eq_true rfl) rfl dL_law_371 (fun _ _ h => False.elim h) (fun r_371 M_1 h_371 => ?_)
    obtain ⟨rfl, hT⟩ := h_371
    refine z_if_eq (tgt := 392) g dL_law_374 (by decide) (fun h => absurd h (by decide)) (fun _ => ?_)
    refine z_aload_n g dL_law_377 rfl ?_
    refine z_iload g dL_law_378 rfl ?_
    refine z_bipush (v := 99) g dL_law_380 (by decide) ?_
    refine z_callS g _ _ cs_L_179 (c_order _ M_1 hT.1 hI.1 hI.2.1 n hI.2.2.1 hI.2.2.2 (by omega) _) rfl (by rw [hR]; decide) (by rw [hR]; show _ ≤ 600086; omega) (by rw [hR]; show _ ≤ 7301442; omega) (Nat.le_of_ble_eq_true rfl) rfl dL_law_382 (fun _ _ h => False.elim h) (fun r_382 M_2 h_382 => ?_)
    obtain ⟨rfl, -⟩ := h_382
    refine z_if_eq (tgt := 392) g dL_law_385 (by decide) (fun h => absurd h (by decide)) (fun _ => ?_)
    refine z_iconst (v := 1) g dL_law_388 (by decide) ?_
    refine z_goto (tgt := 393) g dL_law_389 (by decide) ?_
    exact z_to (z_wid (by omega) (by omega) (fin _)) trivial
  have loop2 : ∀ (m k : Nat) (S : Ms) (n : Nat) (M : Mm) (hm : m + k = 150) (hn : n ≤ 25 * k) (hT : TL2 x y S S M) (hI : LI x y S n), Z X M (382 + 64 * k + 3392 * (k / 10) + 8320 * ((k + 4) / 9)) (11828 + 2000 * k + 106000 * (k / 10) + 260000 * ((k + 4) / 9)) 140 [(0, .ref b), (1, .ref x), (2, .ref y), (3, .int 1), (4, .int (nI n)), (5, .int (nI k))] [] := by
    intro m
    induction m using Nat.strongRecOn with
    | _ m ih =>
      intro k S n M hm hn hT hI
      refine z_iload g dL_law_140 rfl ?_
      refine z_sipush (v := 150) g dL_law_142 (by decide) ?_
      refine z_icmp_ge (tgt := 361) g dL_law_145 (by decide) (fun c_145 => ?_) (fun c_145 => ?_)
      · have hk150 : k = 150 := by
          rw [show (150 : Int32) = nI 150 from rfl, nI_leI (by omega) (by omega)] at c_145; omega
        subst hk150
        exact z_to (z_wid (by omega) (by omega) (endd S n M hT hI (by omega))) ⟨rfl, rfl, rfl, rfl, trivial⟩
      · rw [show (150 : Int32) = nI 150 from rfl, nI_leI (by omega) (by omega)] at c_145
        have j309 : ∀ (d : Nat) (v : Int32) (S : Ms) (M : Mm) (hd : d ≤ 25) (hT : TL2 x y S S M) (hI : LI x y S (n + d)), Z X M (382 + 64 * (k + 1) + 3392 * ((k + 1) / 10) + 8320 * ((k + 4) / 9)) (11828 + 2000 * (k + 1) + 106000 * ((k + 1) / 10) + 260000 * ((k + 4) / 9)) 309 [(0, .ref b), (1, .ref x), (2, .ref y), (3, .int 1), (4, .int (nI (n + d))), (5, .int (nI k)), (6, .int v)] [.int 1] := by
          intro d v S M hd hT hI
          refine z_istore_n g dL_law_309 (by rw [hN]; decide) ?_
          refine z_iload g dL_law_310 rfl ?_
          refine z_bipush (v := 9) g dL_law_312 (by decide) ?_
          refine z_irem g dL_law_314 (by decide) ?_
          rw [show nI k - nI k / 9 * 9 = nI (k % 9) from pk_rem (by omega) (by decide) (by decide)]
          refine z_iconst (v := 4) g dL_law_315 (by decide) ?_
          refine z_icmp_ne (tgt := 355) g dL_law_316 (by decide) (fun c_316 => ?_) (fun c_316 => ?_)
          · refine z_iinc1 g dL_law_355 rfl (by rw [hN]; decide) ?_
            refine z_goto (tgt := 140) g dL_law_358 (by decide) ?_
            rw [nI_s]
            exact z_to (z_wid (by omega) (by omega) (ih (m - 1) (by omega) (k + 1) _ (n + d) _ (by omega) (by omega) hT hI)) ⟨rfl, rfl, rfl, rfl, rfl, rfl, trivial⟩
          · rw [show (4 : Int32) = nI 4 from rfl, nI_eq (by omega) (by decide)] at c_316
            refine z_iload_n g dL_law_319 rfl ?_
            refine z_if_eq (tgt := 353) g dL_law_320 (by decide) (fun h => absurd h (by decide)) (fun _ => ?_)
            refine z_aload_n g dL_law_323 rfl ?_
            refine z_iload g dL_law_324 rfl ?_
            refine z_iload g dL_law_326 rfl ?_
            refine z_iconst (v := 5) g dL_law_328 (by decide) ?_
            refine z_ishr g dL_law_329 ?_
            refine z_callS g _ _ cs_L_179 (c_order _ M hT.1 hI.1 hI.2.1 (n + d) hI.2.2.1 hI.2.2.2 (by omega) _) rfl (by rw [hR]; decide) (by rw [hR]; show _ ≤ 600086; omega) (by rw [hR]; show _ ≤ 7301442; omega) (Nat.le_of_ble_eq_true rfl) rfl dL_law_330 (fun _ _ h => False.elim h) (fun r_1 M_1 h_1 => ?_)
            obtain ⟨rfl, hg1, hB1⟩ := h_1
            obtain ⟨o1, o2, o3⟩ := ord_INV hI.1 hI.2.1
            have hI2 := hI.of o1 o2 o3
            replace hT := (hT.step hI.1 hg1 hB1).flip
            refine z_swp ?_
            refine z_if_eq (tgt := 353) g dL_law_333 (by decide) (fun h => absurd h (by decide)) (fun _ => ?_)
            refine z_aload_n g dL_law_336 rfl ?_
            refine z_iload g dL_law_337 rfl ?_
            refine z_iload g dL_law_339 rfl ?_
            refine z_iconst (v := 5) g dL_law_341 (by decide) ?_
            refine z_ishr g dL_law_342 ?_
            refine z_callS g _ _ cs_L_179 (c_order _ _ hT.1 hI.1 hI.2.1 (n + d) hI.2.2.1 hI.2.2.2 (by omega) _) rfl (by rw [hR]; decide) (by rw [hR]; show _ ≤ 600086; omega) (by rw [hR]; show _ ≤ 7301442; omega) (Nat.le_of_ble_eq_true rfl) rfl dL_law_343 (fun _ _ h => False.elim h) (fun r_2 M_2 h_2 => ?_)
            obtain ⟨rfl, hg2, hB2⟩ := h_2
            replace hT := (hT.step hI2.1 hg2 hB2).flip
            refine z_swp ?_
            refine z_if_eq (tgt := 353) g dL_law_346 (by decide) (fun h => absurd h (by decide)) (fun _ => ?_)
            refine z_iconst (v := 1) g dL_law_349 (by decide) ?_
            refine z_goto (tgt := 354) g dL_law_350 (by decide) ?_
            refine z_istore_n g dL_law_354 (by rw [hN]; decide) ?_
            refine z_iinc1 g dL_law_355 rfl (by rw [hN]; decide) ?_
            refine z_goto (tgt := 140) g dL_law_358 (by decide) ?_
            rw [nI_s]
            exact z_to (z_wid (by omega) (by omega) (ih (m - 1) (by omega) (k + 1) _ (n + d) _ (by omega) (by omega) hT hI2)) ⟨rfl, rfl, rfl, rfl, rfl, rfl, trivial⟩
        have j280 : ∀ (d : Nat) (v : Int32) (S : Ms) (M : Mm) (hd : d ≤ 25) (hT : TL2 x y S S M) (hI : LI x y S (n + d)), Z X M (382 + 64 * (k + 1) + 3392 * (k / 10) + 8320 * ((k + 4) / 9)) (11828 + 2000 * (k + 1) + 106000 * (k / 10) + 260000 * ((k + 4) / 9)) 280 [(0, .ref b), (1, .ref x), (2, .ref y), (3, .int 1), (4, .int (nI (n + d))), (5, .int (nI k)), (6, .int v)] [] := by
          intro d v S M hd hT hI
          refine z_iload g dL_law_280 rfl ?_
          refine z_bipush (v := 10) g dL_law_282 (by decide) ?_
          refine z_irem g dL_law_284 (by decide) ?_
          rw [show nI k - nI k / 10 * 10 = nI (k % 10) from pk_rem (by omega) (by decide) (by decide)]
          refine z_bipush (v := 9) g dL_law_285 (by decide) ?_
          refine z_icmp_ne (tgt := 304) g dL_law_287 (by decide) (fun c_287 => ?_) (fun c_287 => ?_)
          · refine z_iconst (v := 1) g dL_law_304 (by decide) ?_
            refine z_goto (tgt := 309) g dL_law_305 (by decide) ?_
            exact z_to (z_wid (by omega) (by omega) (j309 d v S _ hd hT hI)) ⟨rfl, rfl, rfl, rfl, rfl, rfl, rfl, trivial⟩
          · rw [show (9 : Int32) = nI 9 from rfl, nI_eq (by omega) (by decide)] at c_287
            refine z_aload_n g dL_law_290 rfl ?_
            refine z_aload_n g dL_law_291 rfl ?_
            refine z_iload g dL_law_292 rfl ?_
            refine z_iload g dL_law_294 rfl ?_
            refine z_iconst (v := 4) g dL_law_296 (by decide) ?_
            refine z_ishr g dL_law_297 ?_
            refine z_callS g _ _ cs_L_175 (c_alike _ M hT hI.1 _ _) rfl (by rw [hR]; decide) (by rw [hR]; show _ ≤ 600086; omega) (by rw [hR]; show _ ≤ 7301442; omega) (Nat.le_of_ble_eq_true rfl) rfl dL_law_298 (fun _ _ h => False.elim h) (fun r_1 M_1 h_1 => ?_)
            obtain ⟨rfl, hT⟩ := h_1
            refine z_if_eq (tgt := 308) g dL_law_301 (by decide) (fun h => absurd h (by decide)) (fun _ => ?_)
            refine z_iconst (v := 1) g dL_law_304 (by decide) ?_
            refine z_goto (tgt := 309) g dL_law_305 (by decide) ?_
            exact z_to (z_wid (by omega) (by omega) (j309 d v S _ hd hT hI)) ⟨rfl, rfl, rfl, rfl, rfl, rfl, rfl, trivial⟩
        have j242 : ∀ (d : Nat) (v : Int32) (S : Ms) (M : Mm) (hd : d ≤ 25) (hT : TL2 x y S S M) (hI : LI x y S (n + d)), Z X M (382 + 64 * k + 32 + 3392 * (k / 10) + 8320 * ((k + 4) / 9)) (11828 + 2000 * k + 1000 + 106000 * (k / 10) + 260000 * ((k + 4) / 9)) 242 [(0, .ref b), (1, .ref x), (2, .ref y), (3, .int 1), (4, .int (nI (n + d))), (5, .int (nI k)), (6, .int v)] [.int 1] := by
          intro d v S M hd hT hI
          refine z_istore_n g dL_law_242 (by rw [hN]; decide) ?_
          refine z_aload_n g dL_law_243 rfl ?_
          refine z_iload g dL_law_244 rfl ?_
          refine z_iload g dL_law_246 rfl ?_
          obtain ⟨⟨B1, hB1⟩, -⟩ := id hT
          refine z_callS g _ _ cs_L_171 (c_act _ _ hB1 hI.1 _ _) rfl (by rw [hR]; decide) (by rw [hR]; show _ ≤ 600086; omega) (by rw [hR]; show _ ≤ 7301442; omega) (Nat.le_of_ble_eq_true rfl) rfl dL_law_248 (fun _ _ h => False.elim h) (fun r_1 M_1 h_1 => ?_)
          obtain ⟨rfl, hg1, hB1⟩ := h_1
          obtain ⟨k1, k2, k3, k4⟩ := ok_act hI.1 hI.2.1 (nI (n + d)) v
          have hI2 := hI.of k1 k2 k3
          have hT1 := hT.step hI.1 hg1 hB1
          generalize hq : actF (nI (n + d)) v S = q at k1 k2 k3 k4 hI2 hT1 ⊢
          refine z_lstore g dL_law_251 (by rw [hN]; decide) ?_
          refine z_iload_n g dL_law_253 rfl ?_
          refine z_if_eq (tgt := 308) g dL_law_254 (by decide) (fun h => absurd h (by decide)) (fun _ => ?_)
          refine z_lload g dL_law_257 rfl ?_
          refine z_ldc2 g dL_law_259 kc_L_68 ?_
          refine z_lcmp g dL_law_262 ?_
          refine z_if_eq (tgt := 280) g dL_law_263 (by decide) (fun c_263 => ?_) (fun c_263 => ?_)
          · have e2 := k4 ((lg_cmp_eq _ _).mp c_263)
            have hT2 : TL2 x y q.2 q.2 M_1 := by rw [e2] at hT1 ⊢; exact hT1
            exact z_to (z_wid (by omega) (by omega) (j280 d v q.2 _ hd hT2 hI2)) ⟨rfl, rfl, rfl, rfl, rfl, rfl, rfl, trivial⟩
          · refine z_aload_n g dL_law_266 rfl ?_
            refine z_iload g dL_law_267 rfl ?_
            refine z_iload g dL_law_269 rfl ?_
            have hT3 := hT1.flip
            refine z_swp ?_
            obtain ⟨⟨B2, hB2⟩, -⟩ := id hT3
            refine z_callS g _ _ cs_L_171 (c_act _ _ hB2 hI.1 (nI (n + d)) v) rfl (by rw [hR]; decide) (by rw [hR]; show _ ≤ 600086; omega) (by rw [hR]; show _ ≤ 7301442; omega) (Nat.le_of_ble_eq_true rfl) rfl dL_law_271 (fun _ _ h => False.elim h) (fun r_2 M_2 h_2 => ?_)
            obtain ⟨rfl, hg2, hB2⟩ := h_2
            rw [hq] at hB2
            have hT4 := (hT3.step k1 hg2 hB2).flip
            refine z_swp ?_
            rw [hq]
            refine z_lload g dL_law_274 rfl ?_
            refine z_lcmp g dL_law_276 ?_
            refine z_if_ne (tgt := 308) g dL_law_277 (by decide) (fun h => absurd ((lg_cmp_eq _ _).mpr rfl) h) (fun _ => ?_)
            exact z_to (z_wid (by omega) (by omega) (j280 d v q.2 _ hd hT4 hI2)) ⟨rfl, rfl, rfl, rfl, rfl, rfl, rfl, trivial⟩
        have j201 : ∀ (d : Nat) (v : Int32) (hd : d ≤ 25), Z X M (382 + 64 * k + 3392 * (k / 10) + 8320 * ((k + 4) / 9)) (11828 + 2000 * k + 106000 * (k / 10) + 260000 * ((k + 4) / 9)) 201 [(0, .ref b), (1, .ref x), (2, .ref y), (3, .int 1), (4, .int (nI n)), (5, .int (nI k)), (6, .int v)] [.int (nI d)] := by
          intro d v hd
          refine z_istore g dL_law_201 (by rw [hN]; decide) ?_
          refine z_iload g dL_law_203 rfl ?_
          refine z_iload g dL_law_205 rfl ?_
          refine z_iadd g dL_law_207 ?_
          rw [nI_add]
          refine z_istore g dL_law_208 (by rw [hN]; decide) ?_
          refine z_iload g dL_law_210 rfl ?_
          refine z_if_eq (tgt := 237) g dL_law_212 (by decide) (fun c_212 => ?_) (fun c_212 => ?_)
          · have hd0 : d = 0 := by
              rw [show (0 : Int32) = nI 0 from rfl, nI_eq (by omega) (by decide)] at c_212; exact c_212
            subst hd0
            refine z_iconst (v := 1) g dL_law_237 (by decide) ?_
            refine z_goto (tgt := 242) g dL_law_238 (by decide) ?_
            exact z_to (z_wid (by omega) (by omega) (j242 0 v S M (by omega) hT hI)) ⟨rfl, rfl, rfl, rfl, rfl, rfl, rfl, trivial⟩
          · have hd1 : 1 ≤ d := by
              rcases Nat.eq_zero_or_pos d with z | z
              · subst z; exact absurd rfl c_212
              · exact z
            refine z_aload_n g dL_law_215 rfl ?_
            refine z_iload g dL_law_216 rfl ?_
            have hc0 : cPass S (nI d) = 0 := c_pass0 hI.2.2.1 (by omega) hd1 (by omega)
            obtain ⟨hI2, evp⟩ := hI.pass (by omega) hd1 (show d ≤ 400 by omega)
            obtain ⟨⟨B1, hB1⟩, -⟩ := id hT
            refine z_callV g _ _ cv_L_63 (k_pass _ _ hB1 hI.1 (nI d)) hT.k (by decide) rfl (by rw [hR]; decide) (by rw [hR]; show _ ≤ 600086; omega) (by rw [hR]; show _ ≤ 7301442; omega) (Nat.le_of_ble_eq_true rfl) rfl dL_law_218 (fun E9 M9 h9 => by obtain ⟨-, h9⟩ := h9; rcases h9 with h9 | h9 <;> (have e9 := h9.1; rw [hc0] at e9; exact absurd e9 (by decide))) (fun r_1 M_1 h_1 => ?_)
            obtain ⟨-, rfl, hg1, hB1⟩ := h_1
            replace hT := (hT.step hI.1 hg1 hB1).flip
            refine z_swp ?_
            rw [evp]
            refine z_iload g dL_law_221 rfl ?_
            refine z_icmp_ne (tgt := 241) g dL_law_223 (by decide) (fun h => absurd rfl h) (fun _ => ?_)
            refine z_aload_n g dL_law_226 rfl ?_
            refine z_iload g dL_law_227 rfl ?_
            obtain ⟨⟨B2, hB2⟩, -⟩ := id hT
            refine z_callV g _ _ cv_L_63 (k_pass _ _ hB2 hI.1 (nI d)) hT.k (by decide) rfl (by rw [hR]; decide) (by rw [hR]; show _ ≤ 600086; omega) (by rw [hR]; show _ ≤ 7301442; omega) (Nat.le_of_ble_eq_true rfl) rfl dL_law_229 (fun E9 M9 h9 => by obtain ⟨-, h9⟩ := h9; rcases h9 with h9 | h9 <;> (have e9 := h9.1; rw [hc0] at e9; exact absurd e9 (by decide))) (fun r_2 M_2 h_2 => ?_)
            obtain ⟨-, rfl, hg2, hB2⟩ := h_2
            replace hT := (hT.step hI2.1 hg2 hB2).flip
            refine z_swp ?_
            rw [evp]
            refine z_iload g dL_law_232 rfl ?_
            refine z_icmp_ne (tgt := 241) g dL_law_234 (by decide) (fun h => absurd rfl h) (fun _ => ?_)
            refine z_iconst (v := 1) g dL_law_237 (by decide) ?_
            refine z_goto (tgt := 242) g dL_law_238 (by decide) ?_
            exact z_to (z_wid (by omega) (by omega) (j242 d v _ _ hd hT hI2)) ⟨rfl, rfl, rfl, rfl, rfl, rfl, rfl, trivial⟩
        refine z_iload_n g dL_law_148 rfl ?_
        refine z_if_eq (tgt := 361) g dL_law_149 (by decide) (fun h => absurd h (by decide)) (fun _ => ?_)
        refine z_aload_n g dL_law_152 rfl ?_
        refine z_iload g dL_law_153 rfl ?_
        refine z_bipush (v := 61) g dL_law_155 (by decide) ?_
        refine z_irem g dL_law_157 (by decide) ?_
        rw [show nI k - nI k / 61 * 61 = nI (k % 61) from pk_rem (by omega) (by decide) (by decide)]
        refine z_callSS g _ _ cs_L_167 hSc (c_cell _ hL M (k % 61) (by omega)) rfl (by rw [hR]; decide) (by rw [hR]; show _ ≤ 600086; omega) (by rw [hR]; show _ ≤ 7301442; omega) (Nat.le_of_ble_eq_true rfl) rfl dL_law_158 (fun _ _ h => False.elim h) (fun r_158 M_158 h_158 => ?_)
        obtain ⟨rfl, rfl⟩ := h_158
        refine z_sipush (v := 1709) g dL_law_161 (by decide) ?_
        refine z_iload g dL_law_164 rfl ?_
        refine z_bipush (v := 61) g dL_law_166 (by decide) ?_
        refine z_idiv g dL_law_168 (by decide) ?_
        refine z_imul g dL_law_169 ?_
        refine z_iadd g dL_law_170 ?_
        refine z_istore g dL_law_171 (by rw [hN]; decide) ?_
        refine z_iload g dL_law_173 rfl ?_
        refine z_bipush (v := 64) g dL_law_175 (by decide) ?_
        refine z_callS g _ _ cs_L_140 (c_low _ _ _ _ (by decide)) rfl (by rw [hR]; decide) (by rw [hR]; show _ ≤ 600086; omega) (by rw [hR]; show _ ≤ 7301442; omega) (Nat.le_of_ble_eq_true rfl) rfl dL_law_177 (fun _ _ h => False.elim h) (fun r_177 M_177 h_177 => ?_)
        obtain ⟨rfl, rfl⟩ := h_177
        refine z_bipush (v := 59) g dL_law_180 (by decide) ?_
        refine z_icmp_le (tgt := 200) g dL_law_182 (by decide) (fun _ => ?_) (fun _ => ?_)
        · refine z_iconst (v := 0) g dL_law_200 (by decide) ?_
          exact z_to (j201 0 _ (by omega)) ⟨rfl, rfl, rfl, rfl, rfl, rfl, rfl, trivial⟩
        · refine z_iconst (v := 1) g dL_law_185 (by decide) ?_
          refine z_iload g dL_law_186 rfl ?_
          refine z_bipush (v := 6) g dL_law_188 (by decide) ?_
          refine z_ishr g dL_law_190 ?_
          refine z_bipush (v := 25) g dL_law_191 (by decide) ?_
          refine z_callS g _ _ cs_L_140 (c_low _ _ _ _ (by decide)) rfl (by rw [hR]; decide) (by rw [hR]; show _ ≤ 600086; omega) (by rw [hR]; show _ ≤ 7301442; omega) (Nat.le_of_ble_eq_true rfl) rfl dL_law_193 (fun _ _ h => False.elim h) (fun r_193 M_193 h_193 => ?_)
          obtain ⟨rfl, rfl⟩ := h_193
          refine z_iadd g dL_law_196 ?_
          refine z_goto (tgt := 201) g dL_law_197 (by decide) ?_
          obtain ⟨dd, hdd, edd⟩ := low_ex _ (n := 25) (by decide) (by decide)
          rw [show (25 : Int32) = nI 25 from rfl, edd, show (1 : Int32) = nI 1 from rfl, nI_add]
          exact z_to (j201 (1 + dd) _ (by omega)) ⟨rfl, rfl, rfl, rfl, rfl, rfl, rfl, trivial⟩
  have loop1 : ∀ (m k : Nat) (S : Ms) (M : Mm) (hm : m + k = 5) (hc2 : cn S 2 ≤ k) (hT : TL2 x y S S M) (hI : LI x y S 0), Z X M (62 + 64 * k) (1828 + 2000 * k) 24 [(0, .ref b), (1, .ref x), (2, .ref y), (3, .int 1), (4, .int 0), (5, .int (nI k))] [] := by
    intro m
    induction m using Nat.strongRecOn with
    | _ m ih =>
      intro k S M hm hc2 hT hI
      refine z_iload g dL_law_24 rfl ?_
      refine z_iconst (v := 5) g dL_law_26 (by decide) ?_
      refine z_icmp_ge (tgt := 137) g dL_law_27 (by decide) (fun c_27 => ?_) (fun c_27 => ?_)
      · refine z_iconst (v := 0) g dL_law_137 (by decide) ?_
        refine z_istore g dL_law_138 (by rw [hN]; decide) ?_
        have hk5 : k = 5 := by
          rw [show (5 : Int32) = nI 5 from rfl, nI_leI (by omega) (by omega)] at c_27; omega
        subst hk5
        exact z_to (z_wid (by omega) (by omega) (loop2 150 0 S 0 M rfl (Nat.le_refl _) hT hI)) ⟨rfl, rfl, rfl, rfl, rfl, rfl, trivial⟩
      · rw [show (5 : Int32) = nI 5 from rfl, nI_leI (by omega) (by omega)] at c_27
        by_cases hk3 : k < 3
        · refine z_iload_n g dL_law_30 rfl ?_
          refine z_if_eq (tgt := 137) g dL_law_31 (by decide) (fun h => absurd h (by decide)) (fun _ => ?_)
          refine z_aload_n g dL_law_34 rfl ?_
          refine z_iload g dL_law_35 rfl ?_
          refine z_callSS g _ _ cs_L_167 hSc (c_cell _ hL M k (by omega)) rfl (by rw [hR]; decide) (by rw [hR]; show _ ≤ 600086; omega) (by rw [hR]; show _ ≤ 7301442; omega) (Nat.le_of_ble_eq_true rfl) rfl dL_law_37 (fun _ _ h => False.elim h) (fun r_37 M_37 h_37 => ?_)
          obtain ⟨rfl, rfl⟩ := h_37
          refine z_iconst (v := 3) g dL_law_40 (by decide) ?_
          refine z_ishr g dL_law_41 ?_
          refine z_istore g dL_law_42 (by rw [hN]; decide) ?_
          refine z_aload_n g dL_law_44 rfl ?_
          refine z_iload g dL_law_45 rfl ?_
          refine z_iconst (v := 3) g dL_law_47 (by decide) ?_
          refine z_icmp_ge (tgt := 55) g dL_law_48 (by decide) (fun h => by rw [show (3 : Int32) = nI 3 from rfl, nI_leI (by omega) (by omega)] at h; omega) (fun _ => ?_)
          refine z_iconst (v := 5) g dL_law_51 (by decide) ?_
          refine z_goto (tgt := 56) g dL_law_52 (by decide) ?_
          refine z_iload g dL_law_56 rfl ?_
          refine z_bipush (v := 9) g dL_law_58 (by decide) ?_
          refine z_iload g dL_law_60 rfl ?_
          refine z_imul g dL_law_62 ?_
          rw [show (9 : Int32) * nI k = nI (9 * k) from pk_mul 9 k]
          have hc0 : cFeature S 5 (nI k) (nI (9 * k)) = 0 := c_feature0 hI.1 (by omega) hc2 true
          have hI2 : LI x y (sFeature S 5 (nI k) (nI (9 * k))) 0 := hI.of (I_Feature hI.1 hc0) (J_Feature hI.1 hI.2.1 hc0) rfl
          obtain ⟨⟨B1, hB1⟩, -⟩ := id hT
          refine z_callV g _ _ cv_L_88 (k_feature _ _ hB1 hI.1 5 (nI k) (nI (9 * k))) hT.k (by decide) rfl (by rw [hR]; decide) (by rw [hR]; show _ ≤ 600086; omega) (by rw [hR]; show _ ≤ 7301442; omega) (Nat.le_of_ble_eq_true rfl) rfl dL_law_63 (fun E9 M9 h9 => by obtain ⟨-, h9⟩ := h9; rcases h9 with h9 | h9 <;> (have e9 := h9.1; rw [hc0] at e9; exact absurd e9 (by decide))) (fun r_1 M_1 h_1 => ?_)
          obtain ⟨-, rfl, hg1, hB1⟩ := h_1
          replace hT := (hT.step hI.1 hg1 hB1).flip
          refine z_swp ?_
          refine z_aload_n g dL_law_66 rfl ?_
          refine z_iload g dL_law_67 rfl ?_
          refine z_iconst (v := 3) g dL_law_69 (by decide) ?_
          refine z_icmp_ge (tgt := 77) g dL_law_70 (by decide) (fun h => by rw [show (3 : Int32) = nI 3 from rfl, nI_leI (by omega) (by omega)] at h; omega) (fun _ => ?_)
          refine z_iconst (v := 5) g dL_law_73 (by decide) ?_
          refine z_goto (tgt := 78) g dL_law_74 (by decide) ?_
          refine z_iload g dL_law_78 rfl ?_
          refine z_bipush (v := 9) g dL_law_80 (by decide) ?_
          refine z_iload g dL_law_82 rfl ?_
          refine z_imul g dL_law_84 ?_
          rw [show (9 : Int32) * nI k = nI (9 * k) from pk_mul 9 k]
          obtain ⟨⟨B2, hB2⟩, -⟩ := id hT
          refine z_callV g _ _ cv_L_88 (k_feature _ _ hB2 hI.1 5 (nI k) (nI (9 * k))) hT.k (by decide) rfl (by rw [hR]; decide) (by rw [hR]; show _ ≤ 600086; omega) (by rw [hR]; show _ ≤ 7301442; omega) (Nat.le_of_ble_eq_true rfl) rfl dL_law_85 (fun E9 M9 h9 => by obtain ⟨-, h9⟩ := h9; rcases h9 with h9 | h9 <;> (have e9 := h9.1; rw [hc0] at e9; exact absurd e9 (by decide))) (fun r_2 M_2 h_2 => ?_)
          obtain ⟨-, rfl, hg2, hB2⟩ := h_2
          replace hT := (hT.step hI2.1 hg2 hB2).flip
          refine z_swp ?_
          clear hB1 hB2 hg1 hg2
          refine z_icmp_ne (tgt := 129) g dL_law_88 (by decide) (fun h => absurd rfl h) (fun _ => ?_)
          refine z_aload_n g dL_law_91 rfl ?_
          refine z_iconst (v := 5) g dL_law_92 (by decide) ?_
          refine z_iload g dL_law_93 rfl ?_
          refine z_iconst (v := 0) g dL_law_95 (by decide) ?_
          refine z_iconst (v := 0) g dL_law_96 (by decide) ?_
          refine z_iload g dL_law_97 rfl ?_
          refine z_iconst (v := 0) g dL_law_99 (by decide) ?_
          refine z_callS g _ _ cs_L_148 (c_word0 _ _ _) rfl (by rw [hR]; decide) (by rw [hR]; show _ ≤ 600086; omega) (by rw [hR]; show _ ≤ 7301442; omega) (Nat.le_of_ble_eq_true rfl) rfl dL_law_100 (fun _ _ h => False.elim h) (fun r_100 M_100 h_100 => ?_)
          obtain ⟨rfl, rfl⟩ := h_100
          obtain ⟨⟨B3, hB3⟩, -⟩ := id hT
          refine z_callSH g _ _ csh_L_does (e_name _ _ hB3 hI2.1 _ _ _ _) rfl (by rw [hR]; decide) (by rw [hR]; show _ ≤ 600086; omega) (by rw [hR]; show _ ≤ 7301442; omega) (Nat.le_of_ble_eq_true rfl) rfl dL_law_103 (fun _ _ h => False.elim h) (fun r_3 M_3 h_3 => ?_)
          obtain ⟨rfl, hg3, hB3⟩ := h_3
          obtain ⟨k1, k2, k3, -⟩ := ok_name hI2.1 hI2.2.1 (nI k) 0 0 (wordA (cellA L xs k >>> (3 &&& 31)) false)
          have hI3 := hI2.of k1 k2 k3
          replace hT := (hT.step hI2.1 hg3 hB3).flip
          refine z_swp ?_
          refine z_aload_n g dL_law_106 rfl ?_
          refine z_iconst (v := 5) g dL_law_107 (by decide) ?_
          refine z_iload g dL_law_108 rfl ?_
          refine z_iconst (v := 0) g dL_law_110 (by decide) ?_
          refine z_iconst (v := 0) g dL_law_111 (by decide) ?_
          refine z_iload g dL_law_112 rfl ?_
          refine z_iconst (v := 0) g dL_law_114 (by decide) ?_
          refine z_callS g _ _ cs_L_148 (c_word0 _ _ _) rfl (by rw [hR]; decide) (by rw [hR]; show _ ≤ 600086; omega) (by rw [hR]; show _ ≤ 7301442; omega) (Nat.le_of_ble_eq_true rfl) rfl dL_law_115 (fun _ _ h => False.elim h) (fun r_115 M_115 h_115 => ?_)
          obtain ⟨rfl, rfl⟩ := h_115
          obtain ⟨⟨B4, hB4⟩, -⟩ := id hT
          refine z_callSH g _ _ csh_L_does (e_name _ _ hB4 hI2.1 _ _ _ _) rfl (by rw [hR]; decide) (by rw [hR]; show _ ≤ 600086; omega) (by rw [hR]; show _ ≤ 7301442; omega) (Nat.le_of_ble_eq_true rfl) rfl dL_law_118 (fun _ _ h => False.elim h) (fun r_4 M_4 h_4 => ?_)
          obtain ⟨rfl, hg4, hB4⟩ := h_4
          replace hT := (hT.step k1 hg4 hB4).flip
          refine z_swp ?_
          refine z_lcmp g dL_law_121 ?_
          refine z_if_ne (tgt := 129) g dL_law_122 (by decide) (fun h => absurd ((lg_cmp_eq _ _).mpr rfl) h) (fun _ => ?_)
          refine z_iconst (v := 1) g dL_law_125 (by decide) ?_
          refine z_goto (tgt := 130) g dL_law_126 (by decide) ?_
          refine z_istore_n g dL_law_130 (by rw [hN]; decide) ?_
          refine z_iinc1 g dL_law_131 rfl (by rw [hN]; decide) ?_
          refine z_goto (tgt := 24) g dL_law_134 (by decide) ?_
          rw [nI_s]
          exact z_to (z_wid (by omega) (by omega) (ih (m - 1) (by omega) (k + 1) _ _ (by omega) (by rw [cn_gname, cn_feature hI.1]; omega) hT hI3)) ⟨rfl, rfl, rfl, rfl, rfl, rfl, trivial⟩
        · refine z_iload_n g dL_law_30 rfl ?_
          refine z_if_eq (tgt := 137) g dL_law_31 (by decide) (fun h => absurd h (by decide)) (fun _ => ?_)
          refine z_aload_n g dL_law_34 rfl ?_
          refine z_iload g dL_law_35 rfl ?_
          refine z_callSS g _ _ cs_L_167 hSc (c_cell _ hL M k (by omega)) rfl (by rw [hR]; decide) (by rw [hR]; show _ ≤ 600086; omega) (by rw [hR]; show _ ≤ 7301442; omega) (Nat.le_of_ble_eq_true rfl) rfl dL_law_37 (fun _ _ h => False.elim h) (fun r_37 M_37 h_37 => ?_)
          obtain ⟨rfl, rfl⟩ := h_37
          refine z_iconst (v := 3) g dL_law_40 (by decide) ?_
          refine z_ishr g dL_law_41 ?_
          refine z_istore g dL_law_42 (by rw [hN]; decide) ?_
          refine z_aload_n g dL_law_44 rfl ?_
          refine z_iload g dL_law_45 rfl ?_
          refine z_iconst (v := 3) g dL_law_47 (by decide) ?_
          refine z_icmp_ge (tgt := 55) g dL_law_48 (by decide) (fun _ => ?_) (fun h => by rw [show (3 : Int32) = nI 3 from rfl, nI_leI (by omega) (by omega)] at h; omega)
          refine z_iconst (v := 1) g dL_law_55 (by decide) ?_
          refine z_iload g dL_law_56 rfl ?_
          refine z_bipush (v := 9) g dL_law_58 (by decide) ?_
          refine z_iload g dL_law_60 rfl ?_
          refine z_imul g dL_law_62 ?_
          rw [show (9 : Int32) * nI k = nI (9 * k) from pk_mul 9 k]
          have hc0 : cFeature S 1 (nI k) (nI (9 * k)) = 0 := c_feature0 hI.1 (by omega) hc2 false
          have hI2 : LI x y (sFeature S 1 (nI k) (nI (9 * k))) 0 := hI.of (I_Feature hI.1 hc0) (J_Feature hI.1 hI.2.1 hc0) rfl
          obtain ⟨⟨B1, hB1⟩, -⟩ := id hT
          refine z_callV g _ _ cv_L_88 (k_feature _ _ hB1 hI.1 1 (nI k) (nI (9 * k))) hT.k (by decide) rfl (by rw [hR]; decide) (by rw [hR]; show _ ≤ 600086; omega) (by rw [hR]; show _ ≤ 7301442; omega) (Nat.le_of_ble_eq_true rfl) rfl dL_law_63 (fun E9 M9 h9 => by obtain ⟨-, h9⟩ := h9; rcases h9 with h9 | h9 <;> (have e9 := h9.1; rw [hc0] at e9; exact absurd e9 (by decide))) (fun r_1 M_1 h_1 => ?_)
          obtain ⟨-, rfl, hg1, hB1⟩ := h_1
          replace hT := (hT.step hI.1 hg1 hB1).flip
          refine z_swp ?_
          refine z_aload_n g dL_law_66 rfl ?_
          refine z_iload g dL_law_67 rfl ?_
          refine z_iconst (v := 3) g dL_law_69 (by decide) ?_
          refine z_icmp_ge (tgt := 77) g dL_law_70 (by decide) (fun _ => ?_) (fun h => by rw [show (3 : Int32) = nI 3 from rfl, nI_leI (by omega) (by omega)] at h; omega)
          refine z_iconst (v := 1) g dL_law_77 (by decide) ?_
          refine z_iload g dL_law_78 rfl ?_
          refine z_bipush (v := 9) g dL_law_80 (by decide) ?_
          refine z_iload g dL_law_82 rfl ?_
          refine z_imul g dL_law_84 ?_
          rw [show (9 : Int32) * nI k = nI (9 * k) from pk_mul 9 k]
          obtain ⟨⟨B2, hB2⟩, -⟩ := id hT
          refine z_callV g _ _ cv_L_88 (k_feature _ _ hB2 hI.1 1 (nI k) (nI (9 * k))) hT.k (by decide) rfl (by rw [hR]; decide) (by rw [hR]; show _ ≤ 600086; omega) (by rw [hR]; show _ ≤ 7301442; omega) (Nat.le_of_ble_eq_true rfl) rfl dL_law_85 (fun E9 M9 h9 => by obtain ⟨-, h9⟩ := h9; rcases h9 with h9 | h9 <;> (have e9 := h9.1; rw [hc0] at e9; exact absurd e9 (by decide))) (fun r_2 M_2 h_2 => ?_)
          obtain ⟨-, rfl, hg2, hB2⟩ := h_2
          replace hT := (hT.step hI2.1 hg2 hB2).flip
          refine z_swp ?_
          clear hB1 hB2 hg1 hg2
          refine z_icmp_ne (tgt := 129) g dL_law_88 (by decide) (fun h => absurd rfl h) (fun _ => ?_)
          refine z_aload_n g dL_law_91 rfl ?_
          refine z_iconst (v := 5) g dL_law_92 (by decide) ?_
          refine z_iload g dL_law_93 rfl ?_
          refine z_iconst (v := 0) g dL_law_95 (by decide) ?_
          refine z_iconst (v := 0) g dL_law_96 (by decide) ?_
          refine z_iload g dL_law_97 rfl ?_
          refine z_iconst (v := 0) g dL_law_99 (by decide) ?_
          refine z_callS g _ _ cs_L_148 (c_word0 _ _ _) rfl (by rw [hR]; decide) (by rw [hR]; show _ ≤ 600086; omega) (by rw [hR]; show _ ≤ 7301442; omega) (Nat.le_of_ble_eq_true rfl) rfl dL_law_100 (fun _ _ h => False.elim h) (fun r_100 M_100 h_100 => ?_)
          obtain ⟨rfl, rfl⟩ := h_100
          obtain ⟨⟨B3, hB3⟩, -⟩ := id hT
          refine z_callSH g _ _ csh_L_does (e_name _ _ hB3 hI2.1 _ _ _ _) rfl (by rw [hR]; decide) (by rw [hR]; show _ ≤ 600086; omega) (by rw [hR]; show _ ≤ 7301442; omega) (Nat.le_of_ble_eq_true rfl) rfl dL_law_103 (fun _ _ h => False.elim h) (fun r_3 M_3 h_3 => ?_)
          obtain ⟨rfl, hg3, hB3⟩ := h_3
          obtain ⟨k1, k2, k3, -⟩ := ok_name hI2.1 hI2.2.1 (nI k) 0 0 (wordA (cellA L xs k >>> (3 &&& 31)) false)
          have hI3 := hI2.of k1 k2 k3
          replace hT := (hT.step hI2.1 hg3 hB3).flip
          refine z_swp ?_
          refine z_aload_n g dL_law_106 rfl ?_
          refine z_iconst (v := 5) g dL_law_107 (by decide) ?_
          refine z_iload g dL_law_108 rfl ?_
          refine z_iconst (v := 0) g dL_law_110 (by decide) ?_
          refine z_iconst (v := 0) g dL_law_111 (by decide) ?_
          refine z_iload g dL_law_112 rfl ?_
          refine z_iconst (v := 0) g dL_law_114 (by decide) ?_
          refine z_callS g _ _ cs_L_148 (c_word0 _ _ _) rfl (by rw [hR]; decide) (by rw [hR]; show _ ≤ 600086; omega) (by rw [hR]; show _ ≤ 7301442; omega) (Nat.le_of_ble_eq_true rfl) rfl dL_law_115 (fun _ _ h => False.elim h) (fun r_115 M_115 h_115 => ?_)
          obtain ⟨rfl, rfl⟩ := h_115
          obtain ⟨⟨B4, hB4⟩, -⟩ := id hT
          refine z_callSH g _ _ csh_L_does (e_name _ _ hB4 hI2.1 _ _ _ _) rfl (by rw [hR]; decide) (by rw [hR]; show _ ≤ 600086; omega) (by rw [hR]; show _ ≤ 7301442; omega) (Nat.le_of_ble_eq_true rfl) rfl dL_law_118 (fun _ _ h => False.elim h) (fun r_4 M_4 h_4 => ?_)
          obtain ⟨rfl, hg4, hB4⟩ := h_4
          replace hT := (hT.step k1 hg4 hB4).flip
          refine z_swp ?_
          refine z_lcmp g dL_law_121 ?_
          refine z_if_ne (tgt := 129) g dL_law_122 (by decide) (fun h => absurd ((lg_cmp_eq _ _).mpr rfl) h) (fun _ => ?_)
          refine z_iconst (v := 1) g dL_law_125 (by decide) ?_
          refine z_goto (tgt := 130) g dL_law_126 (by decide) ?_
          refine z_istore_n g dL_law_130 (by rw [hN]; decide) ?_
          refine z_iinc1 g dL_law_131 rfl (by rw [hN]; decide) ?_
          refine z_goto (tgt := 24) g dL_law_134 (by decide) ?_
          rw [nI_s]
          exact z_to (z_wid (by omega) (by omega) (ih (m - 1) (by omega) (k + 1) _ _ (by omega) (by rw [cn_gname, cn_feature hI.1]; omega) hT hI3)) ⟨rfl, rfl, rfl, rfl, rfl, rfl, trivial⟩
  exact loop1 5 0 S M rfl hc2 hT hI
