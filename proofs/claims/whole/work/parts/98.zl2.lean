/-! ===== the law: its loop, its start (printed by gen/mk_ws2.py) ===== -/
theorem nI_l6 (a : Nat) : nI a + 6 = nI (a + 6) := nI_add a 6
theorem law_end {L i : Nat} (hL : L ≤ 3072) (hi : i ≤ 3072) (h : ¬ nI L - 6 < nI (6 * i)) : 6 * i + 6 ≤ L := by
  by_cases c : 6 ≤ L
  · rw [show (6 : Int32) = nI 6 from rfl, nI_subN c, nI_ltI (by omega) (by omega)] at h
    omega
  · exfalso
    apply h
    have key : ∀ q, q < 6 → nI q - 6 < 0 := by decide
    have h0 : (0 : Int32) ≤ nI (6 * i) := by
      rw [show (0 : Int32) = nI 0 from rfl, nI_leI (by decide) (by omega)]; omega
    exact Int32.lt_of_lt_of_le (key L (by omega)) h0
set_option maxHeartbeats 4000000 in
set_option maxRecDepth 100000 in
/-- the loop: 'fin' is what stands when it is over -/
theorem law_loop {X : Cx} {A : Nat → Nat} {b x m o L : Nat} {xs : Nat → Int32} (g : Gd X cL_law_ RL) (hN : xN X = 8) (hR : xR X = room_1) (hL : L ≤ 3072) (hSc : ScX X b L xs)
    (fin : ∀ M i, i ≤ 512 → Z X M (100 + 16 * i) (9300 + 500 * i) 2713 [] []) : ∀ (k i : Nat) (M : Mm) (hk : k + i = L / 6) (hLI : LI A x m o M), Z X M (100 + 16 * i) (9300 + 500 * i) 23 [(0, .ref b), (1, .ref x), (2, .ref m), (3, .ref o), (4, .int (nI (6 * i)))] [] := by
  intro k
  induction k using Nat.strongRecOn with
  | _ k ih =>
    intro i M hk hLI
    have hi5 : i ≤ 512 := by omega
    refine z_iload g dL_law__23 rfl ?_
    refine z_aload_n g dL_law__25 rfl ?_
    refine z_slen g hSc dL_law__26 ?_
    refine z_bipush (v := 6) g dL_law__27 (by decide) ?_
    refine z_isub g dL_law__29 ?_
    refine z_icmp_gt (tgt := 2713) g dL_law__30 (by decide) (fun c_30 => ?_) (fun c_30 => ?_)
    · exact z_to (fin M i hi5) trivial
    · have hi := law_end hL (by omega) c_30
      have hc1 : 100 + 16 * i + 16 ≤ (xR X).cells := by rw [hR]; show _ ≤ 601024; omega
      have hc2 : 9300 + 500 * i + 500 ≤ (xR X).slots := by rw [hR]; show _ ≤ 7293034; omega
      have next : ∀ M', LI A x m o M' → Z X M' (100 + 16 * i + 16) (9300 + 500 * i + 500) 2707 [(0, .ref b), (1, .ref x), (2, .ref m), (3, .ref o), (4, .int (nI (6 * i)))] [] := by
        intro M' hLI'
        refine z_iinc6 g dL_law__2707 rfl (by rw [hN]; decide) ?_
        refine z_goto (tgt := 23) g dL_law__2710 (by decide) ?_
        rw [nI_l6, show 6 * i + 6 = 6 * (i + 1) by omega]
        exact z_to (z_wid (by omega) (by omega) (ih (k - 1) (by omega) (i + 1) M' (by omega) hLI')) ⟨rfl, rfl, rfl, rfl, rfl, trivial⟩
      refine z_aload_n g dL_law__33 rfl ?_
      refine z_iload g dL_law__34 rfl ?_
      refine z_sld g hSc (vp_in_nI (by omega) (by omega)) dL_law__36 ?_
      rw [nI_clamp (show 6 * i < 2 ^ 31 by omega)]
      refine z_bipush (v := 63) g dL_law__37 (by decide) ?_
      refine z_iand g dL_law__39 ?_
      rcases pk_ix (xs (6 * i) &&& 63) (n := 34) (by decide) with hv | hv | ⟨j, hj, hv⟩
      · refine z_tabOut (tgt := 2707) g dL_law__40 (Or.inl ?_) (by decide) ?_
        · have := Int32.lt_iff_toInt_lt.mp hv; simpa using this
        · exact z_to (z_wid (by omega) (by omega) (next M hLI)) ⟨rfl, rfl, rfl, rfl, rfl, trivial⟩
      · refine z_tabOut (tgt := 2707) g dL_law__40 (Or.inr ?_) (by decide) ?_
        · have h9 := Int32.le_iff_toInt_le.mp hv
          rw [show (nI 34).toInt = 34 from by decide] at h9
          omega
        · exact z_to (z_wid (by omega) (by omega) (next M hLI)) ⟨rfl, rfl, rfl, rfl, rfl, trivial⟩
      · rw [hv]
        match j, hj with
        | 0, _ => exact z_tabIn (off := 152) (tgt := 192) g dL_law__40 (by decide) (by decide) (by decide) (by decide) (lc_0 g hN hR hL hi hc1 hc2 hSc hLI next)
        | 1, _ => exact z_tabIn (off := 232) (tgt := 272) g dL_law__40 (by decide) (by decide) (by decide) (by decide) (lc_1 g hN hR hL hi hc1 hc2 hSc hLI next)
        | 2, _ => exact z_tabIn (off := 304) (tgt := 344) g dL_law__40 (by decide) (by decide) (by decide) (by decide) (lc_2 g hN hR hL hi hc1 hc2 hSc hLI next)
        | 3, _ => exact z_tabIn (off := 364) (tgt := 404) g dL_law__40 (by decide) (by decide) (by decide) (by decide) (lc_3 g hN hR hL hi hc1 hc2 hSc hLI next)
        | 4, _ => exact z_tabIn (off := 424) (tgt := 464) g dL_law__40 (by decide) (by decide) (by decide) (by decide) (lc_4 g hN hR hL hi hc1 hc2 hSc hLI next)
        | 5, _ => exact z_tabIn (off := 516) (tgt := 556) g dL_law__40 (by decide) (by decide) (by decide) (by decide) (lc_5 g hN hR hL hi hc1 hc2 hSc hLI next)
        | 6, _ => exact z_tabIn (off := 640) (tgt := 680) g dL_law__40 (by decide) (by decide) (by decide) (by decide) (lc_6 g hN hR hL hi hc1 hc2 hSc hLI next)
        | 7, _ => exact z_tabIn (off := 744) (tgt := 784) g dL_law__40 (by decide) (by decide) (by decide) (by decide) (lc_7 g hN hR hL hi hc1 hc2 hSc hLI next)
        | 8, _ => exact z_tabIn (off := 804) (tgt := 844) g dL_law__40 (by decide) (by decide) (by decide) (by decide) (lc_8 g hN hR hL hi hc1 hc2 hSc hLI next)
        | 9, _ => exact z_tabIn (off := 895) (tgt := 935) g dL_law__40 (by decide) (by decide) (by decide) (by decide) (lc_9 g hN hR hL hi hc1 hc2 hSc hLI next)
        | 10, _ => exact z_tabIn (off := 1019) (tgt := 1059) g dL_law__40 (by decide) (by decide) (by decide) (by decide) (lc_10 g hN hR hL hi hc1 hc2 hSc hLI next)
        | 11, _ => exact z_tabIn (off := 1115) (tgt := 1155) g dL_law__40 (by decide) (by decide) (by decide) (by decide) (lc_11 g hN hR hL hi hc1 hc2 hSc hLI next)
        | 12, _ => exact z_tabIn (off := 1190) (tgt := 1230) g dL_law__40 (by decide) (by decide) (by decide) (by decide) (lc_12 g hN hR hL hi hc1 hc2 hSc hLI next)
        | 13, _ => exact z_tabIn (off := 1246) (tgt := 1286) g dL_law__40 (by decide) (by decide) (by decide) (by decide) (lc_13 g hN hR hL hi hc1 hc2 hSc hLI next)
        | 14, _ => exact z_tabIn (off := 1302) (tgt := 1342) g dL_law__40 (by decide) (by decide) (by decide) (by decide) (lc_14 g hN hR hL hi hc1 hc2 hSc hLI next)
        | 15, _ => exact z_tabIn (off := 1370) (tgt := 1410) g dL_law__40 (by decide) (by decide) (by decide) (by decide) (lc_15 g hN hR hL hi hc1 hc2 hSc hLI next)
        | 16, _ => exact z_tabIn (off := 1450) (tgt := 1490) g dL_law__40 (by decide) (by decide) (by decide) (by decide) (lc_16 g hN hR hL hi hc1 hc2 hSc hLI next)
        | 17, _ => exact z_tabIn (off := 1510) (tgt := 1550) g dL_law__40 (by decide) (by decide) (by decide) (by decide) (lc_17 g hN hR hL hi hc1 hc2 hSc hLI next)
        | 18, _ => exact z_tabIn (off := 1578) (tgt := 1618) g dL_law__40 (by decide) (by decide) (by decide) (by decide) (lc_18 g hN hR hL hi hc1 hc2 hSc hLI next)
        | 19, _ => exact z_tabIn (off := 1645) (tgt := 1685) g dL_law__40 (by decide) (by decide) (by decide) (by decide) (lc_19 g hN hR hL hi hc1 hc2 hSc hLI next)
        | 20, _ => exact z_tabIn (off := 1725) (tgt := 1765) g dL_law__40 (by decide) (by decide) (by decide) (by decide) (lc_20 g hN hR hL hi hc1 hc2 hSc hLI next)
        | 21, _ => exact z_tabIn (off := 1824) (tgt := 1864) g dL_law__40 (by decide) (by decide) (by decide) (by decide) (lc_21 g hN hR hL hi hc1 hc2 hSc hLI next)
        | 22, _ => exact z_tabIn (off := 1923) (tgt := 1963) g dL_law__40 (by decide) (by decide) (by decide) (by decide) (lc_22 g hN hR hL hi hc1 hc2 hSc hLI next)
        | 23, _ => exact z_tabIn (off := 1979) (tgt := 2019) g dL_law__40 (by decide) (by decide) (by decide) (by decide) (lc_23 g hN hR hL hi hc1 hc2 hSc hLI next)
        | 24, _ => exact z_tabIn (off := 2091) (tgt := 2131) g dL_law__40 (by decide) (by decide) (by decide) (by decide) (lc_24 g hN hR hL hi hc1 hc2 hSc hLI next)
        | 25, _ => exact z_tabIn (off := 2159) (tgt := 2199) g dL_law__40 (by decide) (by decide) (by decide) (by decide) (lc_25 g hN hR hL hi hc1 hc2 hSc hLI next)
        | 26, _ => exact z_tabIn (off := 2172) (tgt := 2212) g dL_law__40 (by decide) (by decide) (by decide) (by decide) (lc_26 g hN hR hL hi hc1 hc2 hSc hLI next)
        | 27, _ => exact z_tabIn (off := 2185) (tgt := 2225) g dL_law__40 (by decide) (by decide) (by decide) (by decide) (lc_27 g hN hR hL hi hc1 hc2 hSc hLI next)
        | 28, _ => exact z_tabIn (off := 2309) (tgt := 2349) g dL_law__40 (by decide) (by decide) (by decide) (by decide) (lc_28 g hN hR hL hi hc1 hc2 hSc hLI next)
        | 29, _ => exact z_tabIn (off := 2365) (tgt := 2405) g dL_law__40 (by decide) (by decide) (by decide) (by decide) (lc_29 g hN hR hL hi hc1 hc2 hSc hLI next)
        | 30, _ => exact z_tabIn (off := 2444) (tgt := 2484) g dL_law__40 (by decide) (by decide) (by decide) (by decide) (lc_30 g hN hR hL hi hc1 hc2 hSc hLI next)
        | 31, _ => exact z_tabIn (off := 2500) (tgt := 2540) g dL_law__40 (by decide) (by decide) (by decide) (by decide) (lc_31 g hN hR hL hi hc1 hc2 hSc hLI next)
        | 32, _ => exact z_tabIn (off := 2556) (tgt := 2596) g dL_law__40 (by decide) (by decide) (by decide) (by decide) (lc_32 g hN hR hL hi hc1 hc2 hSc hLI next)
        | 33, _ => exact z_tabIn (off := 2611) (tgt := 2651) g dL_law__40 (by decide) (by decide) (by decide) (by decide) (lc_33 g hN hR hL hi hc1 hc2 hSc hLI next)
        | j + 34, hj => exact absurd hj (by omega)
/-- nothing but ArrayList's empty row -/
def M00 (eD : Nat) : Mm := (fun a => if a = eD then 390 else 0, fun _ _ => 0, fun _ _ => 0, fun _ _ => none, fun _ => 0)
theorem kd_M00 {eD a : Nat} : kd (M00 eD) a = if a = eD then 390 else 0 := rfl
theorem rl_M00 {D : va_G} {cy : Nat → ClassId} {base eD : Nat} {H : Heap} (h : wkE cy eD H) : rl D cy base eD (M00 eD) H := by
  have k1 : ∀ a, kd (M00 eD) a ≠ 0 → a = eD ∧ kd (M00 eD) a = 390 := by
    intro a ha
    rw [kd_M00] at ha ⊢
    by_cases e : a = eD
    · rw [if_pos e]; exact ⟨e, rfl⟩
    · rw [if_neg e] at ha; exact absurd rfl ha
  have k2 : ∀ a, kd (M00 eD) a % 1000 < 400 := by
    intro a
    rw [kd_M00]; split <;> decide
  refine ⟨fun _ => 0, fun a ha => ?_, fun a ha => absurd (k2 a) (by omega), by rw [kd_M00, if_pos rfl], rfl, h, fun a h1 h2 => ?_⟩
  · obtain ⟨-, h9⟩ := k1 a ha
    refine ⟨⟨fun y => by rw [h9] at y; omega, fun _ y => by rw [h9] at y; omega, fun _ y => by rw [h9] at y; omega, fun _ y => by rw [h9] at y; omega, fun y => by rw [h9] at y; omega⟩, Or.inr (by rw [h9]; exact Or.inr rfl)⟩
  · exact (k1 a (fun z => by rw [z] at h1; simp at h1)).1
set_option maxHeartbeats 4000000 in
set_option maxRecDepth 100000 in
theorem law_start {X : Cx} {b L : Nat} {xs : Nat → Int32} (M0 : Mm) (g : Gd X cL_law_ RL) (hN : xN X = 8) (hR : xR X = room_1) (hL : L ≤ 3072) (hSc : ScX X b L xs)
    (fin : ∀ M i, i ≤ 512 → Z X M (100 + 16 * i) (9300 + 500 * i) 2713 [] []) : Z X M0 0 0 0 [(0, .ref b)] [] := by
  refine z_new g 11 nw_L_8 (by omega) (by decide) (by rw [hR]; decide) (by rw [hR]; decide) dL_law__0 (fun x hx => ?_)
  refine z_dup g dL_law__3 rfl ?_
  refine z_callI g _ _ ci_L_128 (c_X10i _ _ x (by rw [kd_al, if_pos rfl]) (fun j => by rw [fI_al, if_pos rfl])) rfl (by rw [hR]; decide) (by rw [hR]; decide) (by rw [hR]; decide) (Nat.le_of_ble_eq_true rfl) rfl dL_law__4 (fun _ _ h => False.elim h) (fun r_4 M1 h_4 => ?_)
  obtain ⟨B, rfl, hX1, hxo⟩ := h_4
  refine z_astore_n g dL_law__7 (by rw [hN]; decide) ?_
  refine z_new g 12 nw_L_129 (by omega) (by decide) (by rw [hR]; decide) (by rw [hR]; decide) dL_law__8 (fun m hm => ?_)
  refine z_dup g dL_law__11 rfl ?_
  have km : kd (al M1 m 12 0) m = 12 := by rw [kd_al, if_pos rfl]
  have hP : PMk (fun _ => 0) 3 m 0 (al M1 m 12 0) (al M1 m 12 0) := by
    have key : ∀ k, k < 3 → szI k = 0 ∧ szL k = 0 := by decide
    refine ⟨fun _ _ _ => same.rf, km, fun k => by rw [fI_al, if_pos rfl]; split <;> rfl, fun k hk h0 => ?_, fun k hk h0 => ?_, fun k hk h0 => ?_⟩
    · rw [(key k hk).1] at h0; exact absurd h0 (Nat.lt_irrefl 0)
    · rw [(key k hk).2] at h0; exact absurd h0 (Nat.lt_irrefl 0)
    · rw [(key k hk).1, (key k hk).2] at h0; exact absurd h0 (by omega)
  refine z_callI g _ _ ci_L_131 (n_new _ _ m hP (by rw [km]; decide)) rfl (by rw [hR]; decide) (by rw [hR]; decide) (by rw [hR]; decide) (Nat.le_of_ble_eq_true rfl) rfl dL_law__12 (fun _ _ h => False.elim h) (fun r_12 M2 h_12 => ?_)
  obtain ⟨A, rfl, hM2, hmo⟩ := h_12
  have g12 : agr (fun _ _ => False) M1 M2 := agr.same (fun a ha => by
    have n1 : a ≠ m := fun z => ha (by rw [z]; exact hm)
    have s1 : same M1 (al M1 m 12 0) a := same.al n1
    exact s1.tr (hmo a (by rw [← s1.1]; exact ha) n1))
  have hX2 := hX1.all INV_S0 g12 (fun _ _ _ h => h)
  refine z_astore_n g dL_law__15 (by rw [hN]; decide) ?_
  refine z_iconst (v := 1) g dL_law__16 (by decide) ?_
  refine z_newL (N := 1) g 290 (by decide) (by decide) (mT 1522 (by decide +kernel)) (by decide) (by decide) (by decide) (by rw [hR]; decide) (by rw [hR]; decide) dL_law__17 (fun o ho => ?_)
  have g23 : agr (fun _ _ => False) M2 (al M2 o 290 1) := agr.al ho
  have hX3 := hX2.all INV_S0 g23 (fun _ _ _ h => h)
  have hM3 := hM2.agr g23 (fun _ _ _ h => h)
  have hLI : LI A x m o (al M2 o 290 1) := ⟨_, _, hX3, hM3, INV_S0, by rw [SB, kd_al, if_pos rfl, ln_al, if_pos rfl]; exact ⟨rfl, rfl⟩⟩
  refine z_astore_n g dL_law__19 (by rw [hN]; decide) ?_
  refine z_iconst (v := 0) g dL_law__20 (by decide) ?_
  refine z_istore g dL_law__21 (by rw [hN]; decide) ?_
  exact z_to (z_wid (by decide) (by decide) (law_loop g hN hR hL hSc fin (L / 6) 0 _ rfl hLI)) ⟨rfl, rfl, rfl, rfl, rfl, trivial⟩
