/-! ===== the law: its start (printed by gen/mk_ws2.py) ===== -/
/-- nothing but ArrayList's empty row -/
def M00 (eD : Nat) : Mm := (fun a => if a = eD then 390 else 0, fun _ _ => 0, fun _ _ => 0, fun _ _ => none, fun _ => 0)
theorem kd_M00 {eD a : Nat} : kd (M00 eD) a = if a = eD then 390 else 0 := rfl
theorem rl_M00 {D : va_G} {cy : Nat → ClassId} {base eD : Nat} {H : Heap} (h : wkE cy eD H) : rl D cy base eD (M00 eD) H := by
  have k1 : ∀ a, kd (M00 eD) a ≠ 0 → a = eD ∧ kd (M00 eD) a = 390 := by
    intro a ha
    rw [kd_M00] at ha ⊢
    by_cases e : a = eD
    · rw [if_pos e]; exact ⟨e, rfl⟩
    · rw [if_neg e] at ha; exact absurd rfl ha
  have k2 : ∀ a, kd (M00 eD) a % 1000 < 400 := by
    intro a
    rw [kd_M00]; split <;> decide
  refine ⟨fun _ => 0, fun a ha => ?_, fun a ha => absurd (k2 a) (by omega), by rw [kd_M00, if_pos rfl], rfl, h, fun a h1 h2 => ?_⟩
  · obtain ⟨-, h9⟩ := k1 a ha
    refine ⟨⟨fun y => by rw [h9] at y; omega, fun _ y => by rw [h9] at y; omega, fun _ y => by rw [h9] at y; omega, fun _ y => by rw [h9] at y; omega, fun y => by rw [h9] at y; omega⟩, Or.inr (by rw [h9]; exact Or.inr rfl)⟩
  · exact (k1 a (fun z => by rw [z] at h1; simp at h1)).1
set_option maxHeartbeats 4000000 in
set_option maxRecDepth 100000 in
theorem law_start {X : Cx} {b L : Nat} {xs : Nat → Int32} (M0 : Mm) (g : Gd X cL_law RL) (hN : xN X = 10) (hR : xR X = room_1) (hL : L ≤ 260) (hSc : ScX X b L xs)
    (fin : ∀ M, Z X M 600000 7300000 393 [] [.int 1]) : Z X M0 0 0 0 [(0, .ref b)] [] := by
  refine z_new g 11 nw_L_18 (by omega) (by decide) (by rw [hR]; decide) (by rw [hR]; decide) dL_law_0 (fun x hx => ?_)
  refine z_dup g dL_law_3 rfl ?_
  refine z_callI g _ _ ci_L_166 (c_X10i _ _ x (by rw [kd_al, if_pos rfl]) (fun j => by rw [fI_al, if_pos rfl])) rfl (by rw [hR]; decide) (by rw [hR]; decide) (by rw [hR]; decide) (Nat.le_of_ble_eq_true rfl) rfl dL_law_4 (fun _ _ h => False.elim h) (fun r_4 M1 h_4 => ?_)
  obtain ⟨B, rfl, hX1, hxo⟩ := h_4
  refine z_astore_n g dL_law_7 (by rw [hN]; decide) ?_
  refine z_swp ?_
  refine z_new g 11 nw_L_18 (by omega) (by decide) (by rw [hR]; decide) (by rw [hR]; decide) dL_law_8 (fun y hy => ?_)
  refine z_dup g dL_law_11 rfl ?_
  refine z_callI g _ _ ci_L_166 (c_X10i _ _ y (by rw [kd_al, if_pos rfl]) (fun j => by rw [fI_al, if_pos rfl])) rfl (by rw [hR]; decide) (by rw [hR]; decide) (by rw [hR]; decide) (Nat.le_of_ble_eq_true rfl) rfl dL_law_12 (fun _ _ h => False.elim h) (fun r_12 M2 h_12 => ?_)
  obtain ⟨C, rfl, hX2, hyo⟩ := h_12
  have g12 : agr (fun _ _ => False) (swp M1) M2 := agr.same (fun a ha => by
    have n1 : a ≠ y := fun z => ha (by rw [z]; exact hy)
    have s1 : same (swp M1) (al (swp M1) y 11 0) a := same.al n1
    exact s1.tr (hyo a (by rw [← s1.1]; exact ha) n1))
  have g13 : agr TC (swp M1) M2 := g12.mono (fun _ _ h => h.elim)
  have g14 : agr TS M1 (swp M2) := by
    have h9 := agr_sl g13
    rw [swp_swp] at h9; exact h9
  have hX3 : RX B x (S0n 108) (swp M2) := hX1.all INV_S0 g14 (fun c k z y => by unfold TC at z; unfold TS at y; omega)
  have hT : TL2 x y (S0n 108) (S0n 108) (swp M2) := ⟨⟨B, hX3⟩, C, by rw [swp_swp]; exact hX2⟩
  refine z_swp ?_
  refine z_astore_n g dL_law_15 (by rw [hN]; decide) ?_
  refine z_iconst (v := 1) g dL_law_16 (by decide) ?_
  refine z_istore_n g dL_law_17 (by rw [hN]; decide) ?_
  refine z_iconst (v := 0) g dL_law_18 (by decide) ?_
  refine z_istore g dL_law_19 (by rw [hN]; decide) ?_
  refine z_iconst (v := 0) g dL_law_21 (by decide) ?_
  refine z_istore g dL_law_22 (by rw [hN]; decide) ?_
  have h2 : cn (S0n 108) 2 ≤ 0 := by rw [S0_c 2 (by decide)]; exact Nat.le_refl _
  have hI : LI x y (S0n 108) 0 := ⟨INV_S0, JV_S0, rfl, S0_c 1 (by decide)⟩
  exact z_to (z_wid (by decide) (by decide) (law_loops g hN hR hL hSc fin (S0n 108) _ h2 hT hI)) ⟨rfl, rfl, rfl, rfl, rfl, rfl, trivial⟩
