/-! ===== the model: FORMs (printed by gen/mod_d4.py) ===== -/
def NamOK (S : Ms) : Prop := gi S 17 = nI (cn S 17) ∧ cn S 17 ≤ 100 ∧ ∀ n, n < cn S 17 → LW 12 (wr (gL S 20 n)) ∧ gL S 20 n = lN (lv (wr (gL S 20 n)))
def ExOK (S : Ms) : Prop := gi S 31 = nI (cn S 31) ∧ cn S 31 ≤ 40
def OkF (S : Ms) : Prop := NamOK S ∧ LawOK S ∧ ExOK S
/-- what has been formed when no law is left -/
theorem form_end {S : Ms} {p : Nat → Bool} {u : List Nat} {la : Option Nat} (hL : LawOK S) (hq : ∀ q, la = some q → q < cn S 24) (h : nxt S p la (cn S 24) = none) : prc S p u 120000 = prc S p u (lk1 S la) := by
  have hle : lk1 S la ≤ 120000 := by
    cases la with
    | none => exact Nat.zero_le _
    | some q => exact lkey_lt hL (hq q rfl)
  refine prc_skip hL.2.1 hle (fun l h1 h2 h3 _ => ?_)
  obtain ⟨q, h4, -⟩ := (nxt_sp hL hq (Nat.le_refl _)).2 l h1 h2 h3
  rw [h] at h4; cases h4
theorem form_step {S : Ms} {p : Nat → Bool} {u : List Nat} {la : Option Nat} {l : Nat} (hL : LawOK S) (hq : ∀ q, la = some q → q < cn S 24) (h : nxt S p la (cn S 24) = some l) : l < cn S 24 ∧ lk1 S la ≤ lkey S l ∧ aplL S l (prc S p u (lk1 S la)) = prc S p u (lk1 S (some l)) := by
  obtain ⟨h1, h2, h3⟩ := (nxt_sp hL hq (Nat.le_refl _)).1 l h
  refine ⟨h1, h3, ?_⟩
  rw [show lk1 S (some l) = lkey S l + 1 from rfl, prc_at hL.2.1 h1 h2]
  congr 1
  refine (prc_skip hL.2.1 h3 (fun l2 g1 g2 g3 g4 => ?_)).symm
  obtain ⟨q, h4, h5⟩ := (nxt_sp hL hq (Nat.le_refl _)).2 l2 g1 g2 g3
  rw [h] at h4; cases h4; omega
theorem o2i0 (q : Nat) : o2i 0 (some q) = nI q := by show nI (0 + q) = nI q; rw [Nat.zero_add]
set_option maxHeartbeats 4000000 in
set_option maxRecDepth 100000 in
theorem n_frm (E : Ev) {A : Nat → Nat} {m : Nat} {S : Ms} (M : Mm) (hM : RM A m S M) (hO : OkF S) (f : Nat) (t d kn : Int32) : CT E yX11_formAt cX11_formAt 13 (some .long) 2 0 0 [.ref m, .int (nI f), .int t, .int d, .int kn] M ((fun r' M' => r' = some (.long (formA S (nI f) t d kn)) ∧ SE A m M M')) noX := by
  refine CT.of rfl (Nat.le_of_ble_eq_true rfl) (fun X g hrt hno hE hN hR hI => ?_)
  subst hE
  obtain ⟨hNm, hL, hX⟩ := hO
  refine z_aload_n g dX11_formAt_0 rfl ?_
  refine z_iload_n g dX11_formAt_1 rfl ?_
  refine z_iload_n g dX11_formAt_2 rfl ?_
  refine z_iload_n g dX11_formAt_3 rfl ?_
  refine z_iload g dX11_formAt_4 rfl ?_
  refine z_callV g _ _ cv_X11_207 (n_nmA _ M hM hNm.1 hNm.2.1 f t d kn) hM.k0 (by decide) rfl (by rw [hR]; decide) (by rw [hR]; decide) (by rw [hR]; decide) (Nat.le_of_ble_eq_true rfl) rfl dX11_formAt_6 (fun _ _ h => False.elim h) (fun r_6 M_6 h_6 => ?_)
  obtain ⟨rfl, rfl⟩ := h_6
  rcases ho : nmA S (nI f) t d kn with _ | n
  · show Z X M 0 0 9 _ [.int (-1)]
    refine z_istore g dX11_formAt_9 (by rw [hN]; decide) ?_
    refine z_iload g dX11_formAt_11 rfl ?_
    refine z_iconst (v := (-1)) g dX11_formAt_13 (by decide) ?_
    refine z_icmp_ne (tgt := 19) g dX11_formAt_14 (by decide) (fun c_14 => (by exact absurd rfl c_14)) (fun c_14 => ?_)
    refine z_lconst (v := 0) g dX11_formAt_17 (by decide) ?_
    exact z_lret g hrt (by decide) (by decide) dX11_formAt_18 ⟨by rw [formA, ho], SE.rf⟩
  have hn := (bst_mem ho).1
  rw [o2i0]
  have hn100 := hNm.2.1
  have hwo := hNm.2.2 n hn
  have hwn := hwo.2
  have hu : LW 12 (wr (gL S 20 n)).reverse := hwo.1.rev
  have hF : formA S (nI f) t d kn = lN (lv (prc S (lawP S t (gA S 21 n) d kn (exA S (nI f) t kn (cn S 31))) (wr (gL S 20 n)).reverse 120000).reverse) := by rw [formA, ho]
  have after : ∀ (M1 : Mm) (la fo : Option Nat) (se : SE A m M M1) (hLt : Lt A m M1 (prc S (lawP S t (gA S 21 n) d kn (exA S (nI f) t kn (cn S 31))) (wr (gL S 20 n)).reverse (lk1 S la))) (hq0 : ∀ q, la = some q → q < cn S 24) (hind : ∀ (M2 : Mm) (lb : Option Nat), 120001 - lk1 S lb < 120001 - lk1 S la → SE A m M M2 → Lt A m M2 (prc S (lawP S t (gA S 21 n) d kn (exA S (nI f) t kn (cn S 31))) (wr (gL S 20 n)).reverse (lk1 S lb)) → (∀ q, lb = some q → q < cn S 24) → Z X M2 0 0 46 [(0, .ref m), (1, .int (nI f)), (2, .int t), (3, .int d), (4, .int kn), (5, .int (nI n)), (6, .int (exA S (nI f) t kn (cn S 31))), (7, .int (o2i 0 lb)), (8, .int 1)] []) (ho : nxt S (lawP S t (gA S 21 n) d kn (exA S (nI f) t kn (cn S 31))) la (cn S 24) = fo), Z X M1 0 0 238 [(0, .ref m), (1, .int (nI f)), (2, .int t), (3, .int d), (4, .int kn), (5, .int (nI n)), (6, .int (exA S (nI f) t kn (cn S 31))), (9, .int (o2i 0 fo))] [] := by
    intro M1 la fo se hLt hq0 hind ho
    have hM1 := hM.SE se
    rcases fo with _ | l
    · show Z X M1 0 0 238 [(0, .ref m), (1, .int (nI f)), (2, .int t), (3, .int d), (4, .int kn), (5, .int (nI n)), (6, .int (exA S (nI f) t kn (cn S 31))), (9, .int (-1))] []
      refine z_iload g dX11_formAt_238 rfl ?_
      refine z_iconst (v := (-1)) g dX11_formAt_240 (by decide) ?_
      refine z_icmp_eq (tgt := 248) g dX11_formAt_241 (by decide) (fun c_241 => ?_) (fun c_241 => (by exact absurd rfl c_241))
      refine z_iconst (v := 0) g dX11_formAt_248 (by decide) ?_
      refine z_istore g dX11_formAt_249 (by rw [hN]; decide) ?_
      refine z_iload g dX11_formAt_251 rfl ?_
      refine z_istore g dX11_formAt_253 (by rw [hN]; decide) ?_
      refine z_iload g dX11_formAt_255 rfl ?_
      refine z_if_eq (tgt := 266) g dX11_formAt_257 (by decide) (fun _ => ?_) (fun c_257 => absurd (by decide) c_257)
      refine z_goto (tgt := 46) g dX11_formAt_266 (by decide) ?_
      refine z_iload g dX11_formAt_46 rfl ?_
      refine z_if_eq (tgt := 269) g dX11_formAt_48 (by decide) (fun _ => ?_) (fun c_48 => absurd (by decide) c_48)
      refine z_aload_n g dX11_formAt_269 rfl ?_
      refine z_callV g _ _ cv_X11_226 (n_word _ M1 hM1 _ (prc_LW hL hu _) hLt) hM1.k0 (by decide) rfl (by rw [hR]; decide) (by rw [hR]; decide) (by rw [hR]; decide) (Nat.le_of_ble_eq_true rfl) rfl dX11_formAt_270 (fun _ _ h => False.elim h) (fun r_270 M_270 h_270 => ?_)
      obtain ⟨rfl, rfl⟩ := h_270
      rw [← form_end hL hq0 ho]
      exact z_lret g hrt (by decide) (by decide) dX11_formAt_273 ⟨by rw [← hF], se⟩
    · rw [o2i0]
      have hl24 := ((nxt_sp hL hq0 (Nat.le_refl _)).1 l ho).1
      have hl12 := hL.2.1
      refine z_iload g dX11_formAt_238 rfl ?_
      refine z_iconst (v := (-1)) g dX11_formAt_240 (by decide) ?_
      refine z_icmp_eq (tgt := 248) g dX11_formAt_241 (by decide) (fun c_241 => (by exact absurd c_241 (m1_ne (by omega)))) (fun c_241 => ?_)
      refine z_iconst (v := 1) g dX11_formAt_244 (by decide) ?_
      refine z_goto (tgt := 249) g dX11_formAt_245 (by decide) ?_
      refine z_istore g dX11_formAt_249 (by rw [hN]; decide) ?_
      refine z_iload g dX11_formAt_251 rfl ?_
      refine z_istore g dX11_formAt_253 (by rw [hN]; decide) ?_
      refine z_iload g dX11_formAt_255 rfl ?_
      refine z_if_eq (tgt := 266) g dX11_formAt_257 (by decide) (fun c_257 => absurd c_257 (by decide)) (fun _ => ?_)
      refine z_aload_n g dX11_formAt_260 rfl ?_
      refine z_iload g dX11_formAt_261 rfl ?_
      obtain ⟨s1, s2, s3⟩ := form_step (u := (wr (gL S 20 n)).reverse) hL hq0 ho
      have hlo := hL.2.2 l s1
      refine z_callV g _ _ cv_X11_222 (n_apl _ M1 hM1 _ (prc_LW hL hu _) hLt l (by omega) hlo.2.1.1 hlo.2.2.1.1 hlo.2.2.2.1.1 hlo.2.1.2 hlo.2.2.1.2 hlo.2.2.2.1.2) hM1.k0 (by decide) rfl (by rw [hR]; decide) (by rw [hR]; decide) (by rw [hR]; decide) (Nat.le_of_ble_eq_true rfl) rfl dX11_formAt_263 (fun _ _ h => False.elim h) (fun r_263 M_263 h_263 => ?_)
      obtain ⟨rfl, se2, hLt2⟩ := h_263
      refine z_goto (tgt := 46) g dX11_formAt_266 (by decide) ?_
      have h9 := hind M_263 (some l) (by show 120001 - (lkey S l + 1) < _; have := lkey_lt hL s1; omega) (se.tr se2) (by rw [← s3]; exact hLt2) (fun q h => by cases h; exact s1)
      rw [o2i0] at h9
      exact z_to h9 ⟨rfl, rfl, rfl, rfl, rfl, rfl, rfl, rfl, rfl, trivial⟩
  have outer : ∀ (k : Nat) (M1 : Mm) (la : Option Nat) (hk : k = 120001 - lk1 S la) (se : SE A m M M1) (hLt : Lt A m M1 (prc S (lawP S t (gA S 21 n) d kn (exA S (nI f) t kn (cn S 31))) (wr (gL S 20 n)).reverse (lk1 S la))) (hq0 : ∀ q, la = some q → q < cn S 24), Z X M1 0 0 46 [(0, .ref m), (1, .int (nI f)), (2, .int t), (3, .int d), (4, .int kn), (5, .int (nI n)), (6, .int (exA S (nI f) t kn (cn S 31))), (7, .int (o2i 0 la)), (8, .int 1)] [] := by
    intro k
    induction k using Nat.strongRecOn with
    | _ k ihk =>
      intro M1 la hk se hLt hq0
      have hM1 := hM.SE se
      have hl12 := hL.2.1
      have hind : ∀ (M2 : Mm) (lb : Option Nat), 120001 - lk1 S lb < 120001 - lk1 S la → SE A m M M2 → Lt A m M2 (prc S (lawP S t (gA S 21 n) d kn (exA S (nI f) t kn (cn S 31))) (wr (gL S 20 n)).reverse (lk1 S lb)) → (∀ q, lb = some q → q < cn S 24) → Z X M2 0 0 46 [(0, .ref m), (1, .int (nI f)), (2, .int t), (3, .int d), (4, .int kn), (5, .int (nI n)), (6, .int (exA S (nI f) t kn (cn S 31))), (7, .int (o2i 0 lb)), (8, .int 1)] [] := fun M2 lb h1 h2 h3 h4 => ihk _ (by omega) M2 lb rfl h2 h3 h4
      rcases la with _ | q0
      · show Z X M1 0 0 46 [(0, .ref m), (1, .int (nI f)), (2, .int t), (3, .int d), (4, .int kn), (5, .int (nI n)), (6, .int (exA S (nI f) t kn (cn S 31))), (7, .int (-1)), (8, .int 1)] []
        have inner : ∀ (k j : Nat) (hk : k + j = cn S 24), Z X M1 0 0 57 [(0, .ref m), (1, .int (nI f)), (2, .int t), (3, .int d), (4, .int kn), (5, .int (nI n)), (6, .int (exA S (nI f) t kn (cn S 31))), (7, .int (-1)), (8, .int 1), (9, .int (o2i 0 (nxt S (lawP S t (gA S 21 n) d kn (exA S (nI f) t kn (cn S 31))) none j))), (10, .int (nI j))] [] := by
          intro k
          induction k using Nat.strongRecOn with
          | _ k ih =>
            intro j hk
            rcases ho : nxt S (lawP S t (gA S 21 n) d kn (exA S (nI f) t kn (cn S 31))) none j with _ | q
            · show Z X M1 0 0 57 [(0, .ref m), (1, .int (nI f)), (2, .int t), (3, .int d), (4, .int kn), (5, .int (nI n)), (6, .int (exA S (nI f) t kn (cn S 31))), (7, .int (-1)), (8, .int 1), (9, .int (-1)), (10, .int (nI j))] []
              refine z_iload g dX11_formAt_57 rfl ?_
              refine z_aload_n g dX11_formAt_59 rfl ?_
              refine z_getI g fl_X11_219 hM1.k0 (by decide) rfl dX11_formAt_60 ?_
              rw [hM1.sc (k := 24) (by decide) (by decide)]
              rw [hL.1]
              refine z_icmp_ge (tgt := 238) g dX11_formAt_63 (by decide) (fun c_63 => ?_) (fun c_63 => ?_)
              · rw [nI_leI (by omega) (by omega)] at c_63
                rw [show j = cn S 24 by omega] at ho
                have h9 := after M1 none _ se hLt (by first | exact hq0 | exact fun q h => nomatch h) hind ho
                try rw [o2i0] at h9
                exact z_to h9 ⟨rfl, rfl, rfl, rfl, rfl, rfl, rfl, rfl, trivial⟩
              have h63 : j < cn S 24 := by rw [nI_leI (by omega) (by omega)] at c_63; omega
              refine z_aload_n g dX11_formAt_66 rfl ?_
              refine z_getR g fl_X11_71 hM1.k0 (by decide) rfl (hM1.ref (k := 25) (by decide)) dX11_formAt_67 ?_
              refine z_iload g dX11_formAt_70 rfl ?_
              refine z_ialdk g (hM1.kA1 (k := 25) (by decide)) (by decide) (vp_in_nI (by rw [hM1.lnI (k := 25) (by decide)]; show _ < 12; omega) (by rw [hM1.lnI (k := 25) (by decide)]; decide)) dX11_formAt_72 ?_
              rw [nI_clamp (by omega), hM1.row (k := 25) (by decide) (by decide)]
              refine z_iload_n g dX11_formAt_73 rfl ?_
              refine z_icmp_ne (tgt := 133) g dX11_formAt_74 (by decide) (fun c_74 => ?_) (fun c_74 => ?_)
              · refine z_iconst (v := 0) g dX11_formAt_133 (by decide) ?_
                refine z_istore g dX11_formAt_134 (by rw [hN]; decide) ?_
                refine z_iload g dX11_formAt_136 rfl ?_
                refine z_iconst (v := (-1)) g dX11_formAt_138 (by decide) ?_
                refine z_icmp_eq (tgt := 183) g dX11_formAt_139 (by decide) (fun c_139 => ?_) (fun c_139 => (by exact absurd rfl c_139))
                refine z_iconst (v := 1) g dX11_formAt_183 (by decide) ?_
                refine z_goto (tgt := 188) g dX11_formAt_184 (by decide) ?_
                refine z_istore g dX11_formAt_188 (by rw [hN]; decide) ?_
                refine z_iload g dX11_formAt_190 rfl ?_
                refine z_if_eq (tgt := 228) g dX11_formAt_192 (by decide) (fun _ => ?_) (fun c_192 => absurd (by decide) c_192)
                refine z_iload g dX11_formAt_228 rfl ?_
                refine z_istore g dX11_formAt_230 (by rw [hN]; decide) ?_
                refine z_iinc1 g dX11_formAt_232 rfl (by rw [hN]; decide) ?_
                refine z_goto (tgt := 57) g dX11_formAt_235 (by decide) ?_
                have hs := ih (k - 1) (by omega) (j + 1) (by omega)
                try (have d180 : q0 < j := by rw [nI_leI (by omega) (by omega)] at c_180; omega)
                try (have d180 : ¬ q0 < j := by rw [nI_leI (by omega) (by omega)] at c_180; omega)
                rw [nI_s]
                first
                  | (rw [show nxt S (lawP S t (gA S 21 n) d kn (exA S (nI f) t kn (cn S 31))) none (j + 1) = some j from if_pos ⟨by simp [lawP, c_74], by simp [bhd], by rw [ho]; simp [nles]⟩, o2i0] at hs
                     exact z_to hs ⟨rfl, rfl, rfl, rfl, rfl, rfl, rfl, rfl, rfl, rfl, rfl, trivial⟩)
                  | (rw [show nxt S (lawP S t (gA S 21 n) d kn (exA S (nI f) t kn (cn S 31))) none (j + 1) = nxt S (lawP S t (gA S 21 n) d kn (exA S (nI f) t kn (cn S 31))) none j from if_neg (fun z => by first | (have z1 := z.1; simp [lawP, c_74] at z1; done) | (have z1 := z.2.1; simp [bhd] at z1; done) | (have z1 := z.2.2; rw [ho] at z1; simp [nles] at z1; done)), ho] at hs
                     try rw [o2i0] at hs
                     exact z_to hs ⟨rfl, rfl, rfl, rfl, rfl, rfl, rfl, rfl, rfl, rfl, rfl, trivial⟩)
              · refine z_aload_n g dX11_formAt_77 rfl ?_
                refine z_getR g fl_X11_86 hM1.k0 (by decide) rfl (hM1.ref (k := 30) (by decide)) dX11_formAt_78 ?_
                refine z_iload g dX11_formAt_81 rfl ?_
                refine z_ialdk g (hM1.kA1 (k := 30) (by decide)) (by decide) (vp_in_nI (by rw [hM1.lnI (k := 30) (by decide)]; show _ < 12; omega) (by rw [hM1.lnI (k := 30) (by decide)]; decide)) dX11_formAt_83 ?_
                rw [nI_clamp (by omega), hM1.row (k := 30) (by decide) (by decide)]
                refine z_iload g dX11_formAt_84 rfl ?_
                refine z_icmp_gt (tgt := 133) g dX11_formAt_86 (by decide) (fun c_86 => ?_) (fun c_86 => ?_)
                · refine z_iconst (v := 0) g dX11_formAt_133 (by decide) ?_
                  refine z_istore g dX11_formAt_134 (by rw [hN]; decide) ?_
                  refine z_iload g dX11_formAt_136 rfl ?_
                  refine z_iconst (v := (-1)) g dX11_formAt_138 (by decide) ?_
                  refine z_icmp_eq (tgt := 183) g dX11_formAt_139 (by decide) (fun c_139 => ?_) (fun c_139 => (by exact absurd rfl c_139))
                  refine z_iconst (v := 1) g dX11_formAt_183 (by decide) ?_
                  refine z_goto (tgt := 188) g dX11_formAt_184 (by decide) ?_
                  refine z_istore g dX11_formAt_188 (by rw [hN]; decide) ?_
                  refine z_iload g dX11_formAt_190 rfl ?_
                  refine z_if_eq (tgt := 228) g dX11_formAt_192 (by decide) (fun _ => ?_) (fun c_192 => absurd (by decide) c_192)
                  refine z_iload g dX11_formAt_228 rfl ?_
                  refine z_istore g dX11_formAt_230 (by rw [hN]; decide) ?_
                  refine z_iinc1 g dX11_formAt_232 rfl (by rw [hN]; decide) ?_
                  refine z_goto (tgt := 57) g dX11_formAt_235 (by decide) ?_
                  have hs := ih (k - 1) (by omega) (j + 1) (by omega)
                  try (have d180 : q0 < j := by rw [nI_leI (by omega) (by omega)] at c_180; omega)
                  try (have d180 : ¬ q0 < j := by rw [nI_leI (by omega) (by omega)] at c_180; omega)
                  rw [nI_s]
                  first
                    | (rw [show nxt S (lawP S t (gA S 21 n) d kn (exA S (nI f) t kn (cn S 31))) none (j + 1) = some j from if_pos ⟨by simp [lawP, c_74, c_86], by simp [bhd], by rw [ho]; simp [nles]⟩, o2i0] at hs
                       exact z_to hs ⟨rfl, rfl, rfl, rfl, rfl, rfl, rfl, rfl, rfl, rfl, rfl, trivial⟩)
                    | (rw [show nxt S (lawP S t (gA S 21 n) d kn (exA S (nI f) t kn (cn S 31))) none (j + 1) = nxt S (lawP S t (gA S 21 n) d kn (exA S (nI f) t kn (cn S 31))) none j from if_neg (fun z => by first | (have z1 := z.1; simp [lawP, c_74, c_86] at z1; done) | (have z1 := z.2.1; simp [bhd] at z1; done) | (have z1 := z.2.2; rw [ho] at z1; simp [nles] at z1; done)), ho] at hs
                       try rw [o2i0] at hs
                       exact z_to hs ⟨rfl, rfl, rfl, rfl, rfl, rfl, rfl, rfl, rfl, rfl, rfl, trivial⟩)
                · refine z_aload_n g dX11_formAt_89 rfl ?_
                  refine z_getR g fl_X11_74 hM1.k0 (by decide) rfl (hM1.ref (k := 26) (by decide)) dX11_formAt_90 ?_
                  refine z_iload g dX11_formAt_93 rfl ?_
                  refine z_ialdk g (hM1.kA1 (k := 26) (by decide)) (by decide) (vp_in_nI (by rw [hM1.lnI (k := 26) (by decide)]; show _ < 12; omega) (by rw [hM1.lnI (k := 26) (by decide)]; decide)) dX11_formAt_95 ?_
                  rw [nI_clamp (by omega), hM1.row (k := 26) (by decide) (by decide)]
                  refine z_aload_n g dX11_formAt_96 rfl ?_
                  refine z_getR g fl_X11_62 hM1.k0 (by decide) rfl (hM1.ref (k := 21) (by decide)) dX11_formAt_97 ?_
                  refine z_iload g dX11_formAt_100 rfl ?_
                  refine z_ialdk g (hM1.kA1 (k := 21) (by decide)) (by decide) (vp_in_nI (by rw [hM1.lnI (k := 21) (by decide)]; show _ < 100; omega) (by rw [hM1.lnI (k := 21) (by decide)]; decide)) dX11_formAt_102 ?_
                  rw [nI_clamp (by omega), hM1.row (k := 21) (by decide) (by decide)]
                  refine z_icmp_le (tgt := 133) g dX11_formAt_103 (by decide) (fun c_103 => ?_) (fun c_103 => ?_)
                  · refine z_iconst (v := 0) g dX11_formAt_133 (by decide) ?_
                    refine z_istore g dX11_formAt_134 (by rw [hN]; decide) ?_
                    refine z_iload g dX11_formAt_136 rfl ?_
                    refine z_iconst (v := (-1)) g dX11_formAt_138 (by decide) ?_
                    refine z_icmp_eq (tgt := 183) g dX11_formAt_139 (by decide) (fun c_139 => ?_) (fun c_139 => (by exact absurd rfl c_139))
                    refine z_iconst (v := 1) g dX11_formAt_183 (by decide) ?_
                    refine z_goto (tgt := 188) g dX11_formAt_184 (by decide) ?_
                    refine z_istore g dX11_formAt_188 (by rw [hN]; decide) ?_
                    refine z_iload g dX11_formAt_190 rfl ?_
                    refine z_if_eq (tgt := 228) g dX11_formAt_192 (by decide) (fun _ => ?_) (fun c_192 => absurd (by decide) c_192)
                    refine z_iload g dX11_formAt_228 rfl ?_
                    refine z_istore g dX11_formAt_230 (by rw [hN]; decide) ?_
                    refine z_iinc1 g dX11_formAt_232 rfl (by rw [hN]; decide) ?_
                    refine z_goto (tgt := 57) g dX11_formAt_235 (by decide) ?_
                    have hs := ih (k - 1) (by omega) (j + 1) (by omega)
                    try (have d180 : q0 < j := by rw [nI_leI (by omega) (by omega)] at c_180; omega)
                    try (have d180 : ¬ q0 < j := by rw [nI_leI (by omega) (by omega)] at c_180; omega)
                    rw [nI_s]
                    first
                      | (rw [show nxt S (lawP S t (gA S 21 n) d kn (exA S (nI f) t kn (cn S 31))) none (j + 1) = some j from if_pos ⟨by simp [lawP, c_74, c_86, c_103], by simp [bhd], by rw [ho]; simp [nles]⟩, o2i0] at hs
                         exact z_to hs ⟨rfl, rfl, rfl, rfl, rfl, rfl, rfl, rfl, rfl, rfl, rfl, trivial⟩)
                      | (rw [show nxt S (lawP S t (gA S 21 n) d kn (exA S (nI f) t kn (cn S 31))) none (j + 1) = nxt S (lawP S t (gA S 21 n) d kn (exA S (nI f) t kn (cn S 31))) none j from if_neg (fun z => by first | (have z1 := z.1; simp [lawP, c_74, c_86, c_103] at z1; done) | (have z1 := z.2.1; simp [bhd] at z1; done) | (have z1 := z.2.2; rw [ho] at z1; simp [nles] at z1; done)), ho] at hs
                         try rw [o2i0] at hs
                         exact z_to hs ⟨rfl, rfl, rfl, rfl, rfl, rfl, rfl, rfl, rfl, rfl, rfl, trivial⟩)
                  · refine z_aload_n g dX11_formAt_106 rfl ?_
                    refine z_getR g fl_X11_74 hM1.k0 (by decide) rfl (hM1.ref (k := 26) (by decide)) dX11_formAt_107 ?_
                    refine z_iload g dX11_formAt_110 rfl ?_
                    refine z_ialdk g (hM1.kA1 (k := 26) (by decide)) (by decide) (vp_in_nI (by rw [hM1.lnI (k := 26) (by decide)]; show _ < 12; omega) (by rw [hM1.lnI (k := 26) (by decide)]; decide)) dX11_formAt_112 ?_
                    rw [nI_clamp (by omega), hM1.row (k := 26) (by decide) (by decide)]
                    refine z_iload_n g dX11_formAt_113 rfl ?_
                    refine z_icmp_gt (tgt := 133) g dX11_formAt_114 (by decide) (fun c_114 => ?_) (fun c_114 => ?_)
                    · refine z_iconst (v := 0) g dX11_formAt_133 (by decide) ?_
                      refine z_istore g dX11_formAt_134 (by rw [hN]; decide) ?_
                      refine z_iload g dX11_formAt_136 rfl ?_
                      refine z_iconst (v := (-1)) g dX11_formAt_138 (by decide) ?_
                      refine z_icmp_eq (tgt := 183) g dX11_formAt_139 (by decide) (fun c_139 => ?_) (fun c_139 => (by exact absurd rfl c_139))
                      refine z_iconst (v := 1) g dX11_formAt_183 (by decide) ?_
                      refine z_goto (tgt := 188) g dX11_formAt_184 (by decide) ?_
                      refine z_istore g dX11_formAt_188 (by rw [hN]; decide) ?_
                      refine z_iload g dX11_formAt_190 rfl ?_
                      refine z_if_eq (tgt := 228) g dX11_formAt_192 (by decide) (fun _ => ?_) (fun c_192 => absurd (by decide) c_192)
                      refine z_iload g dX11_formAt_228 rfl ?_
                      refine z_istore g dX11_formAt_230 (by rw [hN]; decide) ?_
                      refine z_iinc1 g dX11_formAt_232 rfl (by rw [hN]; decide) ?_
                      refine z_goto (tgt := 57) g dX11_formAt_235 (by decide) ?_
                      have hs := ih (k - 1) (by omega) (j + 1) (by omega)
                      try (have d180 : q0 < j := by rw [nI_leI (by omega) (by omega)] at c_180; omega)
                      try (have d180 : ¬ q0 < j := by rw [nI_leI (by omega) (by omega)] at c_180; omega)
                      rw [nI_s]
                      first
                        | (rw [show nxt S (lawP S t (gA S 21 n) d kn (exA S (nI f) t kn (cn S 31))) none (j + 1) = some j from if_pos ⟨by simp [lawP, c_74, c_86, c_103, c_114], by simp [bhd], by rw [ho]; simp [nles]⟩, o2i0] at hs
                           exact z_to hs ⟨rfl, rfl, rfl, rfl, rfl, rfl, rfl, rfl, rfl, rfl, rfl, trivial⟩)
                        | (rw [show nxt S (lawP S t (gA S 21 n) d kn (exA S (nI f) t kn (cn S 31))) none (j + 1) = nxt S (lawP S t (gA S 21 n) d kn (exA S (nI f) t kn (cn S 31))) none j from if_neg (fun z => by first | (have z1 := z.1; simp [lawP, c_74, c_86, c_103, c_114] at z1; done) | (have z1 := z.2.1; simp [bhd] at z1; done) | (have z1 := z.2.2; rw [ho] at z1; simp [nles] at z1; done)), ho] at hs
                           try rw [o2i0] at hs
                           exact z_to hs ⟨rfl, rfl, rfl, rfl, rfl, rfl, rfl, rfl, rfl, rfl, rfl, trivial⟩)
                    · refine z_aload_n g dX11_formAt_117 rfl ?_
                      refine z_getR g fl_X11_74 hM1.k0 (by decide) rfl (hM1.ref (k := 26) (by decide)) dX11_formAt_118 ?_
                      refine z_iload g dX11_formAt_121 rfl ?_
                      refine z_ialdk g (hM1.kA1 (k := 26) (by decide)) (by decide) (vp_in_nI (by rw [hM1.lnI (k := 26) (by decide)]; show _ < 12; omega) (by rw [hM1.lnI (k := 26) (by decide)]; decide)) dX11_formAt_123 ?_
                      rw [nI_clamp (by omega), hM1.row (k := 26) (by decide) (by decide)]
                      refine z_iload g dX11_formAt_124 rfl ?_
                      refine z_icmp_ge (tgt := 133) g dX11_formAt_126 (by decide) (fun c_126 => ?_) (fun c_126 => ?_)
                      · refine z_iconst (v := 0) g dX11_formAt_133 (by decide) ?_
                        refine z_istore g dX11_formAt_134 (by rw [hN]; decide) ?_
                        refine z_iload g dX11_formAt_136 rfl ?_
                        refine z_iconst (v := (-1)) g dX11_formAt_138 (by decide) ?_
                        refine z_icmp_eq (tgt := 183) g dX11_formAt_139 (by decide) (fun c_139 => ?_) (fun c_139 => (by exact absurd rfl c_139))
                        refine z_iconst (v := 1) g dX11_formAt_183 (by decide) ?_
                        refine z_goto (tgt := 188) g dX11_formAt_184 (by decide) ?_
                        refine z_istore g dX11_formAt_188 (by rw [hN]; decide) ?_
                        refine z_iload g dX11_formAt_190 rfl ?_
                        refine z_if_eq (tgt := 228) g dX11_formAt_192 (by decide) (fun _ => ?_) (fun c_192 => absurd (by decide) c_192)
                        refine z_iload g dX11_formAt_228 rfl ?_
                        refine z_istore g dX11_formAt_230 (by rw [hN]; decide) ?_
                        refine z_iinc1 g dX11_formAt_232 rfl (by rw [hN]; decide) ?_
                        refine z_goto (tgt := 57) g dX11_formAt_235 (by decide) ?_
                        have hs := ih (k - 1) (by omega) (j + 1) (by omega)
                        try (have d180 : q0 < j := by rw [nI_leI (by omega) (by omega)] at c_180; omega)
                        try (have d180 : ¬ q0 < j := by rw [nI_leI (by omega) (by omega)] at c_180; omega)
                        rw [nI_s]
                        first
                          | (rw [show nxt S (lawP S t (gA S 21 n) d kn (exA S (nI f) t kn (cn S 31))) none (j + 1) = some j from if_pos ⟨by simp [lawP, c_74, c_86, c_103, c_114, c_126], by simp [bhd], by rw [ho]; simp [nles]⟩, o2i0] at hs
                             exact z_to hs ⟨rfl, rfl, rfl, rfl, rfl, rfl, rfl, rfl, rfl, rfl, rfl, trivial⟩)
                          | (rw [show nxt S (lawP S t (gA S 21 n) d kn (exA S (nI f) t kn (cn S 31))) none (j + 1) = nxt S (lawP S t (gA S 21 n) d kn (exA S (nI f) t kn (cn S 31))) none j from if_neg (fun z => by first | (have z1 := z.1; simp [lawP, c_74, c_86, c_103, c_114, c_126] at z1; done) | (have z1 := z.2.1; simp [bhd] at z1; done) | (have z1 := z.2.2; rw [ho] at z1; simp [nles] at z1; done)), ho] at hs
                             try rw [o2i0] at hs
                             exact z_to hs ⟨rfl, rfl, rfl, rfl, rfl, rfl, rfl, rfl, rfl, rfl, rfl, trivial⟩)
                      · refine z_iconst (v := 1) g dX11_formAt_129 (by decide) ?_
                        refine z_goto (tgt := 134) g dX11_formAt_130 (by decide) ?_
                        refine z_istore g dX11_formAt_134 (by rw [hN]; decide) ?_
                        refine z_iload g dX11_formAt_136 rfl ?_
                        refine z_iconst (v := (-1)) g dX11_formAt_138 (by decide) ?_
                        refine z_icmp_eq (tgt := 183) g dX11_formAt_139 (by decide) (fun c_139 => ?_) (fun c_139 => (by exact absurd rfl c_139))
                        refine z_iconst (v := 1) g dX11_formAt_183 (by decide) ?_
                        refine z_goto (tgt := 188) g dX11_formAt_184 (by decide) ?_
                        refine z_istore g dX11_formAt_188 (by rw [hN]; decide) ?_
                        refine z_iload g dX11_formAt_190 rfl ?_
                        refine z_if_eq (tgt := 228) g dX11_formAt_192 (by decide) (fun c_192 => absurd c_192 (by decide)) (fun _ => ?_)
                        refine z_iload g dX11_formAt_195 rfl ?_
                        refine z_if_eq (tgt := 228) g dX11_formAt_197 (by decide) (fun c_197 => absurd c_197 (by decide)) (fun _ => ?_)
                        refine z_iload g dX11_formAt_200 rfl ?_
                        refine z_iconst (v := (-1)) g dX11_formAt_202 (by decide) ?_
                        refine z_icmp_eq (tgt := 223) g dX11_formAt_203 (by decide) (fun c_203 => ?_) (fun c_203 => (by exact absurd rfl c_203))
                        refine z_iload g dX11_formAt_223 rfl ?_
                        refine z_goto (tgt := 230) g dX11_formAt_225 (by decide) ?_
                        refine z_istore g dX11_formAt_230 (by rw [hN]; decide) ?_
                        refine z_iinc1 g dX11_formAt_232 rfl (by rw [hN]; decide) ?_
                        refine z_goto (tgt := 57) g dX11_formAt_235 (by decide) ?_
                        have hs := ih (k - 1) (by omega) (j + 1) (by omega)
                        try (have d180 : q0 < j := by rw [nI_leI (by omega) (by omega)] at c_180; omega)
                        try (have d180 : ¬ q0 < j := by rw [nI_leI (by omega) (by omega)] at c_180; omega)
                        rw [nI_s]
                        first
                          | (rw [show nxt S (lawP S t (gA S 21 n) d kn (exA S (nI f) t kn (cn S 31))) none (j + 1) = some j from if_pos ⟨by simp [lawP, c_74, c_86, c_103, c_114, c_126], by simp [bhd], by rw [ho]; simp [nles]⟩, o2i0] at hs
                             exact z_to hs ⟨rfl, rfl, rfl, rfl, rfl, rfl, rfl, rfl, rfl, rfl, rfl, trivial⟩)
                          | (rw [show nxt S (lawP S t (gA S 21 n) d kn (exA S (nI f) t kn (cn S 31))) none (j + 1) = nxt S (lawP S t (gA S 21 n) d kn (exA S (nI f) t kn (cn S 31))) none j from if_neg (fun z => by first | (have z1 := z.1; simp [lawP, c_74, c_86, c_103, c_114, c_126] at z1; done) | (have z1 := z.2.1; simp [bhd] at z1; done) | (have z1 := z.2.2; rw [ho] at z1; simp [nles] at z1; done)), ho] at hs
                             try rw [o2i0] at hs
                             exact z_to hs ⟨rfl, rfl, rfl, rfl, rfl, rfl, rfl, rfl, rfl, rfl, rfl, trivial⟩)
            · rw [o2i0]
              have hq := ((nxt_sp hL (la := none) (by first | exact hq0 | exact fun q h => nomatch h) (show j ≤ cn S 24 by omega)).1 q ho).1
              refine z_iload g dX11_formAt_57 rfl ?_
              refine z_aload_n g dX11_formAt_59 rfl ?_
              refine z_getI g fl_X11_219 hM1.k0 (by decide) rfl dX11_formAt_60 ?_
              rw [hM1.sc (k := 24) (by decide) (by decide)]
              rw [hL.1]
              refine z_icmp_ge (tgt := 238) g dX11_formAt_63 (by decide) (fun c_63 => ?_) (fun c_63 => ?_)
              · rw [nI_leI (by omega) (by omega)] at c_63
                rw [show j = cn S 24 by omega] at ho
                have h9 := after M1 none _ se hLt (by first | exact hq0 | exact fun q h => nomatch h) hind ho
                try rw [o2i0] at h9
                exact z_to h9 ⟨rfl, rfl, rfl, rfl, rfl, rfl, rfl, rfl, trivial⟩
              have h63 : j < cn S 24 := by rw [nI_leI (by omega) (by omega)] at c_63; omega
              refine z_aload_n g dX11_formAt_66 rfl ?_
              refine z_getR g fl_X11_71 hM1.k0 (by decide) rfl (hM1.ref (k := 25) (by decide)) dX11_formAt_67 ?_
              refine z_iload g dX11_formAt_70 rfl ?_
              refine z_ialdk g (hM1.kA1 (k := 25) (by decide)) (by decide) (vp_in_nI (by rw [hM1.lnI (k := 25) (by decide)]; show _ < 12; omega) (by rw [hM1.lnI (k := 25) (by decide)]; decide)) dX11_formAt_72 ?_
              rw [nI_clamp (by omega), hM1.row (k := 25) (by decide) (by decide)]
              refine z_iload_n g dX11_formAt_73 rfl ?_
              refine z_icmp_ne (tgt := 133) g dX11_formAt_74 (by decide) (fun c_74 => ?_) (fun c_74 => ?_)
              · refine z_iconst (v := 0) g dX11_formAt_133 (by decide) ?_
                refine z_istore g dX11_formAt_134 (by rw [hN]; decide) ?_
                refine z_iload g dX11_formAt_136 rfl ?_
                refine z_iconst (v := (-1)) g dX11_formAt_138 (by decide) ?_
                refine z_icmp_eq (tgt := 183) g dX11_formAt_139 (by decide) (fun c_139 => ?_) (fun c_139 => (by exact absurd rfl c_139))
                refine z_iconst (v := 1) g dX11_formAt_183 (by decide) ?_
                refine z_goto (tgt := 188) g dX11_formAt_184 (by decide) ?_
                refine z_istore g dX11_formAt_188 (by rw [hN]; decide) ?_
                refine z_iload g dX11_formAt_190 rfl ?_
                refine z_if_eq (tgt := 228) g dX11_formAt_192 (by decide) (fun _ => ?_) (fun c_192 => absurd (by decide) c_192)
                refine z_iload g dX11_formAt_228 rfl ?_
                refine z_istore g dX11_formAt_230 (by rw [hN]; decide) ?_
                refine z_iinc1 g dX11_formAt_232 rfl (by rw [hN]; decide) ?_
                refine z_goto (tgt := 57) g dX11_formAt_235 (by decide) ?_
                have hs := ih (k - 1) (by omega) (j + 1) (by omega)
                try (have d180 : q0 < j := by rw [nI_leI (by omega) (by omega)] at c_180; omega)
                try (have d180 : ¬ q0 < j := by rw [nI_leI (by omega) (by omega)] at c_180; omega)
                rw [nI_s]
                first
                  | (rw [show nxt S (lawP S t (gA S 21 n) d kn (exA S (nI f) t kn (cn S 31))) none (j + 1) = some j from if_pos ⟨by simp [lawP, c_74], by simp [bhd], by rw [ho]; simp [nles]⟩, o2i0] at hs
                     exact z_to hs ⟨rfl, rfl, rfl, rfl, rfl, rfl, rfl, rfl, rfl, rfl, rfl, trivial⟩)
                  | (rw [show nxt S (lawP S t (gA S 21 n) d kn (exA S (nI f) t kn (cn S 31))) none (j + 1) = nxt S (lawP S t (gA S 21 n) d kn (exA S (nI f) t kn (cn S 31))) none j from if_neg (fun z => by first | (have z1 := z.1; simp [lawP, c_74] at z1; done) | (have z1 := z.2.1; simp [bhd] at z1; done) | (have z1 := z.2.2; rw [ho] at z1; simp [nles] at z1; done)), ho] at hs
                     try rw [o2i0] at hs
                     exact z_to hs ⟨rfl, rfl, rfl, rfl, rfl, rfl, rfl, rfl, rfl, rfl, rfl, trivial⟩)
              · refine z_aload_n g dX11_formAt_77 rfl ?_
                refine z_getR g fl_X11_86 hM1.k0 (by decide) rfl (hM1.ref (k := 30) (by decide)) dX11_formAt_78 ?_
                refine z_iload g dX11_formAt_81 rfl ?_
                refine z_ialdk g (hM1.kA1 (k := 30) (by decide)) (by decide) (vp_in_nI (by rw [hM1.lnI (k := 30) (by decide)]; show _ < 12; omega) (by rw [hM1.lnI (k := 30) (by decide)]; decide)) dX11_formAt_83 ?_
                rw [nI_clamp (by omega), hM1.row (k := 30) (by decide) (by decide)]
                refine z_iload g dX11_formAt_84 rfl ?_
                refine z_icmp_gt (tgt := 133) g dX11_formAt_86 (by decide) (fun c_86 => ?_) (fun c_86 => ?_)
                · refine z_iconst (v := 0) g dX11_formAt_133 (by decide) ?_
                  refine z_istore g dX11_formAt_134 (by rw [hN]; decide) ?_
                  refine z_iload g dX11_formAt_136 rfl ?_
                  refine z_iconst (v := (-1)) g dX11_formAt_138 (by decide) ?_
                  refine z_icmp_eq (tgt := 183) g dX11_formAt_139 (by decide) (fun c_139 => ?_) (fun c_139 => (by exact absurd rfl c_139))
                  refine z_iconst (v := 1) g dX11_formAt_183 (by decide) ?_
                  refine z_goto (tgt := 188) g dX11_formAt_184 (by decide) ?_
                  refine z_istore g dX11_formAt_188 (by rw [hN]; decide) ?_
                  refine z_iload g dX11_formAt_190 rfl ?_
                  refine z_if_eq (tgt := 228) g dX11_formAt_192 (by decide) (fun _ => ?_) (fun c_192 => absurd (by decide) c_192)
                  refine z_iload g dX11_formAt_228 rfl ?_
                  refine z_istore g dX11_formAt_230 (by rw [hN]; decide) ?_
                  refine z_iinc1 g dX11_formAt_232 rfl (by rw [hN]; decide) ?_
                  refine z_goto (tgt := 57) g dX11_formAt_235 (by decide) ?_
                  have hs := ih (k - 1) (by omega) (j + 1) (by omega)
                  try (have d180 : q0 < j := by rw [nI_leI (by omega) (by omega)] at c_180; omega)
                  try (have d180 : ¬ q0 < j := by rw [nI_leI (by omega) (by omega)] at c_180; omega)
                  rw [nI_s]
                  first
                    | (rw [show nxt S (lawP S t (gA S 21 n) d kn (exA S (nI f) t kn (cn S 31))) none (j + 1) = some j from if_pos ⟨by simp [lawP, c_74, c_86], by simp [bhd], by rw [ho]; simp [nles]⟩, o2i0] at hs
                       exact z_to hs ⟨rfl, rfl, rfl, rfl, rfl, rfl, rfl, rfl, rfl, rfl, rfl, trivial⟩)
                    | (rw [show nxt S (lawP S t (gA S 21 n) d kn (exA S (nI f) t kn (cn S 31))) none (j + 1) = nxt S (lawP S t (gA S 21 n) d kn (exA S (nI f) t kn (cn S 31))) none j from if_neg (fun z => by first | (have z1 := z.1; simp [lawP, c_74, c_86] at z1; done) | (have z1 := z.2.1; simp [bhd] at z1; done) | (have z1 := z.2.2; rw [ho] at z1; simp [nles] at z1; done)), ho] at hs
                       try rw [o2i0] at hs
                       exact z_to hs ⟨rfl, rfl, rfl, rfl, rfl, rfl, rfl, rfl, rfl, rfl, rfl, trivial⟩)
                · refine z_aload_n g dX11_formAt_89 rfl ?_
                  refine z_getR g fl_X11_74 hM1.k0 (by decide) rfl (hM1.ref (k := 26) (by decide)) dX11_formAt_90 ?_
                  refine z_iload g dX11_formAt_93 rfl ?_
                  refine z_ialdk g (hM1.kA1 (k := 26) (by decide)) (by decide) (vp_in_nI (by rw [hM1.lnI (k := 26) (by decide)]; show _ < 12; omega) (by rw [hM1.lnI (k := 26) (by decide)]; decide)) dX11_formAt_95 ?_
                  rw [nI_clamp (by omega), hM1.row (k := 26) (by decide) (by decide)]
                  refine z_aload_n g dX11_formAt_96 rfl ?_
                  refine z_getR g fl_X11_62 hM1.k0 (by decide) rfl (hM1.ref (k := 21) (by decide)) dX11_formAt_97 ?_
                  refine z_iload g dX11_formAt_100 rfl ?_
                  refine z_ialdk g (hM1.kA1 (k := 21) (by decide)) (by decide) (vp_in_nI (by rw [hM1.lnI (k := 21) (by decide)]; show _ < 100; omega) (by rw [hM1.lnI (k := 21) (by decide)]; decide)) dX11_formAt_102 ?_
                  rw [nI_clamp (by omega), hM1.row (k := 21) (by decide) (by decide)]
                  refine z_icmp_le (tgt := 133) g dX11_formAt_103 (by decide) (fun c_103 => ?_) (fun c_103 => ?_)
                  · refine z_iconst (v := 0) g dX11_formAt_133 (by decide) ?_
                    refine z_istore g dX11_formAt_134 (by rw [hN]; decide) ?_
                    refine z_iload g dX11_formAt_136 rfl ?_
                    refine z_iconst (v := (-1)) g dX11_formAt_138 (by decide) ?_
                    refine z_icmp_eq (tgt := 183) g dX11_formAt_139 (by decide) (fun c_139 => ?_) (fun c_139 => (by exact absurd rfl c_139))
                    refine z_iconst (v := 1) g dX11_formAt_183 (by decide) ?_
                    refine z_goto (tgt := 188) g dX11_formAt_184 (by decide) ?_
                    refine z_istore g dX11_formAt_188 (by rw [hN]; decide) ?_
                    refine z_iload g dX11_formAt_190 rfl ?_
                    refine z_if_eq (tgt := 228) g dX11_formAt_192 (by decide) (fun _ => ?_) (fun c_192 => absurd (by decide) c_192)
                    refine z_iload g dX11_formAt_228 rfl ?_
                    refine z_istore g dX11_formAt_230 (by rw [hN]; decide) ?_
                    refine z_iinc1 g dX11_formAt_232 rfl (by rw [hN]; decide) ?_
                    refine z_goto (tgt := 57) g dX11_formAt_235 (by decide) ?_
                    have hs := ih (k - 1) (by omega) (j + 1) (by omega)
                    try (have d180 : q0 < j := by rw [nI_leI (by omega) (by omega)] at c_180; omega)
                    try (have d180 : ¬ q0 < j := by rw [nI_leI (by omega) (by omega)] at c_180; omega)
                    rw [nI_s]
                    first
                      | (rw [show nxt S (lawP S t (gA S 21 n) d kn (exA S (nI f) t kn (cn S 31))) none (j + 1) = some j from if_pos ⟨by simp [lawP, c_74, c_86, c_103], by simp [bhd], by rw [ho]; simp [nles]⟩, o2i0] at hs
                         exact z_to hs ⟨rfl, rfl, rfl, rfl, rfl, rfl, rfl, rfl, rfl, rfl, rfl, trivial⟩)
                      | (rw [show nxt S (lawP S t (gA S 21 n) d kn (exA S (nI f) t kn (cn S 31))) none (j + 1) = nxt S (lawP S t (gA S 21 n) d kn (exA S (nI f) t kn (cn S 31))) none j from if_neg (fun z => by first | (have z1 := z.1; simp [lawP, c_74, c_86, c_103] at z1; done) | (have z1 := z.2.1; simp [bhd] at z1; done) | (have z1 := z.2.2; rw [ho] at z1; simp [nles] at z1; done)), ho] at hs
                         try rw [o2i0] at hs
                         exact z_to hs ⟨rfl, rfl, rfl, rfl, rfl, rfl, rfl, rfl, rfl, rfl, rfl, trivial⟩)
                  · refine z_aload_n g dX11_formAt_106 rfl ?_
                    refine z_getR g fl_X11_74 hM1.k0 (by decide) rfl (hM1.ref (k := 26) (by decide)) dX11_formAt_107 ?_
                    refine z_iload g dX11_formAt_110 rfl ?_
                    refine z_ialdk g (hM1.kA1 (k := 26) (by decide)) (by decide) (vp_in_nI (by rw [hM1.lnI (k := 26) (by decide)]; show _ < 12; omega) (by rw [hM1.lnI (k := 26) (by decide)]; decide)) dX11_formAt_112 ?_
                    rw [nI_clamp (by omega), hM1.row (k := 26) (by decide) (by decide)]
                    refine z_iload_n g dX11_formAt_113 rfl ?_
                    refine z_icmp_gt (tgt := 133) g dX11_formAt_114 (by decide) (fun c_114 => ?_) (fun c_114 => ?_)
                    · refine z_iconst (v := 0) g dX11_formAt_133 (by decide) ?_
                      refine z_istore g dX11_formAt_134 (by rw [hN]; decide) ?_
                      refine z_iload g dX11_formAt_136 rfl ?_
                      refine z_iconst (v := (-1)) g dX11_formAt_138 (by decide) ?_
                      refine z_icmp_eq (tgt := 183) g dX11_formAt_139 (by decide) (fun c_139 => ?_) (fun c_139 => (by exact absurd rfl c_139))
                      refine z_iconst (v := 1) g dX11_formAt_183 (by decide) ?_
                      refine z_goto (tgt := 188) g dX11_formAt_184 (by decide) ?_
                      refine z_istore g dX11_formAt_188 (by rw [hN]; decide) ?_
                      refine z_iload g dX11_formAt_190 rfl ?_
                      refine z_if_eq (tgt := 228) g dX11_formAt_192 (by decide) (fun _ => ?_) (fun c_192 => absurd (by decide) c_192)
                      refine z_iload g dX11_formAt_228 rfl ?_
                      refine z_istore g dX11_formAt_230 (by rw [hN]; decide) ?_
                      refine z_iinc1 g dX11_formAt_232 rfl (by rw [hN]; decide) ?_
                      refine z_goto (tgt := 57) g dX11_formAt_235 (by decide) ?_
                      have hs := ih (k - 1) (by omega) (j + 1) (by omega)
                      try (have d180 : q0 < j := by rw [nI_leI (by omega) (by omega)] at c_180; omega)
                      try (have d180 : ¬ q0 < j := by rw [nI_leI (by omega) (by omega)] at c_180; omega)
                      rw [nI_s]
                      first
                        | (rw [show nxt S (lawP S t (gA S 21 n) d kn (exA S (nI f) t kn (cn S 31))) none (j + 1) = some j from if_pos ⟨by simp [lawP, c_74, c_86, c_103, c_114], by simp [bhd], by rw [ho]; simp [nles]⟩, o2i0] at hs
                           exact z_to hs ⟨rfl, rfl, rfl, rfl, rfl, rfl, rfl, rfl, rfl, rfl, rfl, trivial⟩)
                        | (rw [show nxt S (lawP S t (gA S 21 n) d kn (exA S (nI f) t kn (cn S 31))) none (j + 1) = nxt S (lawP S t (gA S 21 n) d kn (exA S (nI f) t kn (cn S 31))) none j from if_neg (fun z => by first | (have z1 := z.1; simp [lawP, c_74, c_86, c_103, c_114] at z1; done) | (have z1 := z.2.1; simp [bhd] at z1; done) | (have z1 := z.2.2; rw [ho] at z1; simp [nles] at z1; done)), ho] at hs
                           try rw [o2i0] at hs
                           exact z_to hs ⟨rfl, rfl, rfl, rfl, rfl, rfl, rfl, rfl, rfl, rfl, rfl, trivial⟩)
                    · refine z_aload_n g dX11_formAt_117 rfl ?_
                      refine z_getR g fl_X11_74 hM1.k0 (by decide) rfl (hM1.ref (k := 26) (by decide)) dX11_formAt_118 ?_
                      refine z_iload g dX11_formAt_121 rfl ?_
                      refine z_ialdk g (hM1.kA1 (k := 26) (by decide)) (by decide) (vp_in_nI (by rw [hM1.lnI (k := 26) (by decide)]; show _ < 12; omega) (by rw [hM1.lnI (k := 26) (by decide)]; decide)) dX11_formAt_123 ?_
                      rw [nI_clamp (by omega), hM1.row (k := 26) (by decide) (by decide)]
                      refine z_iload g dX11_formAt_124 rfl ?_
                      refine z_icmp_ge (tgt := 133) g dX11_formAt_126 (by decide) (fun c_126 => ?_) (fun c_126 => ?_)
                      · refine z_iconst (v := 0) g dX11_formAt_133 (by decide) ?_
                        refine z_istore g dX11_formAt_134 (by rw [hN]; decide) ?_
                        refine z_iload g dX11_formAt_136 rfl ?_
                        refine z_iconst (v := (-1)) g dX11_formAt_138 (by decide) ?_
                        refine z_icmp_eq (tgt := 183) g dX11_formAt_139 (by decide) (fun c_139 => ?_) (fun c_139 => (by exact absurd rfl c_139))
                        refine z_iconst (v := 1) g dX11_formAt_183 (by decide) ?_
                        refine z_goto (tgt := 188) g dX11_formAt_184 (by decide) ?_
                        refine z_istore g dX11_formAt_188 (by rw [hN]; decide) ?_
                        refine z_iload g dX11_formAt_190 rfl ?_
                        refine z_if_eq (tgt := 228) g dX11_formAt_192 (by decide) (fun _ => ?_) (fun c_192 => absurd (by decide) c_192)
                        refine z_iload g dX11_formAt_228 rfl ?_
                        refine z_istore g dX11_formAt_230 (by rw [hN]; decide) ?_
                        refine z_iinc1 g dX11_formAt_232 rfl (by rw [hN]; decide) ?_
                        refine z_goto (tgt := 57) g dX11_formAt_235 (by decide) ?_
                        have hs := ih (k - 1) (by omega) (j + 1) (by omega)
                        try (have d180 : q0 < j := by rw [nI_leI (by omega) (by omega)] at c_180; omega)
                        try (have d180 : ¬ q0 < j := by rw [nI_leI (by omega) (by omega)] at c_180; omega)
                        rw [nI_s]
                        first
                          | (rw [show nxt S (lawP S t (gA S 21 n) d kn (exA S (nI f) t kn (cn S 31))) none (j + 1) = some j from if_pos ⟨by simp [lawP, c_74, c_86, c_103, c_114, c_126], by simp [bhd], by rw [ho]; simp [nles]⟩, o2i0] at hs
                             exact z_to hs ⟨rfl, rfl, rfl, rfl, rfl, rfl, rfl, rfl, rfl, rfl, rfl, trivial⟩)
                          | (rw [show nxt S (lawP S t (gA S 21 n) d kn (exA S (nI f) t kn (cn S 31))) none (j + 1) = nxt S (lawP S t (gA S 21 n) d kn (exA S (nI f) t kn (cn S 31))) none j from if_neg (fun z => by first | (have z1 := z.1; simp [lawP, c_74, c_86, c_103, c_114, c_126] at z1; done) | (have z1 := z.2.1; simp [bhd] at z1; done) | (have z1 := z.2.2; rw [ho] at z1; simp [nles] at z1; done)), ho] at hs
                             try rw [o2i0] at hs
                             exact z_to hs ⟨rfl, rfl, rfl, rfl, rfl, rfl, rfl, rfl, rfl, rfl, rfl, trivial⟩)
                      · refine z_iconst (v := 1) g dX11_formAt_129 (by decide) ?_
                        refine z_goto (tgt := 134) g dX11_formAt_130 (by decide) ?_
                        refine z_istore g dX11_formAt_134 (by rw [hN]; decide) ?_
                        refine z_iload g dX11_formAt_136 rfl ?_
                        refine z_iconst (v := (-1)) g dX11_formAt_138 (by decide) ?_
                        refine z_icmp_eq (tgt := 183) g dX11_formAt_139 (by decide) (fun c_139 => ?_) (fun c_139 => (by exact absurd rfl c_139))
                        refine z_iconst (v := 1) g dX11_formAt_183 (by decide) ?_
                        refine z_goto (tgt := 188) g dX11_formAt_184 (by decide) ?_
                        refine z_istore g dX11_formAt_188 (by rw [hN]; decide) ?_
                        refine z_iload g dX11_formAt_190 rfl ?_
                        refine z_if_eq (tgt := 228) g dX11_formAt_192 (by decide) (fun c_192 => absurd c_192 (by decide)) (fun _ => ?_)
                        refine z_iload g dX11_formAt_195 rfl ?_
                        refine z_if_eq (tgt := 228) g dX11_formAt_197 (by decide) (fun c_197 => absurd c_197 (by decide)) (fun _ => ?_)
                        refine z_iload g dX11_formAt_200 rfl ?_
                        refine z_iconst (v := (-1)) g dX11_formAt_202 (by decide) ?_
                        refine z_icmp_eq (tgt := 223) g dX11_formAt_203 (by decide) (fun c_203 => (by exact absurd c_203 (m1_ne (by omega)))) (fun c_203 => ?_)
                        refine z_aload_n g dX11_formAt_206 rfl ?_
                        refine z_getR g fl_X11_74 hM1.k0 (by decide) rfl (hM1.ref (k := 26) (by decide)) dX11_formAt_207 ?_
                        refine z_iload g dX11_formAt_210 rfl ?_
                        refine z_ialdk g (hM1.kA1 (k := 26) (by decide)) (by decide) (vp_in_nI (by rw [hM1.lnI (k := 26) (by decide)]; show _ < 12; omega) (by rw [hM1.lnI (k := 26) (by decide)]; decide)) dX11_formAt_212 ?_
                        rw [nI_clamp (by omega), hM1.row (k := 26) (by decide) (by decide)]
                        refine z_aload_n g dX11_formAt_213 rfl ?_
                        refine z_getR g fl_X11_74 hM1.k0 (by decide) rfl (hM1.ref (k := 26) (by decide)) dX11_formAt_214 ?_
                        refine z_iload g dX11_formAt_217 rfl ?_
                        refine z_ialdk g (hM1.kA1 (k := 26) (by decide)) (by decide) (vp_in_nI (by rw [hM1.lnI (k := 26) (by decide)]; show _ < 12; omega) (by rw [hM1.lnI (k := 26) (by decide)]; decide)) dX11_formAt_219 ?_
                        rw [nI_clamp (by omega), hM1.row (k := 26) (by decide) (by decide)]
                        refine z_icmp_ge (tgt := 228) g dX11_formAt_220 (by decide) (fun c_220 => ?_) (fun c_220 => ?_)
                        · refine z_iload g dX11_formAt_228 rfl ?_
                          refine z_istore g dX11_formAt_230 (by rw [hN]; decide) ?_
                          refine z_iinc1 g dX11_formAt_232 rfl (by rw [hN]; decide) ?_
                          refine z_goto (tgt := 57) g dX11_formAt_235 (by decide) ?_
                          have hs := ih (k - 1) (by omega) (j + 1) (by omega)
                          try (have d180 : q0 < j := by rw [nI_leI (by omega) (by omega)] at c_180; omega)
                          try (have d180 : ¬ q0 < j := by rw [nI_leI (by omega) (by omega)] at c_180; omega)
                          rw [nI_s]
                          first
                            | (rw [show nxt S (lawP S t (gA S 21 n) d kn (exA S (nI f) t kn (cn S 31))) none (j + 1) = some j from if_pos ⟨by simp [lawP, c_74, c_86, c_103, c_114, c_126], by simp [bhd], by rw [ho]; simp [nles, c_220]⟩, o2i0] at hs
                               exact z_to hs ⟨rfl, rfl, rfl, rfl, rfl, rfl, rfl, rfl, rfl, rfl, rfl, trivial⟩)
                            | (rw [show nxt S (lawP S t (gA S 21 n) d kn (exA S (nI f) t kn (cn S 31))) none (j + 1) = nxt S (lawP S t (gA S 21 n) d kn (exA S (nI f) t kn (cn S 31))) none j from if_neg (fun z => by first | (have z1 := z.1; simp [lawP, c_74, c_86, c_103, c_114, c_126] at z1; done) | (have z1 := z.2.1; simp [bhd] at z1; done) | (have z1 := z.2.2; rw [ho] at z1; simp [nles, c_220] at z1; done)), ho] at hs
                               try rw [o2i0] at hs
                               exact z_to hs ⟨rfl, rfl, rfl, rfl, rfl, rfl, rfl, rfl, rfl, rfl, rfl, trivial⟩)
                        · refine z_iload g dX11_formAt_223 rfl ?_
                          refine z_goto (tgt := 230) g dX11_formAt_225 (by decide) ?_
                          refine z_istore g dX11_formAt_230 (by rw [hN]; decide) ?_
                          refine z_iinc1 g dX11_formAt_232 rfl (by rw [hN]; decide) ?_
                          refine z_goto (tgt := 57) g dX11_formAt_235 (by decide) ?_
                          have hs := ih (k - 1) (by omega) (j + 1) (by omega)
                          try (have d180 : q0 < j := by rw [nI_leI (by omega) (by omega)] at c_180; omega)
                          try (have d180 : ¬ q0 < j := by rw [nI_leI (by omega) (by omega)] at c_180; omega)
                          rw [nI_s]
                          first
                            | (rw [show nxt S (lawP S t (gA S 21 n) d kn (exA S (nI f) t kn (cn S 31))) none (j + 1) = some j from if_pos ⟨by simp [lawP, c_74, c_86, c_103, c_114, c_126], by simp [bhd], by rw [ho]; simp [nles, c_220]⟩, o2i0] at hs
                               exact z_to hs ⟨rfl, rfl, rfl, rfl, rfl, rfl, rfl, rfl, rfl, rfl, rfl, trivial⟩)
                            | (rw [show nxt S (lawP S t (gA S 21 n) d kn (exA S (nI f) t kn (cn S 31))) none (j + 1) = nxt S (lawP S t (gA S 21 n) d kn (exA S (nI f) t kn (cn S 31))) none j from if_neg (fun z => by first | (have z1 := z.1; simp [lawP, c_74, c_86, c_103, c_114, c_126] at z1; done) | (have z1 := z.2.1; simp [bhd] at z1; done) | (have z1 := z.2.2; rw [ho] at z1; simp [nles, c_220] at z1; done)), ho] at hs
                               try rw [o2i0] at hs
                               exact z_to hs ⟨rfl, rfl, rfl, rfl, rfl, rfl, rfl, rfl, rfl, rfl, rfl, trivial⟩)
        refine z_iload g dX11_formAt_46 rfl ?_
        refine z_if_eq (tgt := 269) g dX11_formAt_48 (by decide) (fun c_48 => absurd c_48 (by decide)) (fun _ => ?_)
        refine z_iconst (v := (-1)) g dX11_formAt_51 (by decide) ?_
        refine z_istore g dX11_formAt_52 (by rw [hN]; decide) ?_
        refine z_iconst (v := 0) g dX11_formAt_54 (by decide) ?_
        refine z_istore g dX11_formAt_55 (by rw [hN]; decide) ?_
        exact z_to (inner _ 0 rfl) ⟨rfl, rfl, rfl, rfl, rfl, rfl, rfl, rfl, rfl, rfl, rfl, trivial⟩
      · rw [o2i0]
        have hq0' := hq0 q0 rfl
        have inner : ∀ (k j : Nat) (hk : k + j = cn S 24), Z X M1 0 0 57 [(0, .ref m), (1, .int (nI f)), (2, .int t), (3, .int d), (4, .int kn), (5, .int (nI n)), (6, .int (exA S (nI f) t kn (cn S 31))), (7, .int (nI q0)), (8, .int 1), (9, .int (o2i 0 (nxt S (lawP S t (gA S 21 n) d kn (exA S (nI f) t kn (cn S 31))) (some q0) j))), (10, .int (nI j))] [] := by
          intro k
          induction k using Nat.strongRecOn with
          | _ k ih =>
            intro j hk
            rcases ho : nxt S (lawP S t (gA S 21 n) d kn (exA S (nI f) t kn (cn S 31))) (some q0) j with _ | q
            · show Z X M1 0 0 57 [(0, .ref m), (1, .int (nI f)), (2, .int t), (3, .int d), (4, .int kn), (5, .int (nI n)), (6, .int (exA S (nI f) t kn (cn S 31))), (7, .int (nI q0)), (8, .int 1), (9, .int (-1)), (10, .int (nI j))] []
              refine z_iload g dX11_formAt_57 rfl ?_
              refine z_aload_n g dX11_formAt_59 rfl ?_
              refine z_getI g fl_X11_219 hM1.k0 (by decide) rfl dX11_formAt_60 ?_
              rw [hM1.sc (k := 24) (by decide) (by decide)]
              rw [hL.1]
              refine z_icmp_ge (tgt := 238) g dX11_formAt_63 (by decide) (fun c_63 => ?_) (fun c_63 => ?_)
              · rw [nI_leI (by omega) (by omega)] at c_63
                rw [show j = cn S 24 by omega] at ho
                have h9 := after M1 (some q0) _ se hLt (by first | exact hq0 | exact fun q h => nomatch h) hind ho
                try rw [o2i0] at h9
                exact z_to h9 ⟨rfl, rfl, rfl, rfl, rfl, rfl, rfl, rfl, trivial⟩
              have h63 : j < cn S 24 := by rw [nI_leI (by omega) (by omega)] at c_63; omega
              refine z_aload_n g dX11_formAt_66 rfl ?_
              refine z_getR g fl_X11_71 hM1.k0 (by decide) rfl (hM1.ref (k := 25) (by decide)) dX11_formAt_67 ?_
              refine z_iload g dX11_formAt_70 rfl ?_
              refine z_ialdk g (hM1.kA1 (k := 25) (by decide)) (by decide) (vp_in_nI (by rw [hM1.lnI (k := 25) (by decide)]; show _ < 12; omega) (by rw [hM1.lnI (k := 25) (by decide)]; decide)) dX11_formAt_72 ?_
              rw [nI_clamp (by omega), hM1.row (k := 25) (by decide) (by decide)]
              refine z_iload_n g dX11_formAt_73 rfl ?_
              refine z_icmp_ne (tgt := 133) g dX11_formAt_74 (by decide) (fun c_74 => ?_) (fun c_74 => ?_)
              · refine z_iconst (v := 0) g dX11_formAt_133 (by decide) ?_
                refine z_istore g dX11_formAt_134 (by rw [hN]; decide) ?_
                refine z_iload g dX11_formAt_136 rfl ?_
                refine z_iconst (v := (-1)) g dX11_formAt_138 (by decide) ?_
                refine z_icmp_eq (tgt := 183) g dX11_formAt_139 (by decide) (fun c_139 => (by exact absurd c_139 (m1_ne (by omega)))) (fun c_139 => ?_)
                refine z_aload_n g dX11_formAt_142 rfl ?_
                refine z_getR g fl_X11_74 hM1.k0 (by decide) rfl (hM1.ref (k := 26) (by decide)) dX11_formAt_143 ?_
                refine z_iload g dX11_formAt_146 rfl ?_
                refine z_ialdk g (hM1.kA1 (k := 26) (by decide)) (by decide) (vp_in_nI (by rw [hM1.lnI (k := 26) (by decide)]; show _ < 12; omega) (by rw [hM1.lnI (k := 26) (by decide)]; decide)) dX11_formAt_148 ?_
                rw [nI_clamp (by omega), hM1.row (k := 26) (by decide) (by decide)]
                refine z_aload_n g dX11_formAt_149 rfl ?_
                refine z_getR g fl_X11_74 hM1.k0 (by decide) rfl (hM1.ref (k := 26) (by decide)) dX11_formAt_150 ?_
                refine z_iload g dX11_formAt_153 rfl ?_
                refine z_ialdk g (hM1.kA1 (k := 26) (by decide)) (by decide) (vp_in_nI (by rw [hM1.lnI (k := 26) (by decide)]; show _ < 12; omega) (by rw [hM1.lnI (k := 26) (by decide)]; decide)) dX11_formAt_155 ?_
                rw [nI_clamp (by omega), hM1.row (k := 26) (by decide) (by decide)]
                refine z_icmp_gt (tgt := 183) g dX11_formAt_156 (by decide) (fun c_156 => ?_) (fun c_156 => ?_)
                · refine z_iconst (v := 1) g dX11_formAt_183 (by decide) ?_
                  refine z_goto (tgt := 188) g dX11_formAt_184 (by decide) ?_
                  refine z_istore g dX11_formAt_188 (by rw [hN]; decide) ?_
                  refine z_iload g dX11_formAt_190 rfl ?_
                  refine z_if_eq (tgt := 228) g dX11_formAt_192 (by decide) (fun _ => ?_) (fun c_192 => absurd (by decide) c_192)
                  refine z_iload g dX11_formAt_228 rfl ?_
                  refine z_istore g dX11_formAt_230 (by rw [hN]; decide) ?_
                  refine z_iinc1 g dX11_formAt_232 rfl (by rw [hN]; decide) ?_
                  refine z_goto (tgt := 57) g dX11_formAt_235 (by decide) ?_
                  have hs := ih (k - 1) (by omega) (j + 1) (by omega)
                  try (have d180 : q0 < j := by rw [nI_leI (by omega) (by omega)] at c_180; omega)
                  try (have d180 : ¬ q0 < j := by rw [nI_leI (by omega) (by omega)] at c_180; omega)
                  rw [nI_s]
                  first
                    | (rw [show nxt S (lawP S t (gA S 21 n) d kn (exA S (nI f) t kn (cn S 31))) (some q0) (j + 1) = some j from if_pos ⟨by simp [lawP, c_74], by simp [bhd, c_156], by rw [ho]; simp [nles]⟩, o2i0] at hs
                       exact z_to hs ⟨rfl, rfl, rfl, rfl, rfl, rfl, rfl, rfl, rfl, rfl, rfl, trivial⟩)
                    | (rw [show nxt S (lawP S t (gA S 21 n) d kn (exA S (nI f) t kn (cn S 31))) (some q0) (j + 1) = nxt S (lawP S t (gA S 21 n) d kn (exA S (nI f) t kn (cn S 31))) (some q0) j from if_neg (fun z => by first | (have z1 := z.1; simp [lawP, c_74] at z1; done) | (have z1 := z.2.1; simp [bhd, c_156] at z1; done) | (have z1 := z.2.2; rw [ho] at z1; simp [nles] at z1; done)), ho] at hs
                       try rw [o2i0] at hs
                       exact z_to hs ⟨rfl, rfl, rfl, rfl, rfl, rfl, rfl, rfl, rfl, rfl, rfl, trivial⟩)
                · refine z_aload_n g dX11_formAt_159 rfl ?_
                  refine z_getR g fl_X11_74 hM1.k0 (by decide) rfl (hM1.ref (k := 26) (by decide)) dX11_formAt_160 ?_
                  refine z_iload g dX11_formAt_163 rfl ?_
                  refine z_ialdk g (hM1.kA1 (k := 26) (by decide)) (by decide) (vp_in_nI (by rw [hM1.lnI (k := 26) (by decide)]; show _ < 12; omega) (by rw [hM1.lnI (k := 26) (by decide)]; decide)) dX11_formAt_165 ?_
                  rw [nI_clamp (by omega), hM1.row (k := 26) (by decide) (by decide)]
                  refine z_aload_n g dX11_formAt_166 rfl ?_
                  refine z_getR g fl_X11_74 hM1.k0 (by decide) rfl (hM1.ref (k := 26) (by decide)) dX11_formAt_167 ?_
                  refine z_iload g dX11_formAt_170 rfl ?_
                  refine z_ialdk g (hM1.kA1 (k := 26) (by decide)) (by decide) (vp_in_nI (by rw [hM1.lnI (k := 26) (by decide)]; show _ < 12; omega) (by rw [hM1.lnI (k := 26) (by decide)]; decide)) dX11_formAt_172 ?_
                  rw [nI_clamp (by omega), hM1.row (k := 26) (by decide) (by decide)]
                  refine z_icmp_ne (tgt := 187) g dX11_formAt_173 (by decide) (fun c_173 => ?_) (fun c_173 => ?_)
                  · refine z_iconst (v := 0) g dX11_formAt_187 (by decide) ?_
                    refine z_istore g dX11_formAt_188 (by rw [hN]; decide) ?_
                    refine z_iload g dX11_formAt_190 rfl ?_
                    refine z_if_eq (tgt := 228) g dX11_formAt_192 (by decide) (fun _ => ?_) (fun c_192 => absurd (by decide) c_192)
                    refine z_iload g dX11_formAt_228 rfl ?_
                    refine z_istore g dX11_formAt_230 (by rw [hN]; decide) ?_
                    refine z_iinc1 g dX11_formAt_232 rfl (by rw [hN]; decide) ?_
                    refine z_goto (tgt := 57) g dX11_formAt_235 (by decide) ?_
                    have hs := ih (k - 1) (by omega) (j + 1) (by omega)
                    try (have d180 : q0 < j := by rw [nI_leI (by omega) (by omega)] at c_180; omega)
                    try (have d180 : ¬ q0 < j := by rw [nI_leI (by omega) (by omega)] at c_180; omega)
                    rw [nI_s]
                    first
                      | (rw [show nxt S (lawP S t (gA S 21 n) d kn (exA S (nI f) t kn (cn S 31))) (some q0) (j + 1) = some j from if_pos ⟨by simp [lawP, c_74], by simp [bhd, c_156, c_173], by rw [ho]; simp [nles]⟩, o2i0] at hs
                         exact z_to hs ⟨rfl, rfl, rfl, rfl, rfl, rfl, rfl, rfl, rfl, rfl, rfl, trivial⟩)
                      | (rw [show nxt S (lawP S t (gA S 21 n) d kn (exA S (nI f) t kn (cn S 31))) (some q0) (j + 1) = nxt S (lawP S t (gA S 21 n) d kn (exA S (nI f) t kn (cn S 31))) (some q0) j from if_neg (fun z => by first | (have z1 := z.1; simp [lawP, c_74] at z1; done) | (have z1 := z.2.1; simp [bhd, c_156, c_173] at z1; done) | (have z1 := z.2.2; rw [ho] at z1; simp [nles] at z1; done)), ho] at hs
                         try rw [o2i0] at hs
                         exact z_to hs ⟨rfl, rfl, rfl, rfl, rfl, rfl, rfl, rfl, rfl, rfl, rfl, trivial⟩)
                  · refine z_iload g dX11_formAt_176 rfl ?_
                    refine z_iload g dX11_formAt_178 rfl ?_
                    refine z_icmp_le (tgt := 187) g dX11_formAt_180 (by decide) (fun c_180 => ?_) (fun c_180 => ?_)
                    · refine z_iconst (v := 0) g dX11_formAt_187 (by decide) ?_
                      refine z_istore g dX11_formAt_188 (by rw [hN]; decide) ?_
                      refine z_iload g dX11_formAt_190 rfl ?_
                      refine z_if_eq (tgt := 228) g dX11_formAt_192 (by decide) (fun _ => ?_) (fun c_192 => absurd (by decide) c_192)
                      refine z_iload g dX11_formAt_228 rfl ?_
                      refine z_istore g dX11_formAt_230 (by rw [hN]; decide) ?_
                      refine z_iinc1 g dX11_formAt_232 rfl (by rw [hN]; decide) ?_
                      refine z_goto (tgt := 57) g dX11_formAt_235 (by decide) ?_
                      have hs := ih (k - 1) (by omega) (j + 1) (by omega)
                      try (have d180 : q0 < j := by rw [nI_leI (by omega) (by omega)] at c_180; omega)
                      try (have d180 : ¬ q0 < j := by rw [nI_leI (by omega) (by omega)] at c_180; omega)
                      rw [nI_s]
                      first
                        | (rw [show nxt S (lawP S t (gA S 21 n) d kn (exA S (nI f) t kn (cn S 31))) (some q0) (j + 1) = some j from if_pos ⟨by simp [lawP, c_74], by simp [bhd, c_156, c_173, d180], by rw [ho]; simp [nles]⟩, o2i0] at hs
                           exact z_to hs ⟨rfl, rfl, rfl, rfl, rfl, rfl, rfl, rfl, rfl, rfl, rfl, trivial⟩)
                        | (rw [show nxt S (lawP S t (gA S 21 n) d kn (exA S (nI f) t kn (cn S 31))) (some q0) (j + 1) = nxt S (lawP S t (gA S 21 n) d kn (exA S (nI f) t kn (cn S 31))) (some q0) j from if_neg (fun z => by first | (have z1 := z.1; simp [lawP, c_74] at z1; done) | (have z1 := z.2.1; simp [bhd, c_156, c_173, d180] at z1; done) | (have z1 := z.2.2; rw [ho] at z1; simp [nles] at z1; done)), ho] at hs
                           try rw [o2i0] at hs
                           exact z_to hs ⟨rfl, rfl, rfl, rfl, rfl, rfl, rfl, rfl, rfl, rfl, rfl, trivial⟩)
                    · refine z_iconst (v := 1) g dX11_formAt_183 (by decide) ?_
                      refine z_goto (tgt := 188) g dX11_formAt_184 (by decide) ?_
                      refine z_istore g dX11_formAt_188 (by rw [hN]; decide) ?_
                      refine z_iload g dX11_formAt_190 rfl ?_
                      refine z_if_eq (tgt := 228) g dX11_formAt_192 (by decide) (fun _ => ?_) (fun c_192 => absurd (by decide) c_192)
                      refine z_iload g dX11_formAt_228 rfl ?_
                      refine z_istore g dX11_formAt_230 (by rw [hN]; decide) ?_
                      refine z_iinc1 g dX11_formAt_232 rfl (by rw [hN]; decide) ?_
                      refine z_goto (tgt := 57) g dX11_formAt_235 (by decide) ?_
                      have hs := ih (k - 1) (by omega) (j + 1) (by omega)
                      try (have d180 : q0 < j := by rw [nI_leI (by omega) (by omega)] at c_180; omega)
                      try (have d180 : ¬ q0 < j := by rw [nI_leI (by omega) (by omega)] at c_180; omega)
                      rw [nI_s]
                      first
                        | (rw [show nxt S (lawP S t (gA S 21 n) d kn (exA S (nI f) t kn (cn S 31))) (some q0) (j + 1) = some j from if_pos ⟨by simp [lawP, c_74], by simp [bhd, c_156, c_173, d180], by rw [ho]; simp [nles]⟩, o2i0] at hs
                           exact z_to hs ⟨rfl, rfl, rfl, rfl, rfl, rfl, rfl, rfl, rfl, rfl, rfl, trivial⟩)
                        | (rw [show nxt S (lawP S t (gA S 21 n) d kn (exA S (nI f) t kn (cn S 31))) (some q0) (j + 1) = nxt S (lawP S t (gA S 21 n) d kn (exA S (nI f) t kn (cn S 31))) (some q0) j from if_neg (fun z => by first | (have z1 := z.1; simp [lawP, c_74] at z1; done) | (have z1 := z.2.1; simp [bhd, c_156, c_173, d180] at z1; done) | (have z1 := z.2.2; rw [ho] at z1; simp [nles] at z1; done)), ho] at hs
                           try rw [o2i0] at hs
                           exact z_to hs ⟨rfl, rfl, rfl, rfl, rfl, rfl, rfl, rfl, rfl, rfl, rfl, trivial⟩)
              · refine z_aload_n g dX11_formAt_77 rfl ?_
                refine z_getR g fl_X11_86 hM1.k0 (by decide) rfl (hM1.ref (k := 30) (by decide)) dX11_formAt_78 ?_
                refine z_iload g dX11_formAt_81 rfl ?_
                refine z_ialdk g (hM1.kA1 (k := 30) (by decide)) (by decide) (vp_in_nI (by rw [hM1.lnI (k := 30) (by decide)]; show _ < 12; omega) (by rw [hM1.lnI (k := 30) (by decide)]; decide)) dX11_formAt_83 ?_
                rw [nI_clamp (by omega), hM1.row (k := 30) (by decide) (by decide)]
                refine z_iload g dX11_formAt_84 rfl ?_
                refine z_icmp_gt (tgt := 133) g dX11_formAt_86 (by decide) (fun c_86 => ?_) (fun c_86 => ?_)
                · refine z_iconst (v := 0) g dX11_formAt_133 (by decide) ?_
                  refine z_istore g dX11_formAt_134 (by rw [hN]; decide) ?_
                  refine z_iload g dX11_formAt_136 rfl ?_
                  refine z_iconst (v := (-1)) g dX11_formAt_138 (by decide) ?_
                  refine z_icmp_eq (tgt := 183) g dX11_formAt_139 (by decide) (fun c_139 => (by exact absurd c_139 (m1_ne (by omega)))) (fun c_139 => ?_)
                  refine z_aload_n g dX11_formAt_142 rfl ?_
                  refine z_getR g fl_X11_74 hM1.k0 (by decide) rfl (hM1.ref (k := 26) (by decide)) dX11_formAt_143 ?_
                  refine z_iload g dX11_formAt_146 rfl ?_
                  refine z_ialdk g (hM1.kA1 (k := 26) (by decide)) (by decide) (vp_in_nI (by rw [hM1.lnI (k := 26) (by decide)]; show _ < 12; omega) (by rw [hM1.lnI (k := 26) (by decide)]; decide)) dX11_formAt_148 ?_
                  rw [nI_clamp (by omega), hM1.row (k := 26) (by decide) (by decide)]
                  refine z_aload_n g dX11_formAt_149 rfl ?_
                  refine z_getR g fl_X11_74 hM1.k0 (by decide) rfl (hM1.ref (k := 26) (by decide)) dX11_formAt_150 ?_
                  refine z_iload g dX11_formAt_153 rfl ?_
                  refine z_ialdk g (hM1.kA1 (k := 26) (by decide)) (by decide) (vp_in_nI (by rw [hM1.lnI (k := 26) (by decide)]; show _ < 12; omega) (by rw [hM1.lnI (k := 26) (by decide)]; decide)) dX11_formAt_155 ?_
                  rw [nI_clamp (by omega), hM1.row (k := 26) (by decide) (by decide)]
                  refine z_icmp_gt (tgt := 183) g dX11_formAt_156 (by decide) (fun c_156 => ?_) (fun c_156 => ?_)
                  · refine z_iconst (v := 1) g dX11_formAt_183 (by decide) ?_
                    refine z_goto (tgt := 188) g dX11_formAt_184 (by decide) ?_
                    refine z_istore g dX11_formAt_188 (by rw [hN]; decide) ?_
                    refine z_iload g dX11_formAt_190 rfl ?_
                    refine z_if_eq (tgt := 228) g dX11_formAt_192 (by decide) (fun _ => ?_) (fun c_192 => absurd (by decide) c_192)
                    refine z_iload g dX11_formAt_228 rfl ?_
                    refine z_istore g dX11_formAt_230 (by rw [hN]; decide) ?_
                    refine z_iinc1 g dX11_formAt_232 rfl (by rw [hN]; decide) ?_
                    refine z_goto (tgt := 57) g dX11_formAt_235 (by decide) ?_
                    have hs := ih (k - 1) (by omega) (j + 1) (by omega)
                    try (have d180 : q0 < j := by rw [nI_leI (by omega) (by omega)] at c_180; omega)
                    try (have d180 : ¬ q0 < j := by rw [nI_leI (by omega) (by omega)] at c_180; omega)
                    rw [nI_s]
                    first
                      | (rw [show nxt S (lawP S t (gA S 21 n) d kn (exA S (nI f) t kn (cn S 31))) (some q0) (j + 1) = some j from if_pos ⟨by simp [lawP, c_74, c_86], by simp [bhd, c_156], by rw [ho]; simp [nles]⟩, o2i0] at hs
                         exact z_to hs ⟨rfl, rfl, rfl, rfl, rfl, rfl, rfl, rfl, rfl, rfl, rfl, trivial⟩)
                      | (rw [show nxt S (lawP S t (gA S 21 n) d kn (exA S (nI f) t kn (cn S 31))) (some q0) (j + 1) = nxt S (lawP S t (gA S 21 n) d kn (exA S (nI f) t kn (cn S 31))) (some q0) j from if_neg (fun z => by first | (have z1 := z.1; simp [lawP, c_74, c_86] at z1; done) | (have z1 := z.2.1; simp [bhd, c_156] at z1; done) | (have z1 := z.2.2; rw [ho] at z1; simp [nles] at z1; done)), ho] at hs
                         try rw [o2i0] at hs
                         exact z_to hs ⟨rfl, rfl, rfl, rfl, rfl, rfl, rfl, rfl, rfl, rfl, rfl, trivial⟩)
                  · refine z_aload_n g dX11_formAt_159 rfl ?_
                    refine z_getR g fl_X11_74 hM1.k0 (by decide) rfl (hM1.ref (k := 26) (by decide)) dX11_formAt_160 ?_
                    refine z_iload g dX11_formAt_163 rfl ?_
                    refine z_ialdk g (hM1.kA1 (k := 26) (by decide)) (by decide) (vp_in_nI (by rw [hM1.lnI (k := 26) (by decide)]; show _ < 12; omega) (by rw [hM1.lnI (k := 26) (by decide)]; decide)) dX11_formAt_165 ?_
                    rw [nI_clamp (by omega), hM1.row (k := 26) (by decide) (by decide)]
                    refine z_aload_n g dX11_formAt_166 rfl ?_
                    refine z_getR g fl_X11_74 hM1.k0 (by decide) rfl (hM1.ref (k := 26) (by decide)) dX11_formAt_167 ?_
                    refine z_iload g dX11_formAt_170 rfl ?_
                    refine z_ialdk g (hM1.kA1 (k := 26) (by decide)) (by decide) (vp_in_nI (by rw [hM1.lnI (k := 26) (by decide)]; show _ < 12; omega) (by rw [hM1.lnI (k := 26) (by decide)]; decide)) dX11_formAt_172 ?_
                    rw [nI_clamp (by omega), hM1.row (k := 26) (by decide) (by decide)]
                    refine z_icmp_ne (tgt := 187) g dX11_formAt_173 (by decide) (fun c_173 => ?_) (fun c_173 => ?_)
                    · refine z_iconst (v := 0) g dX11_formAt_187 (by decide) ?_
                      refine z_istore g dX11_formAt_188 (by rw [hN]; decide) ?_
                      refine z_iload g dX11_formAt_190 rfl ?_
                      refine z_if_eq (tgt := 228) g dX11_formAt_192 (by decide) (fun _ => ?_) (fun c_192 => absurd (by decide) c_192)
                      refine z_iload g dX11_formAt_228 rfl ?_
                      refine z_istore g dX11_formAt_230 (by rw [hN]; decide) ?_
                      refine z_iinc1 g dX11_formAt_232 rfl (by rw [hN]; decide) ?_
                      refine z_goto (tgt := 57) g dX11_formAt_235 (by decide) ?_
                      have hs := ih (k - 1) (by omega) (j + 1) (by omega)
                      try (have d180 : q0 < j := by rw [nI_leI (by omega) (by omega)] at c_180; omega)
                      try (have d180 : ¬ q0 < j := by rw [nI_leI (by omega) (by omega)] at c_180; omega)
                      rw [nI_s]
                      first
                        | (rw [show nxt S (lawP S t (gA S 21 n) d kn (exA S (nI f) t kn (cn S 31))) (some q0) (j + 1) = some j from if_pos ⟨by simp [lawP, c_74, c_86], by simp [bhd, c_156, c_173], by rw [ho]; simp [nles]⟩, o2i0] at hs
                           exact z_to hs ⟨rfl, rfl, rfl, rfl, rfl, rfl, rfl, rfl, rfl, rfl, rfl, trivial⟩)
                        | (rw [show nxt S (lawP S t (gA S 21 n) d kn (exA S (nI f) t kn (cn S 31))) (some q0) (j + 1) = nxt S (lawP S t (gA S 21 n) d kn (exA S (nI f) t kn (cn S 31))) (some q0) j from if_neg (fun z => by first | (have z1 := z.1; simp [lawP, c_74, c_86] at z1; done) | (have z1 := z.2.1; simp [bhd, c_156, c_173] at z1; done) | (have z1 := z.2.2; rw [ho] at z1; simp [nles] at z1; done)), ho] at hs
                           try rw [o2i0] at hs
                           exact z_to hs ⟨rfl, rfl, rfl, rfl, rfl, rfl, rfl, rfl, rfl, rfl, rfl, trivial⟩)
                    · refine z_iload g dX11_formAt_176 rfl ?_
                      refine z_iload g dX11_formAt_178 rfl ?_
                      refine z_icmp_le (tgt := 187) g dX11_formAt_180 (by decide) (fun c_180 => ?_) (fun c_180 => ?_)
                      · refine z_iconst (v := 0) g dX11_formAt_187 (by decide) ?_
                        refine z_istore g dX11_formAt_188 (by rw [hN]; decide) ?_
                        refine z_iload g dX11_formAt_190 rfl ?_
                        refine z_if_eq (tgt := 228) g dX11_formAt_192 (by decide) (fun _ => ?_) (fun c_192 => absurd (by decide) c_192)
                        refine z_iload g dX11_formAt_228 rfl ?_
                        refine z_istore g dX11_formAt_230 (by rw [hN]; decide) ?_
                        refine z_iinc1 g dX11_formAt_232 rfl (by rw [hN]; decide) ?_
                        refine z_goto (tgt := 57) g dX11_formAt_235 (by decide) ?_
                        have hs := ih (k - 1) (by omega) (j + 1) (by omega)
                        try (have d180 : q0 < j := by rw [nI_leI (by omega) (by omega)] at c_180; omega)
                        try (have d180 : ¬ q0 < j := by rw [nI_leI (by omega) (by omega)] at c_180; omega)
                        rw [nI_s]
                        first
                          | (rw [show nxt S (lawP S t (gA S 21 n) d kn (exA S (nI f) t kn (cn S 31))) (some q0) (j + 1) = some j from if_pos ⟨by simp [lawP, c_74, c_86], by simp [bhd, c_156, c_173, d180], by rw [ho]; simp [nles]⟩, o2i0] at hs
                             exact z_to hs ⟨rfl, rfl, rfl, rfl, rfl, rfl, rfl, rfl, rfl, rfl, rfl, trivial⟩)
                          | (rw [show nxt S (lawP S t (gA S 21 n) d kn (exA S (nI f) t kn (cn S 31))) (some q0) (j + 1) = nxt S (lawP S t (gA S 21 n) d kn (exA S (nI f) t kn (cn S 31))) (some q0) j from if_neg (fun z => by first | (have z1 := z.1; simp [lawP, c_74, c_86] at z1; done) | (have z1 := z.2.1; simp [bhd, c_156, c_173, d180] at z1; done) | (have z1 := z.2.2; rw [ho] at z1; simp [nles] at z1; done)), ho] at hs
                             try rw [o2i0] at hs
                             exact z_to hs ⟨rfl, rfl, rfl, rfl, rfl, rfl, rfl, rfl, rfl, rfl, rfl, trivial⟩)
                      · refine z_iconst (v := 1) g dX11_formAt_183 (by decide) ?_
                        refine z_goto (tgt := 188) g dX11_formAt_184 (by decide) ?_
                        refine z_istore g dX11_formAt_188 (by rw [hN]; decide) ?_
                        refine z_iload g dX11_formAt_190 rfl ?_
                        refine z_if_eq (tgt := 228) g dX11_formAt_192 (by decide) (fun _ => ?_) (fun c_192 => absurd (by decide) c_192)
                        refine z_iload g dX11_formAt_228 rfl ?_
                        refine z_istore g dX11_formAt_230 (by rw [hN]; decide) ?_
                        refine z_iinc1 g dX11_formAt_232 rfl (by rw [hN]; decide) ?_
                        refine z_goto (tgt := 57) g dX11_formAt_235 (by decide) ?_
                        have hs := ih (k - 1) (by omega) (j + 1) (by omega)
                        try (have d180 : q0 < j := by rw [nI_leI (by omega) (by omega)] at c_180; omega)
                        try (have d180 : ¬ q0 < j := by rw [nI_leI (by omega) (by omega)] at c_180; omega)
                        rw [nI_s]
                        first
                          | (rw [show nxt S (lawP S t (gA S 21 n) d kn (exA S (nI f) t kn (cn S 31))) (some q0) (j + 1) = some j from if_pos ⟨by simp [lawP, c_74, c_86], by simp [bhd, c_156, c_173, d180], by rw [ho]; simp [nles]⟩, o2i0] at hs
                             exact z_to hs ⟨rfl, rfl, rfl, rfl, rfl, rfl, rfl, rfl, rfl, rfl, rfl, trivial⟩)
                          | (rw [show nxt S (lawP S t (gA S 21 n) d kn (exA S (nI f) t kn (cn S 31))) (some q0) (j + 1) = nxt S (lawP S t (gA S 21 n) d kn (exA S (nI f) t kn (cn S 31))) (some q0) j from if_neg (fun z => by first | (have z1 := z.1; simp [lawP, c_74, c_86] at z1; done) | (have z1 := z.2.1; simp [bhd, c_156, c_173, d180] at z1; done) | (have z1 := z.2.2; rw [ho] at z1; simp [nles] at z1; done)), ho] at hs
                             try rw [o2i0] at hs
                             exact z_to hs ⟨rfl, rfl, rfl, rfl, rfl, rfl, rfl, rfl, rfl, rfl, rfl, trivial⟩)
                · refine z_aload_n g dX11_formAt_89 rfl ?_
                  refine z_getR g fl_X11_74 hM1.k0 (by decide) rfl (hM1.ref (k := 26) (by decide)) dX11_formAt_90 ?_
                  refine z_iload g dX11_formAt_93 rfl ?_
                  refine z_ialdk g (hM1.kA1 (k := 26) (by decide)) (by decide) (vp_in_nI (by rw [hM1.lnI (k := 26) (by decide)]; show _ < 12; omega) (by rw [hM1.lnI (k := 26) (by decide)]; decide)) dX11_formAt_95 ?_
                  rw [nI_clamp (by omega), hM1.row (k := 26) (by decide) (by decide)]
                  refine z_aload_n g dX11_formAt_96 rfl ?_
                  refine z_getR g fl_X11_62 hM1.k0 (by decide) rfl (hM1.ref (k := 21) (by decide)) dX11_formAt_97 ?_
                  refine z_iload g dX11_formAt_100 rfl ?_
                  refine z_ialdk g (hM1.kA1 (k := 21) (by decide)) (by decide) (vp_in_nI (by rw [hM1.lnI (k := 21) (by decide)]; show _ < 100; omega) (by rw [hM1.lnI (k := 21) (by decide)]; decide)) dX11_formAt_102 ?_
                  rw [nI_clamp (by omega), hM1.row (k := 21) (by decide) (by decide)]
                  refine z_icmp_le (tgt := 133) g dX11_formAt_103 (by decide) (fun c_103 => ?_) (fun c_103 => ?_)
                  · refine z_iconst (v := 0) g dX11_formAt_133 (by decide) ?_
                    refine z_istore g dX11_formAt_134 (by rw [hN]; decide) ?_
                    refine z_iload g dX11_formAt_136 rfl ?_
                    refine z_iconst (v := (-1)) g dX11_formAt_138 (by decide) ?_
                    refine z_icmp_eq (tgt := 183) g dX11_formAt_139 (by decide) (fun c_139 => (by exact absurd c_139 (m1_ne (by omega)))) (fun c_139 => ?_)
                    refine z_aload_n g dX11_formAt_142 rfl ?_
                    refine z_getR g fl_X11_74 hM1.k0 (by decide) rfl (hM1.ref (k := 26) (by decide)) dX11_formAt_143 ?_
                    refine z_iload g dX11_formAt_146 rfl ?_
                    refine z_ialdk g (hM1.kA1 (k := 26) (by decide)) (by decide) (vp_in_nI (by rw [hM1.lnI (k := 26) (by decide)]; show _ < 12; omega) (by rw [hM1.lnI (k := 26) (by decide)]; decide)) dX11_formAt_148 ?_
                    rw [nI_clamp (by omega), hM1.row (k := 26) (by decide) (by decide)]
                    refine z_aload_n g dX11_formAt_149 rfl ?_
                    refine z_getR g fl_X11_74 hM1.k0 (by decide) rfl (hM1.ref (k := 26) (by decide)) dX11_formAt_150 ?_
                    refine z_iload g dX11_formAt_153 rfl ?_
                    refine z_ialdk g (hM1.kA1 (k := 26) (by decide)) (by decide) (vp_in_nI (by rw [hM1.lnI (k := 26) (by decide)]; show _ < 12; omega) (by rw [hM1.lnI (k := 26) (by decide)]; decide)) dX11_formAt_155 ?_
                    rw [nI_clamp (by omega), hM1.row (k := 26) (by decide) (by decide)]
                    refine z_icmp_gt (tgt := 183) g dX11_formAt_156 (by decide) (fun c_156 => ?_) (fun c_156 => ?_)
                    · refine z_iconst (v := 1) g dX11_formAt_183 (by decide) ?_
                      refine z_goto (tgt := 188) g dX11_formAt_184 (by decide) ?_
                      refine z_istore g dX11_formAt_188 (by rw [hN]; decide) ?_
                      refine z_iload g dX11_formAt_190 rfl ?_
                      refine z_if_eq (tgt := 228) g dX11_formAt_192 (by decide) (fun _ => ?_) (fun c_192 => absurd (by decide) c_192)
                      refine z_iload g dX11_formAt_228 rfl ?_
                      refine z_istore g dX11_formAt_230 (by rw [hN]; decide) ?_
                      refine z_iinc1 g dX11_formAt_232 rfl (by rw [hN]; decide) ?_
                      refine z_goto (tgt := 57) g dX11_formAt_235 (by decide) ?_
                      have hs := ih (k - 1) (by omega) (j + 1) (by omega)
                      try (have d180 : q0 < j := by rw [nI_leI (by omega) (by omega)] at c_180; omega)
                      try (have d180 : ¬ q0 < j := by rw [nI_leI (by omega) (by omega)] at c_180; omega)
                      rw [nI_s]
                      first
                        | (rw [show nxt S (lawP S t (gA S 21 n) d kn (exA S (nI f) t kn (cn S 31))) (some q0) (j + 1) = some j from if_pos ⟨by simp [lawP, c_74, c_86, c_103], by simp [bhd, c_156], by rw [ho]; simp [nles]⟩, o2i0] at hs
                           exact z_to hs ⟨rfl, rfl, rfl, rfl, rfl, rfl, rfl, rfl, rfl, rfl, rfl, trivial⟩)
                        | (rw [show nxt S (lawP S t (gA S 21 n) d kn (exA S (nI f) t kn (cn S 31))) (some q0) (j + 1) = nxt S (lawP S t (gA S 21 n) d kn (exA S (nI f) t kn (cn S 31))) (some q0) j from if_neg (fun z => by first | (have z1 := z.1; simp [lawP, c_74, c_86, c_103] at z1; done) | (have z1 := z.2.1; simp [bhd, c_156] at z1; done) | (have z1 := z.2.2; rw [ho] at z1; simp [nles] at z1; done)), ho] at hs
                           try rw [o2i0] at hs
                           exact z_to hs ⟨rfl, rfl, rfl, rfl, rfl, rfl, rfl, rfl, rfl, rfl, rfl, trivial⟩)
                    · refine z_aload_n g dX11_formAt_159 rfl ?_
                      refine z_getR g fl_X11_74 hM1.k0 (by decide) rfl (hM1.ref (k := 26) (by decide)) dX11_formAt_160 ?_
                      refine z_iload g dX11_formAt_163 rfl ?_
                      refine z_ialdk g (hM1.kA1 (k := 26) (by decide)) (by decide) (vp_in_nI (by rw [hM1.lnI (k := 26) (by decide)]; show _ < 12; omega) (by rw [hM1.lnI (k := 26) (by decide)]; decide)) dX11_formAt_165 ?_
                      rw [nI_clamp (by omega), hM1.row (k := 26) (by decide) (by decide)]
                      refine z_aload_n g dX11_formAt_166 rfl ?_
                      refine z_getR g fl_X11_74 hM1.k0 (by decide) rfl (hM1.ref (k := 26) (by decide)) dX11_formAt_167 ?_
                      refine z_iload g dX11_formAt_170 rfl ?_
                      refine z_ialdk g (hM1.kA1 (k := 26) (by decide)) (by decide) (vp_in_nI (by rw [hM1.lnI (k := 26) (by decide)]; show _ < 12; omega) (by rw [hM1.lnI (k := 26) (by decide)]; decide)) dX11_formAt_172 ?_
                      rw [nI_clamp (by omega), hM1.row (k := 26) (by decide) (by decide)]
                      refine z_icmp_ne (tgt := 187) g dX11_formAt_173 (by decide) (fun c_173 => ?_) (fun c_173 => ?_)
                      · refine z_iconst (v := 0) g dX11_formAt_187 (by decide) ?_
                        refine z_istore g dX11_formAt_188 (by rw [hN]; decide) ?_
                        refine z_iload g dX11_formAt_190 rfl ?_
                        refine z_if_eq (tgt := 228) g dX11_formAt_192 (by decide) (fun _ => ?_) (fun c_192 => absurd (by decide) c_192)
                        refine z_iload g dX11_formAt_228 rfl ?_
                        refine z_istore g dX11_formAt_230 (by rw [hN]; decide) ?_
                        refine z_iinc1 g dX11_formAt_232 rfl (by rw [hN]; decide) ?_
                        refine z_goto (tgt := 57) g dX11_formAt_235 (by decide) ?_
                        have hs := ih (k - 1) (by omega) (j + 1) (by omega)
                        try (have d180 : q0 < j := by rw [nI_leI (by omega) (by omega)] at c_180; omega)
                        try (have d180 : ¬ q0 < j := by rw [nI_leI (by omega) (by omega)] at c_180; omega)
                        rw [nI_s]
                        first
                          | (rw [show nxt S (lawP S t (gA S 21 n) d kn (exA S (nI f) t kn (cn S 31))) (some q0) (j + 1) = some j from if_pos ⟨by simp [lawP, c_74, c_86, c_103], by simp [bhd, c_156, c_173], by rw [ho]; simp [nles]⟩, o2i0] at hs
                             exact z_to hs ⟨rfl, rfl, rfl, rfl, rfl, rfl, rfl, rfl, rfl, rfl, rfl, trivial⟩)
                          | (rw [show nxt S (lawP S t (gA S 21 n) d kn (exA S (nI f) t kn (cn S 31))) (some q0) (j + 1) = nxt S (lawP S t (gA S 21 n) d kn (exA S (nI f) t kn (cn S 31))) (some q0) j from if_neg (fun z => by first | (have z1 := z.1; simp [lawP, c_74, c_86, c_103] at z1; done) | (have z1 := z.2.1; simp [bhd, c_156, c_173] at z1; done) | (have z1 := z.2.2; rw [ho] at z1; simp [nles] at z1; done)), ho] at hs
                             try rw [o2i0] at hs
                             exact z_to hs ⟨rfl, rfl, rfl, rfl, rfl, rfl, rfl, rfl, rfl, rfl, rfl, trivial⟩)
                      · refine z_iload g dX11_formAt_176 rfl ?_
                        refine z_iload g dX11_formAt_178 rfl ?_
                        refine z_icmp_le (tgt := 187) g dX11_formAt_180 (by decide) (fun c_180 => ?_) (fun c_180 => ?_)
                        · refine z_iconst (v := 0) g dX11_formAt_187 (by decide) ?_
                          refine z_istore g dX11_formAt_188 (by rw [hN]; decide) ?_
                          refine z_iload g dX11_formAt_190 rfl ?_
                          refine z_if_eq (tgt := 228) g dX11_formAt_192 (by decide) (fun _ => ?_) (fun c_192 => absurd (by decide) c_192)
                          refine z_iload g dX11_formAt_228 rfl ?_
                          refine z_istore g dX11_formAt_230 (by rw [hN]; decide) ?_
                          refine z_iinc1 g dX11_formAt_232 rfl (by rw [hN]; decide) ?_
                          refine z_goto (tgt := 57) g dX11_formAt_235 (by decide) ?_
                          have hs := ih (k - 1) (by omega) (j + 1) (by omega)
                          try (have d180 : q0 < j := by rw [nI_leI (by omega) (by omega)] at c_180; omega)
                          try (have d180 : ¬ q0 < j := by rw [nI_leI (by omega) (by omega)] at c_180; omega)
                          rw [nI_s]
                          first
                            | (rw [show nxt S (lawP S t (gA S 21 n) d kn (exA S (nI f) t kn (cn S 31))) (some q0) (j + 1) = some j from if_pos ⟨by simp [lawP, c_74, c_86, c_103], by simp [bhd, c_156, c_173, d180], by rw [ho]; simp [nles]⟩, o2i0] at hs
                               exact z_to hs ⟨rfl, rfl, rfl, rfl, rfl, rfl, rfl, rfl, rfl, rfl, rfl, trivial⟩)
                            | (rw [show nxt S (lawP S t (gA S 21 n) d kn (exA S (nI f) t kn (cn S 31))) (some q0) (j + 1) = nxt S (lawP S t (gA S 21 n) d kn (exA S (nI f) t kn (cn S 31))) (some q0) j from if_neg (fun z => by first | (have z1 := z.1; simp [lawP, c_74, c_86, c_103] at z1; done) | (have z1 := z.2.1; simp [bhd, c_156, c_173, d180] at z1; done) | (have z1 := z.2.2; rw [ho] at z1; simp [nles] at z1; done)), ho] at hs
                               try rw [o2i0] at hs
                               exact z_to hs ⟨rfl, rfl, rfl, rfl, rfl, rfl, rfl, rfl, rfl, rfl, rfl, trivial⟩)
                        · refine z_iconst (v := 1) g dX11_formAt_183 (by decide) ?_
                          refine z_goto (tgt := 188) g dX11_formAt_184 (by decide) ?_
                          refine z_istore g dX11_formAt_188 (by rw [hN]; decide) ?_
                          refine z_iload g dX11_formAt_190 rfl ?_
                          refine z_if_eq (tgt := 228) g dX11_formAt_192 (by decide) (fun _ => ?_) (fun c_192 => absurd (by decide) c_192)
                          refine z_iload g dX11_formAt_228 rfl ?_
                          refine z_istore g dX11_formAt_230 (by rw [hN]; decide) ?_
                          refine z_iinc1 g dX11_formAt_232 rfl (by rw [hN]; decide) ?_
                          refine z_goto (tgt := 57) g dX11_formAt_235 (by decide) ?_
                          have hs := ih (k - 1) (by omega) (j + 1) (by omega)
                          try (have d180 : q0 < j := by rw [nI_leI (by omega) (by omega)] at c_180; omega)
                          try (have d180 : ¬ q0 < j := by rw [nI_leI (by omega) (by omega)] at c_180; omega)
                          rw [nI_s]
                          first
                            | (rw [show nxt S (lawP S t (gA S 21 n) d kn (exA S (nI f) t kn (cn S 31))) (some q0) (j + 1) = some j from if_pos ⟨by simp [lawP, c_74, c_86, c_103], by simp [bhd, c_156, c_173, d180], by rw [ho]; simp [nles]⟩, o2i0] at hs
                               exact z_to hs ⟨rfl, rfl, rfl, rfl, rfl, rfl, rfl, rfl, rfl, rfl, rfl, trivial⟩)
                            | (rw [show nxt S (lawP S t (gA S 21 n) d kn (exA S (nI f) t kn (cn S 31))) (some q0) (j + 1) = nxt S (lawP S t (gA S 21 n) d kn (exA S (nI f) t kn (cn S 31))) (some q0) j from if_neg (fun z => by first | (have z1 := z.1; simp [lawP, c_74, c_86, c_103] at z1; done) | (have z1 := z.2.1; simp [bhd, c_156, c_173, d180] at z1; done) | (have z1 := z.2.2; rw [ho] at z1; simp [nles] at z1; done)), ho] at hs
                               try rw [o2i0] at hs
                               exact z_to hs ⟨rfl, rfl, rfl, rfl, rfl, rfl, rfl, rfl, rfl, rfl, rfl, trivial⟩)
                  · refine z_aload_n g dX11_formAt_106 rfl ?_
                    refine z_getR g fl_X11_74 hM1.k0 (by decide) rfl (hM1.ref (k := 26) (by decide)) dX11_formAt_107 ?_
                    refine z_iload g dX11_formAt_110 rfl ?_
                    refine z_ialdk g (hM1.kA1 (k := 26) (by decide)) (by decide) (vp_in_nI (by rw [hM1.lnI (k := 26) (by decide)]; show _ < 12; omega) (by rw [hM1.lnI (k := 26) (by decide)]; decide)) dX11_formAt_112 ?_
                    rw [nI_clamp (by omega), hM1.row (k := 26) (by decide) (by decide)]
                    refine z_iload_n g dX11_formAt_113 rfl ?_
                    refine z_icmp_gt (tgt := 133) g dX11_formAt_114 (by decide) (fun c_114 => ?_) (fun c_114 => ?_)
                    · refine z_iconst (v := 0) g dX11_formAt_133 (by decide) ?_
                      refine z_istore g dX11_formAt_134 (by rw [hN]; decide) ?_
                      refine z_iload g dX11_formAt_136 rfl ?_
                      refine z_iconst (v := (-1)) g dX11_formAt_138 (by decide) ?_
                      refine z_icmp_eq (tgt := 183) g dX11_formAt_139 (by decide) (fun c_139 => (by exact absurd c_139 (m1_ne (by omega)))) (fun c_139 => ?_)
                      refine z_aload_n g dX11_formAt_142 rfl ?_
                      refine z_getR g fl_X11_74 hM1.k0 (by decide) rfl (hM1.ref (k := 26) (by decide)) dX11_formAt_143 ?_
                      refine z_iload g dX11_formAt_146 rfl ?_
                      refine z_ialdk g (hM1.kA1 (k := 26) (by decide)) (by decide) (vp_in_nI (by rw [hM1.lnI (k := 26) (by decide)]; show _ < 12; omega) (by rw [hM1.lnI (k := 26) (by decide)]; decide)) dX11_formAt_148 ?_
                      rw [nI_clamp (by omega), hM1.row (k := 26) (by decide) (by decide)]
                      refine z_aload_n g dX11_formAt_149 rfl ?_
                      refine z_getR g fl_X11_74 hM1.k0 (by decide) rfl (hM1.ref (k := 26) (by decide)) dX11_formAt_150 ?_
                      refine z_iload g dX11_formAt_153 rfl ?_
                      refine z_ialdk g (hM1.kA1 (k := 26) (by decide)) (by decide) (vp_in_nI (by rw [hM1.lnI (k := 26) (by decide)]; show _ < 12; omega) (by rw [hM1.lnI (k := 26) (by decide)]; decide)) dX11_formAt_155 ?_
                      rw [nI_clamp (by omega), hM1.row (k := 26) (by decide) (by decide)]
                      refine z_icmp_gt (tgt := 183) g dX11_formAt_156 (by decide) (fun c_156 => ?_) (fun c_156 => ?_)
                      · refine z_iconst (v := 1) g dX11_formAt_183 (by decide) ?_
                        refine z_goto (tgt := 188) g dX11_formAt_184 (by decide) ?_
                        refine z_istore g dX11_formAt_188 (by rw [hN]; decide) ?_
                        refine z_iload g dX11_formAt_190 rfl ?_
                        refine z_if_eq (tgt := 228) g dX11_formAt_192 (by decide) (fun _ => ?_) (fun c_192 => absurd (by decide) c_192)
                        refine z_iload g dX11_formAt_228 rfl ?_
                        refine z_istore g dX11_formAt_230 (by rw [hN]; decide) ?_
                        refine z_iinc1 g dX11_formAt_232 rfl (by rw [hN]; decide) ?_
                        refine z_goto (tgt := 57) g dX11_formAt_235 (by decide) ?_
                        have hs := ih (k - 1) (by omega) (j + 1) (by omega)
                        try (have d180 : q0 < j := by rw [nI_leI (by omega) (by omega)] at c_180; omega)
                        try (have d180 : ¬ q0 < j := by rw [nI_leI (by omega) (by omega)] at c_180; omega)
                        rw [nI_s]
                        first
                          | (rw [show nxt S (lawP S t (gA S 21 n) d kn (exA S (nI f) t kn (cn S 31))) (some q0) (j + 1) = some j from if_pos ⟨by simp [lawP, c_74, c_86, c_103, c_114], by simp [bhd, c_156], by rw [ho]; simp [nles]⟩, o2i0] at hs
                             exact z_to hs ⟨rfl, rfl, rfl, rfl, rfl, rfl, rfl, rfl, rfl, rfl, rfl, trivial⟩)
                          | (rw [show nxt S (lawP S t (gA S 21 n) d kn (exA S (nI f) t kn (cn S 31))) (some q0) (j + 1) = nxt S (lawP S t (gA S 21 n) d kn (exA S (nI f) t kn (cn S 31))) (some q0) j from if_neg (fun z => by first | (have z1 := z.1; simp [lawP, c_74, c_86, c_103, c_114] at z1; done) | (have z1 := z.2.1; simp [bhd, c_156] at z1; done) | (have z1 := z.2.2; rw [ho] at z1; simp [nles] at z1; done)), ho] at hs
                             try rw [o2i0] at hs
                             exact z_to hs ⟨rfl, rfl, rfl, rfl, rfl, rfl, rfl, rfl, rfl, rfl, rfl, trivial⟩)
                      · refine z_aload_n g dX11_formAt_159 rfl ?_
                        refine z_getR g fl_X11_74 hM1.k0 (by decide) rfl (hM1.ref (k := 26) (by decide)) dX11_formAt_160 ?_
                        refine z_iload g dX11_formAt_163 rfl ?_
                        refine z_ialdk g (hM1.kA1 (k := 26) (by decide)) (by decide) (vp_in_nI (by rw [hM1.lnI (k := 26) (by decide)]; show _ < 12; omega) (by rw [hM1.lnI (k := 26) (by decide)]; decide)) dX11_formAt_165 ?_
                        rw [nI_clamp (by omega), hM1.row (k := 26) (by decide) (by decide)]
                        refine z_aload_n g dX11_formAt_166 rfl ?_
                        refine z_getR g fl_X11_74 hM1.k0 (by decide) rfl (hM1.ref (k := 26) (by decide)) dX11_formAt_167 ?_
                        refine z_iload g dX11_formAt_170 rfl ?_
                        refine z_ialdk g (hM1.kA1 (k := 26) (by decide)) (by decide) (vp_in_nI (by rw [hM1.lnI (k := 26) (by decide)]; show _ < 12; omega) (by rw [hM1.lnI (k := 26) (by decide)]; decide)) dX11_formAt_172 ?_
                        rw [nI_clamp (by omega), hM1.row (k := 26) (by decide) (by decide)]
                        refine z_icmp_ne (tgt := 187) g dX11_formAt_173 (by decide) (fun c_173 => ?_) (fun c_173 => ?_)
                        · refine z_iconst (v := 0) g dX11_formAt_187 (by decide) ?_
                          refine z_istore g dX11_formAt_188 (by rw [hN]; decide) ?_
                          refine z_iload g dX11_formAt_190 rfl ?_
                          refine z_if_eq (tgt := 228) g dX11_formAt_192 (by decide) (fun _ => ?_) (fun c_192 => absurd (by decide) c_192)
                          refine z_iload g dX11_formAt_228 rfl ?_
                          refine z_istore g dX11_formAt_230 (by rw [hN]; decide) ?_
                          refine z_iinc1 g dX11_formAt_232 rfl (by rw [hN]; decide) ?_
                          refine z_goto (tgt := 57) g dX11_formAt_235 (by decide) ?_
                          have hs := ih (k - 1) (by omega) (j + 1) (by omega)
                          try (have d180 : q0 < j := by rw [nI_leI (by omega) (by omega)] at c_180; omega)
                          try (have d180 : ¬ q0 < j := by rw [nI_leI (by omega) (by omega)] at c_180; omega)
                          rw [nI_s]
                          first
                            | (rw [show nxt S (lawP S t (gA S 21 n) d kn (exA S (nI f) t kn (cn S 31))) (some q0) (j + 1) = some j from if_pos ⟨by simp [lawP, c_74, c_86, c_103, c_114], by simp [bhd, c_156, c_173], by rw [ho]; simp [nles]⟩, o2i0] at hs
                               exact z_to hs ⟨rfl, rfl, rfl, rfl, rfl, rfl, rfl, rfl, rfl, rfl, rfl, trivial⟩)
                            | (rw [show nxt S (lawP S t (gA S 21 n) d kn (exA S (nI f) t kn (cn S 31))) (some q0) (j + 1) = nxt S (lawP S t (gA S 21 n) d kn (exA S (nI f) t kn (cn S 31))) (some q0) j from if_neg (fun z => by first | (have z1 := z.1; simp [lawP, c_74, c_86, c_103, c_114] at z1; done) | (have z1 := z.2.1; simp [bhd, c_156, c_173] at z1; done) | (have z1 := z.2.2; rw [ho] at z1; simp [nles] at z1; done)), ho] at hs
                               try rw [o2i0] at hs
                               exact z_to hs ⟨rfl, rfl, rfl, rfl, rfl, rfl, rfl, rfl, rfl, rfl, rfl, trivial⟩)
                        · refine z_iload g dX11_formAt_176 rfl ?_
                          refine z_iload g dX11_formAt_178 rfl ?_
                          refine z_icmp_le (tgt := 187) g dX11_formAt_180 (by decide) (fun c_180 => ?_) (fun c_180 => ?_)
                          · refine z_iconst (v := 0) g dX11_formAt_187 (by decide) ?_
                            refine z_istore g dX11_formAt_188 (by rw [hN]; decide) ?_
                            refine z_iload g dX11_formAt_190 rfl ?_
                            refine z_if_eq (tgt := 228) g dX11_formAt_192 (by decide) (fun _ => ?_) (fun c_192 => absurd (by decide) c_192)
                            refine z_iload g dX11_formAt_228 rfl ?_
                            refine z_istore g dX11_formAt_230 (by rw [hN]; decide) ?_
                            refine z_iinc1 g dX11_formAt_232 rfl (by rw [hN]; decide) ?_
                            refine z_goto (tgt := 57) g dX11_formAt_235 (by decide) ?_
                            have hs := ih (k - 1) (by omega) (j + 1) (by omega)
                            try (have d180 : q0 < j := by rw [nI_leI (by omega) (by omega)] at c_180; omega)
                            try (have d180 : ¬ q0 < j := by rw [nI_leI (by omega) (by omega)] at c_180; omega)
                            rw [nI_s]
                            first
                              | (rw [show nxt S (lawP S t (gA S 21 n) d kn (exA S (nI f) t kn (cn S 31))) (some q0) (j + 1) = some j from if_pos ⟨by simp [lawP, c_74, c_86, c_103, c_114], by simp [bhd, c_156, c_173, d180], by rw [ho]; simp [nles]⟩, o2i0] at hs
                                 exact z_to hs ⟨rfl, rfl, rfl, rfl, rfl, rfl, rfl, rfl, rfl, rfl, rfl, trivial⟩)
                              | (rw [show nxt S (lawP S t (gA S 21 n) d kn (exA S (nI f) t kn (cn S 31))) (some q0) (j + 1) = nxt S (lawP S t (gA S 21 n) d kn (exA S (nI f) t kn (cn S 31))) (some q0) j from if_neg (fun z => by first | (have z1 := z.1; simp [lawP, c_74, c_86, c_103, c_114] at z1; done) | (have z1 := z.2.1; simp [bhd, c_156, c_173, d180] at z1; done) | (have z1 := z.2.2; rw [ho] at z1; simp [nles] at z1; done)), ho] at hs
                                 try rw [o2i0] at hs
                                 exact z_to hs ⟨rfl, rfl, rfl, rfl, rfl, rfl, rfl, rfl, rfl, rfl, rfl, trivial⟩)
                          · refine z_iconst (v := 1) g dX11_formAt_183 (by decide) ?_
                            refine z_goto (tgt := 188) g dX11_formAt_184 (by decide) ?_
                            refine z_istore g dX11_formAt_188 (by rw [hN]; decide) ?_
                            refine z_iload g dX11_formAt_190 rfl ?_
                            refine z_if_eq (tgt := 228) g dX11_formAt_192 (by decide) (fun _ => ?_) (fun c_192 => absurd (by decide) c_192)
                            refine z_iload g dX11_formAt_228 rfl ?_
                            refine z_istore g dX11_formAt_230 (by rw [hN]; decide) ?_
                            refine z_iinc1 g dX11_formAt_232 rfl (by rw [hN]; decide) ?_
                            refine z_goto (tgt := 57) g dX11_formAt_235 (by decide) ?_
                            have hs := ih (k - 1) (by omega) (j + 1) (by omega)
                            try (have d180 : q0 < j := by rw [nI_leI (by omega) (by omega)] at c_180; omega)
                            try (have d180 : ¬ q0 < j := by rw [nI_leI (by omega) (by omega)] at c_180; omega)
                            rw [nI_s]
                            first
                              | (rw [show nxt S (lawP S t (gA S 21 n) d kn (exA S (nI f) t kn (cn S 31))) (some q0) (j + 1) = some j from if_pos ⟨by simp [lawP, c_74, c_86, c_103, c_114], by simp [bhd, c_156, c_173, d180], by rw [ho]; simp [nles]⟩, o2i0] at hs
                                 exact z_to hs ⟨rfl, rfl, rfl, rfl, rfl, rfl, rfl, rfl, rfl, rfl, rfl, trivial⟩)
                              | (rw [show nxt S (lawP S t (gA S 21 n) d kn (exA S (nI f) t kn (cn S 31))) (some q0) (j + 1) = nxt S (lawP S t (gA S 21 n) d kn (exA S (nI f) t kn (cn S 31))) (some q0) j from if_neg (fun z => by first | (have z1 := z.1; simp [lawP, c_74, c_86, c_103, c_114] at z1; done) | (have z1 := z.2.1; simp [bhd, c_156, c_173, d180] at z1; done) | (have z1 := z.2.2; rw [ho] at z1; simp [nles] at z1; done)), ho] at hs
                                 try rw [o2i0] at hs
                                 exact z_to hs ⟨rfl, rfl, rfl, rfl, rfl, rfl, rfl, rfl, rfl, rfl, rfl, trivial⟩)
                    · refine z_aload_n g dX11_formAt_117 rfl ?_
                      refine z_getR g fl_X11_74 hM1.k0 (by decide) rfl (hM1.ref (k := 26) (by decide)) dX11_formAt_118 ?_
                      refine z_iload g dX11_formAt_121 rfl ?_
                      refine z_ialdk g (hM1.kA1 (k := 26) (by decide)) (by decide) (vp_in_nI (by rw [hM1.lnI (k := 26) (by decide)]; show _ < 12; omega) (by rw [hM1.lnI (k := 26) (by decide)]; decide)) dX11_formAt_123 ?_
                      rw [nI_clamp (by omega), hM1.row (k := 26) (by decide) (by decide)]
                      refine z_iload g dX11_formAt_124 rfl ?_
                      refine z_icmp_ge (tgt := 133) g dX11_formAt_126 (by decide) (fun c_126 => ?_) (fun c_126 => ?_)
                      · refine z_iconst (v := 0) g dX11_formAt_133 (by decide) ?_
                        refine z_istore g dX11_formAt_134 (by rw [hN]; decide) ?_
                        refine z_iload g dX11_formAt_136 rfl ?_
                        refine z_iconst (v := (-1)) g dX11_formAt_138 (by decide) ?_
                        refine z_icmp_eq (tgt := 183) g dX11_formAt_139 (by decide) (fun c_139 => (by exact absurd c_139 (m1_ne (by omega)))) (fun c_139 => ?_)
                        refine z_aload_n g dX11_formAt_142 rfl ?_
                        refine z_getR g fl_X11_74 hM1.k0 (by decide) rfl (hM1.ref (k := 26) (by decide)) dX11_formAt_143 ?_
                        refine z_iload g dX11_formAt_146 rfl ?_
                        refine z_ialdk g (hM1.kA1 (k := 26) (by decide)) (by decide) (vp_in_nI (by rw [hM1.lnI (k := 26) (by decide)]; show _ < 12; omega) (by rw [hM1.lnI (k := 26) (by decide)]; decide)) dX11_formAt_148 ?_
                        rw [nI_clamp (by omega), hM1.row (k := 26) (by decide) (by decide)]
                        refine z_aload_n g dX11_formAt_149 rfl ?_
                        refine z_getR g fl_X11_74 hM1.k0 (by decide) rfl (hM1.ref (k := 26) (by decide)) dX11_formAt_150 ?_
                        refine z_iload g dX11_formAt_153 rfl ?_
                        refine z_ialdk g (hM1.kA1 (k := 26) (by decide)) (by decide) (vp_in_nI (by rw [hM1.lnI (k := 26) (by decide)]; show _ < 12; omega) (by rw [hM1.lnI (k := 26) (by decide)]; decide)) dX11_formAt_155 ?_
                        rw [nI_clamp (by omega), hM1.row (k := 26) (by decide) (by decide)]
                        refine z_icmp_gt (tgt := 183) g dX11_formAt_156 (by decide) (fun c_156 => ?_) (fun c_156 => ?_)
                        · refine z_iconst (v := 1) g dX11_formAt_183 (by decide) ?_
                          refine z_goto (tgt := 188) g dX11_formAt_184 (by decide) ?_
                          refine z_istore g dX11_formAt_188 (by rw [hN]; decide) ?_
                          refine z_iload g dX11_formAt_190 rfl ?_
                          refine z_if_eq (tgt := 228) g dX11_formAt_192 (by decide) (fun _ => ?_) (fun c_192 => absurd (by decide) c_192)
                          refine z_iload g dX11_formAt_228 rfl ?_
                          refine z_istore g dX11_formAt_230 (by rw [hN]; decide) ?_
                          refine z_iinc1 g dX11_formAt_232 rfl (by rw [hN]; decide) ?_
                          refine z_goto (tgt := 57) g dX11_formAt_235 (by decide) ?_
                          have hs := ih (k - 1) (by omega) (j + 1) (by omega)
                          try (have d180 : q0 < j := by rw [nI_leI (by omega) (by omega)] at c_180; omega)
                          try (have d180 : ¬ q0 < j := by rw [nI_leI (by omega) (by omega)] at c_180; omega)
                          rw [nI_s]
                          first
                            | (rw [show nxt S (lawP S t (gA S 21 n) d kn (exA S (nI f) t kn (cn S 31))) (some q0) (j + 1) = some j from if_pos ⟨by simp [lawP, c_74, c_86, c_103, c_114, c_126], by simp [bhd, c_156], by rw [ho]; simp [nles]⟩, o2i0] at hs
                               exact z_to hs ⟨rfl, rfl, rfl, rfl, rfl, rfl, rfl, rfl, rfl, rfl, rfl, trivial⟩)
                            | (rw [show nxt S (lawP S t (gA S 21 n) d kn (exA S (nI f) t kn (cn S 31))) (some q0) (j + 1) = nxt S (lawP S t (gA S 21 n) d kn (exA S (nI f) t kn (cn S 31))) (some q0) j from if_neg (fun z => by first | (have z1 := z.1; simp [lawP, c_74, c_86, c_103, c_114, c_126] at z1; done) | (have z1 := z.2.1; simp [bhd, c_156] at z1; done) | (have z1 := z.2.2; rw [ho] at z1; simp [nles] at z1; done)), ho] at hs
                               try rw [o2i0] at hs
                               exact z_to hs ⟨rfl, rfl, rfl, rfl, rfl, rfl, rfl, rfl, rfl, rfl, rfl, trivial⟩)
                        · refine z_aload_n g dX11_formAt_159 rfl ?_
                          refine z_getR g fl_X11_74 hM1.k0 (by decide) rfl (hM1.ref (k := 26) (by decide)) dX11_formAt_160 ?_
                          refine z_iload g dX11_formAt_163 rfl ?_
                          refine z_ialdk g (hM1.kA1 (k := 26) (by decide)) (by decide) (vp_in_nI (by rw [hM1.lnI (k := 26) (by decide)]; show _ < 12; omega) (by rw [hM1.lnI (k := 26) (by decide)]; decide)) dX11_formAt_165 ?_
                          rw [nI_clamp (by omega), hM1.row (k := 26) (by decide) (by decide)]
                          refine z_aload_n g dX11_formAt_166 rfl ?_
                          refine z_getR g fl_X11_74 hM1.k0 (by decide) rfl (hM1.ref (k := 26) (by decide)) dX11_formAt_167 ?_
                          refine z_iload g dX11_formAt_170 rfl ?_
                          refine z_ialdk g (hM1.kA1 (k := 26) (by decide)) (by decide) (vp_in_nI (by rw [hM1.lnI (k := 26) (by decide)]; show _ < 12; omega) (by rw [hM1.lnI (k := 26) (by decide)]; decide)) dX11_formAt_172 ?_
                          rw [nI_clamp (by omega), hM1.row (k := 26) (by decide) (by decide)]
                          refine z_icmp_ne (tgt := 187) g dX11_formAt_173 (by decide) (fun c_173 => ?_) (fun c_173 => ?_)
                          · refine z_iconst (v := 0) g dX11_formAt_187 (by decide) ?_
                            refine z_istore g dX11_formAt_188 (by rw [hN]; decide) ?_
                            refine z_iload g dX11_formAt_190 rfl ?_
                            refine z_if_eq (tgt := 228) g dX11_formAt_192 (by decide) (fun _ => ?_) (fun c_192 => absurd (by decide) c_192)
                            refine z_iload g dX11_formAt_228 rfl ?_
                            refine z_istore g dX11_formAt_230 (by rw [hN]; decide) ?_
                            refine z_iinc1 g dX11_formAt_232 rfl (by rw [hN]; decide) ?_
                            refine z_goto (tgt := 57) g dX11_formAt_235 (by decide) ?_
                            have hs := ih (k - 1) (by omega) (j + 1) (by omega)
                            try (have d180 : q0 < j := by rw [nI_leI (by omega) (by omega)] at c_180; omega)
                            try (have d180 : ¬ q0 < j := by rw [nI_leI (by omega) (by omega)] at c_180; omega)
                            rw [nI_s]
                            first
                              | (rw [show nxt S (lawP S t (gA S 21 n) d kn (exA S (nI f) t kn (cn S 31))) (some q0) (j + 1) = some j from if_pos ⟨by simp [lawP, c_74, c_86, c_103, c_114, c_126], by simp [bhd, c_156, c_173], by rw [ho]; simp [nles]⟩, o2i0] at hs
                                 exact z_to hs ⟨rfl, rfl, rfl, rfl, rfl, rfl, rfl, rfl, rfl, rfl, rfl, trivial⟩)
                              | (rw [show nxt S (lawP S t (gA S 21 n) d kn (exA S (nI f) t kn (cn S 31))) (some q0) (j + 1) = nxt S (lawP S t (gA S 21 n) d kn (exA S (nI f) t kn (cn S 31))) (some q0) j from if_neg (fun z => by first | (have z1 := z.1; simp [lawP, c_74, c_86, c_103, c_114, c_126] at z1; done) | (have z1 := z.2.1; simp [bhd, c_156, c_173] at z1; done) | (have z1 := z.2.2; rw [ho] at z1; simp [nles] at z1; done)), ho] at hs
                                 try rw [o2i0] at hs
                                 exact z_to hs ⟨rfl, rfl, rfl, rfl, rfl, rfl, rfl, rfl, rfl, rfl, rfl, trivial⟩)
                          · refine z_iload g dX11_formAt_176 rfl ?_
                            refine z_iload g dX11_formAt_178 rfl ?_
                            refine z_icmp_le (tgt := 187) g dX11_formAt_180 (by decide) (fun c_180 => ?_) (fun c_180 => ?_)
                            · refine z_iconst (v := 0) g dX11_formAt_187 (by decide) ?_
                              refine z_istore g dX11_formAt_188 (by rw [hN]; decide) ?_
                              refine z_iload g dX11_formAt_190 rfl ?_
                              refine z_if_eq (tgt := 228) g dX11_formAt_192 (by decide) (fun _ => ?_) (fun c_192 => absurd (by decide) c_192)
                              refine z_iload g dX11_formAt_228 rfl ?_
                              refine z_istore g dX11_formAt_230 (by rw [hN]; decide) ?_
                              refine z_iinc1 g dX11_formAt_232 rfl (by rw [hN]; decide) ?_
                              refine z_goto (tgt := 57) g dX11_formAt_235 (by decide) ?_
                              have hs := ih (k - 1) (by omega) (j + 1) (by omega)
                              try (have d180 : q0 < j := by rw [nI_leI (by omega) (by omega)] at c_180; omega)
                              try (have d180 : ¬ q0 < j := by rw [nI_leI (by omega) (by omega)] at c_180; omega)
                              rw [nI_s]
                              first
                                | (rw [show nxt S (lawP S t (gA S 21 n) d kn (exA S (nI f) t kn (cn S 31))) (some q0) (j + 1) = some j from if_pos ⟨by simp [lawP, c_74, c_86, c_103, c_114, c_126], by simp [bhd, c_156, c_173, d180], by rw [ho]; simp [nles]⟩, o2i0] at hs
                                   exact z_to hs ⟨rfl, rfl, rfl, rfl, rfl, rfl, rfl, rfl, rfl, rfl, rfl, trivial⟩)
                                | (rw [show nxt S (lawP S t (gA S 21 n) d kn (exA S (nI f) t kn (cn S 31))) (some q0) (j + 1) = nxt S (lawP S t (gA S 21 n) d kn (exA S (nI f) t kn (cn S 31))) (some q0) j from if_neg (fun z => by first | (have z1 := z.1; simp [lawP, c_74, c_86, c_103, c_114, c_126] at z1; done) | (have z1 := z.2.1; simp [bhd, c_156, c_173, d180] at z1; done) | (have z1 := z.2.2; rw [ho] at z1; simp [nles] at z1; done)), ho] at hs
                                   try rw [o2i0] at hs
                                   exact z_to hs ⟨rfl, rfl, rfl, rfl, rfl, rfl, rfl, rfl, rfl, rfl, rfl, trivial⟩)
                            · refine z_iconst (v := 1) g dX11_formAt_183 (by decide) ?_
                              refine z_goto (tgt := 188) g dX11_formAt_184 (by decide) ?_
                              refine z_istore g dX11_formAt_188 (by rw [hN]; decide) ?_
                              refine z_iload g dX11_formAt_190 rfl ?_
                              refine z_if_eq (tgt := 228) g dX11_formAt_192 (by decide) (fun _ => ?_) (fun c_192 => absurd (by decide) c_192)
                              refine z_iload g dX11_formAt_228 rfl ?_
                              refine z_istore g dX11_formAt_230 (by rw [hN]; decide) ?_
                              refine z_iinc1 g dX11_formAt_232 rfl (by rw [hN]; decide) ?_
                              refine z_goto (tgt := 57) g dX11_formAt_235 (by decide) ?_
                              have hs := ih (k - 1) (by omega) (j + 1) (by omega)
                              try (have d180 : q0 < j := by rw [nI_leI (by omega) (by omega)] at c_180; omega)
                              try (have d180 : ¬ q0 < j := by rw [nI_leI (by omega) (by omega)] at c_180; omega)
                              rw [nI_s]
                              first
                                | (rw [show nxt S (lawP S t (gA S 21 n) d kn (exA S (nI f) t kn (cn S 31))) (some q0) (j + 1) = some j from if_pos ⟨by simp [lawP, c_74, c_86, c_103, c_114, c_126], by simp [bhd, c_156, c_173, d180], by rw [ho]; simp [nles]⟩, o2i0] at hs
                                   exact z_to hs ⟨rfl, rfl, rfl, rfl, rfl, rfl, rfl, rfl, rfl, rfl, rfl, trivial⟩)
                                | (rw [show nxt S (lawP S t (gA S 21 n) d kn (exA S (nI f) t kn (cn S 31))) (some q0) (j + 1) = nxt S (lawP S t (gA S 21 n) d kn (exA S (nI f) t kn (cn S 31))) (some q0) j from if_neg (fun z => by first | (have z1 := z.1; simp [lawP, c_74, c_86, c_103, c_114, c_126] at z1; done) | (have z1 := z.2.1; simp [bhd, c_156, c_173, d180] at z1; done) | (have z1 := z.2.2; rw [ho] at z1; simp [nles] at z1; done)), ho] at hs
                                   try rw [o2i0] at hs
                                   exact z_to hs ⟨rfl, rfl, rfl, rfl, rfl, rfl, rfl, rfl, rfl, rfl, rfl, trivial⟩)
                      · refine z_iconst (v := 1) g dX11_formAt_129 (by decide) ?_
                        refine z_goto (tgt := 134) g dX11_formAt_130 (by decide) ?_
                        refine z_istore g dX11_formAt_134 (by rw [hN]; decide) ?_
                        refine z_iload g dX11_formAt_136 rfl ?_
                        refine z_iconst (v := (-1)) g dX11_formAt_138 (by decide) ?_
                        refine z_icmp_eq (tgt := 183) g dX11_formAt_139 (by decide) (fun c_139 => (by exact absurd c_139 (m1_ne (by omega)))) (fun c_139 => ?_)
                        refine z_aload_n g dX11_formAt_142 rfl ?_
                        refine z_getR g fl_X11_74 hM1.k0 (by decide) rfl (hM1.ref (k := 26) (by decide)) dX11_formAt_143 ?_
                        refine z_iload g dX11_formAt_146 rfl ?_
                        refine z_ialdk g (hM1.kA1 (k := 26) (by decide)) (by decide) (vp_in_nI (by rw [hM1.lnI (k := 26) (by decide)]; show _ < 12; omega) (by rw [hM1.lnI (k := 26) (by decide)]; decide)) dX11_formAt_148 ?_
                        rw [nI_clamp (by omega), hM1.row (k := 26) (by decide) (by decide)]
                        refine z_aload_n g dX11_formAt_149 rfl ?_
                        refine z_getR g fl_X11_74 hM1.k0 (by decide) rfl (hM1.ref (k := 26) (by decide)) dX11_formAt_150 ?_
                        refine z_iload g dX11_formAt_153 rfl ?_
                        refine z_ialdk g (hM1.kA1 (k := 26) (by decide)) (by decide) (vp_in_nI (by rw [hM1.lnI (k := 26) (by decide)]; show _ < 12; omega) (by rw [hM1.lnI (k := 26) (by decide)]; decide)) dX11_formAt_155 ?_
                        rw [nI_clamp (by omega), hM1.row (k := 26) (by decide) (by decide)]
                        refine z_icmp_gt (tgt := 183) g dX11_formAt_156 (by decide) (fun c_156 => ?_) (fun c_156 => ?_)
                        · refine z_iconst (v := 1) g dX11_formAt_183 (by decide) ?_
                          refine z_goto (tgt := 188) g dX11_formAt_184 (by decide) ?_
                          refine z_istore g dX11_formAt_188 (by rw [hN]; decide) ?_
                          refine z_iload g dX11_formAt_190 rfl ?_
                          refine z_if_eq (tgt := 228) g dX11_formAt_192 (by decide) (fun c_192 => absurd c_192 (by decide)) (fun _ => ?_)
                          refine z_iload g dX11_formAt_195 rfl ?_
                          refine z_if_eq (tgt := 228) g dX11_formAt_197 (by decide) (fun c_197 => absurd c_197 (by decide)) (fun _ => ?_)
                          refine z_iload g dX11_formAt_200 rfl ?_
                          refine z_iconst (v := (-1)) g dX11_formAt_202 (by decide) ?_
                          refine z_icmp_eq (tgt := 223) g dX11_formAt_203 (by decide) (fun c_203 => ?_) (fun c_203 => (by exact absurd rfl c_203))
                          refine z_iload g dX11_formAt_223 rfl ?_
                          refine z_goto (tgt := 230) g dX11_formAt_225 (by decide) ?_
                          refine z_istore g dX11_formAt_230 (by rw [hN]; decide) ?_
                          refine z_iinc1 g dX11_formAt_232 rfl (by rw [hN]; decide) ?_
                          refine z_goto (tgt := 57) g dX11_formAt_235 (by decide) ?_
                          have hs := ih (k - 1) (by omega) (j + 1) (by omega)
                          try (have d180 : q0 < j := by rw [nI_leI (by omega) (by omega)] at c_180; omega)
                          try (have d180 : ¬ q0 < j := by rw [nI_leI (by omega) (by omega)] at c_180; omega)
                          rw [nI_s]
                          first
                            | (rw [show nxt S (lawP S t (gA S 21 n) d kn (exA S (nI f) t kn (cn S 31))) (some q0) (j + 1) = some j from if_pos ⟨by simp [lawP, c_74, c_86, c_103, c_114, c_126], by simp [bhd, c_156], by rw [ho]; simp [nles]⟩, o2i0] at hs
                               exact z_to hs ⟨rfl, rfl, rfl, rfl, rfl, rfl, rfl, rfl, rfl, rfl, rfl, trivial⟩)
                            | (rw [show nxt S (lawP S t (gA S 21 n) d kn (exA S (nI f) t kn (cn S 31))) (some q0) (j + 1) = nxt S (lawP S t (gA S 21 n) d kn (exA S (nI f) t kn (cn S 31))) (some q0) j from if_neg (fun z => by first | (have z1 := z.1; simp [lawP, c_74, c_86, c_103, c_114, c_126] at z1; done) | (have z1 := z.2.1; simp [bhd, c_156] at z1; done) | (have z1 := z.2.2; rw [ho] at z1; simp [nles] at z1; done)), ho] at hs
                               try rw [o2i0] at hs
                               exact z_to hs ⟨rfl, rfl, rfl, rfl, rfl, rfl, rfl, rfl, rfl, rfl, rfl, trivial⟩)
                        · refine z_aload_n g dX11_formAt_159 rfl ?_
                          refine z_getR g fl_X11_74 hM1.k0 (by decide) rfl (hM1.ref (k := 26) (by decide)) dX11_formAt_160 ?_
                          refine z_iload g dX11_formAt_163 rfl ?_
                          refine z_ialdk g (hM1.kA1 (k := 26) (by decide)) (by decide) (vp_in_nI (by rw [hM1.lnI (k := 26) (by decide)]; show _ < 12; omega) (by rw [hM1.lnI (k := 26) (by decide)]; decide)) dX11_formAt_165 ?_
                          rw [nI_clamp (by omega), hM1.row (k := 26) (by decide) (by decide)]
                          refine z_aload_n g dX11_formAt_166 rfl ?_
                          refine z_getR g fl_X11_74 hM1.k0 (by decide) rfl (hM1.ref (k := 26) (by decide)) dX11_formAt_167 ?_
                          refine z_iload g dX11_formAt_170 rfl ?_
                          refine z_ialdk g (hM1.kA1 (k := 26) (by decide)) (by decide) (vp_in_nI (by rw [hM1.lnI (k := 26) (by decide)]; show _ < 12; omega) (by rw [hM1.lnI (k := 26) (by decide)]; decide)) dX11_formAt_172 ?_
                          rw [nI_clamp (by omega), hM1.row (k := 26) (by decide) (by decide)]
                          refine z_icmp_ne (tgt := 187) g dX11_formAt_173 (by decide) (fun c_173 => ?_) (fun c_173 => ?_)
                          · refine z_iconst (v := 0) g dX11_formAt_187 (by decide) ?_
                            refine z_istore g dX11_formAt_188 (by rw [hN]; decide) ?_
                            refine z_iload g dX11_formAt_190 rfl ?_
                            refine z_if_eq (tgt := 228) g dX11_formAt_192 (by decide) (fun c_192 => absurd c_192 (by decide)) (fun _ => ?_)
                            refine z_iload g dX11_formAt_195 rfl ?_
                            refine z_if_eq (tgt := 228) g dX11_formAt_197 (by decide) (fun _ => ?_) (fun c_197 => absurd (by decide) c_197)
                            refine z_iload g dX11_formAt_228 rfl ?_
                            refine z_istore g dX11_formAt_230 (by rw [hN]; decide) ?_
                            refine z_iinc1 g dX11_formAt_232 rfl (by rw [hN]; decide) ?_
                            refine z_goto (tgt := 57) g dX11_formAt_235 (by decide) ?_
                            have hs := ih (k - 1) (by omega) (j + 1) (by omega)
                            try (have d180 : q0 < j := by rw [nI_leI (by omega) (by omega)] at c_180; omega)
                            try (have d180 : ¬ q0 < j := by rw [nI_leI (by omega) (by omega)] at c_180; omega)
                            rw [nI_s]
                            first
                              | (rw [show nxt S (lawP S t (gA S 21 n) d kn (exA S (nI f) t kn (cn S 31))) (some q0) (j + 1) = some j from if_pos ⟨by simp [lawP, c_74, c_86, c_103, c_114, c_126], by simp [bhd, c_156, c_173], by rw [ho]; simp [nles]⟩, o2i0] at hs
                                 exact z_to hs ⟨rfl, rfl, rfl, rfl, rfl, rfl, rfl, rfl, rfl, rfl, rfl, trivial⟩)
                              | (rw [show nxt S (lawP S t (gA S 21 n) d kn (exA S (nI f) t kn (cn S 31))) (some q0) (j + 1) = nxt S (lawP S t (gA S 21 n) d kn (exA S (nI f) t kn (cn S 31))) (some q0) j from if_neg (fun z => by first | (have z1 := z.1; simp [lawP, c_74, c_86, c_103, c_114, c_126] at z1; done) | (have z1 := z.2.1; simp [bhd, c_156, c_173] at z1; done) | (have z1 := z.2.2; rw [ho] at z1; simp [nles] at z1; done)), ho] at hs
                                 try rw [o2i0] at hs
                                 exact z_to hs ⟨rfl, rfl, rfl, rfl, rfl, rfl, rfl, rfl, rfl, rfl, rfl, trivial⟩)
                          · refine z_iload g dX11_formAt_176 rfl ?_
                            refine z_iload g dX11_formAt_178 rfl ?_
                            refine z_icmp_le (tgt := 187) g dX11_formAt_180 (by decide) (fun c_180 => ?_) (fun c_180 => ?_)
                            · refine z_iconst (v := 0) g dX11_formAt_187 (by decide) ?_
                              refine z_istore g dX11_formAt_188 (by rw [hN]; decide) ?_
                              refine z_iload g dX11_formAt_190 rfl ?_
                              refine z_if_eq (tgt := 228) g dX11_formAt_192 (by decide) (fun c_192 => absurd c_192 (by decide)) (fun _ => ?_)
                              refine z_iload g dX11_formAt_195 rfl ?_
                              refine z_if_eq (tgt := 228) g dX11_formAt_197 (by decide) (fun _ => ?_) (fun c_197 => absurd (by decide) c_197)
                              refine z_iload g dX11_formAt_228 rfl ?_
                              refine z_istore g dX11_formAt_230 (by rw [hN]; decide) ?_
                              refine z_iinc1 g dX11_formAt_232 rfl (by rw [hN]; decide) ?_
                              refine z_goto (tgt := 57) g dX11_formAt_235 (by decide) ?_
                              have hs := ih (k - 1) (by omega) (j + 1) (by omega)
                              try (have d180 : q0 < j := by rw [nI_leI (by omega) (by omega)] at c_180; omega)
                              try (have d180 : ¬ q0 < j := by rw [nI_leI (by omega) (by omega)] at c_180; omega)
                              rw [nI_s]
                              first
                                | (rw [show nxt S (lawP S t (gA S 21 n) d kn (exA S (nI f) t kn (cn S 31))) (some q0) (j + 1) = some j from if_pos ⟨by simp [lawP, c_74, c_86, c_103, c_114, c_126], by simp [bhd, c_156, c_173, d180], by rw [ho]; simp [nles]⟩, o2i0] at hs
                                   exact z_to hs ⟨rfl, rfl, rfl, rfl, rfl, rfl, rfl, rfl, rfl, rfl, rfl, trivial⟩)
                                | (rw [show nxt S (lawP S t (gA S 21 n) d kn (exA S (nI f) t kn (cn S 31))) (some q0) (j + 1) = nxt S (lawP S t (gA S 21 n) d kn (exA S (nI f) t kn (cn S 31))) (some q0) j from if_neg (fun z => by first | (have z1 := z.1; simp [lawP, c_74, c_86, c_103, c_114, c_126] at z1; done) | (have z1 := z.2.1; simp [bhd, c_156, c_173, d180] at z1; done) | (have z1 := z.2.2; rw [ho] at z1; simp [nles] at z1; done)), ho] at hs
                                   try rw [o2i0] at hs
                                   exact z_to hs ⟨rfl, rfl, rfl, rfl, rfl, rfl, rfl, rfl, rfl, rfl, rfl, trivial⟩)
                            · refine z_iconst (v := 1) g dX11_formAt_183 (by decide) ?_
                              refine z_goto (tgt := 188) g dX11_formAt_184 (by decide) ?_
                              refine z_istore g dX11_formAt_188 (by rw [hN]; decide) ?_
                              refine z_iload g dX11_formAt_190 rfl ?_
                              refine z_if_eq (tgt := 228) g dX11_formAt_192 (by decide) (fun c_192 => absurd c_192 (by decide)) (fun _ => ?_)
                              refine z_iload g dX11_formAt_195 rfl ?_
                              refine z_if_eq (tgt := 228) g dX11_formAt_197 (by decide) (fun c_197 => absurd c_197 (by decide)) (fun _ => ?_)
                              refine z_iload g dX11_formAt_200 rfl ?_
                              refine z_iconst (v := (-1)) g dX11_formAt_202 (by decide) ?_
                              refine z_icmp_eq (tgt := 223) g dX11_formAt_203 (by decide) (fun c_203 => ?_) (fun c_203 => (by exact absurd rfl c_203))
                              refine z_iload g dX11_formAt_223 rfl ?_
                              refine z_goto (tgt := 230) g dX11_formAt_225 (by decide) ?_
                              refine z_istore g dX11_formAt_230 (by rw [hN]; decide) ?_
                              refine z_iinc1 g dX11_formAt_232 rfl (by rw [hN]; decide) ?_
                              refine z_goto (tgt := 57) g dX11_formAt_235 (by decide) ?_
                              have hs := ih (k - 1) (by omega) (j + 1) (by omega)
                              try (have d180 : q0 < j := by rw [nI_leI (by omega) (by omega)] at c_180; omega)
                              try (have d180 : ¬ q0 < j := by rw [nI_leI (by omega) (by omega)] at c_180; omega)
                              rw [nI_s]
                              first
                                | (rw [show nxt S (lawP S t (gA S 21 n) d kn (exA S (nI f) t kn (cn S 31))) (some q0) (j + 1) = some j from if_pos ⟨by simp [lawP, c_74, c_86, c_103, c_114, c_126], by simp [bhd, c_156, c_173, d180], by rw [ho]; simp [nles]⟩, o2i0] at hs
                                   exact z_to hs ⟨rfl, rfl, rfl, rfl, rfl, rfl, rfl, rfl, rfl, rfl, rfl, trivial⟩)
                                | (rw [show nxt S (lawP S t (gA S 21 n) d kn (exA S (nI f) t kn (cn S 31))) (some q0) (j + 1) = nxt S (lawP S t (gA S 21 n) d kn (exA S (nI f) t kn (cn S 31))) (some q0) j from if_neg (fun z => by first | (have z1 := z.1; simp [lawP, c_74, c_86, c_103, c_114, c_126] at z1; done) | (have z1 := z.2.1; simp [bhd, c_156, c_173, d180] at z1; done) | (have z1 := z.2.2; rw [ho] at z1; simp [nles] at z1; done)), ho] at hs
                                   try rw [o2i0] at hs
                                   exact z_to hs ⟨rfl, rfl, rfl, rfl, rfl, rfl, rfl, rfl, rfl, rfl, rfl, trivial⟩)
            · rw [o2i0]
              have hq := ((nxt_sp hL (la := (some q0)) (by first | exact hq0 | exact fun q h => nomatch h) (show j ≤ cn S 24 by omega)).1 q ho).1
              refine z_iload g dX11_formAt_57 rfl ?_
              refine z_aload_n g dX11_formAt_59 rfl ?_
              refine z_getI g fl_X11_219 hM1.k0 (by decide) rfl dX11_formAt_60 ?_
              rw [hM1.sc (k := 24) (by decide) (by decide)]
              rw [hL.1]
              refine z_icmp_ge (tgt := 238) g dX11_formAt_63 (by decide) (fun c_63 => ?_) (fun c_63 => ?_)
              · rw [nI_leI (by omega) (by omega)] at c_63
                rw [show j = cn S 24 by omega] at ho
                have h9 := after M1 (some q0) _ se hLt (by first | exact hq0 | exact fun q h => nomatch h) hind ho
                try rw [o2i0] at h9
                exact z_to h9 ⟨rfl, rfl, rfl, rfl, rfl, rfl, rfl, rfl, trivial⟩
              have h63 : j < cn S 24 := by rw [nI_leI (by omega) (by omega)] at c_63; omega
              refine z_aload_n g dX11_formAt_66 rfl ?_
              refine z_getR g fl_X11_71 hM1.k0 (by decide) rfl (hM1.ref (k := 25) (by decide)) dX11_formAt_67 ?_
              refine z_iload g dX11_formAt_70 rfl ?_
              refine z_ialdk g (hM1.kA1 (k := 25) (by decide)) (by decide) (vp_in_nI (by rw [hM1.lnI (k := 25) (by decide)]; show _ < 12; omega) (by rw [hM1.lnI (k := 25) (by decide)]; decide)) dX11_formAt_72 ?_
              rw [nI_clamp (by omega), hM1.row (k := 25) (by decide) (by decide)]
              refine z_iload_n g dX11_formAt_73 rfl ?_
              refine z_icmp_ne (tgt := 133) g dX11_formAt_74 (by decide) (fun c_74 => ?_) (fun c_74 => ?_)
              · refine z_iconst (v := 0) g dX11_formAt_133 (by decide) ?_
                refine z_istore g dX11_formAt_134 (by rw [hN]; decide) ?_
                refine z_iload g dX11_formAt_136 rfl ?_
                refine z_iconst (v := (-1)) g dX11_formAt_138 (by decide) ?_
                refine z_icmp_eq (tgt := 183) g dX11_formAt_139 (by decide) (fun c_139 => (by exact absurd c_139 (m1_ne (by omega)))) (fun c_139 => ?_)
                refine z_aload_n g dX11_formAt_142 rfl ?_
                refine z_getR g fl_X11_74 hM1.k0 (by decide) rfl (hM1.ref (k := 26) (by decide)) dX11_formAt_143 ?_
                refine z_iload g dX11_formAt_146 rfl ?_
                refine z_ialdk g (hM1.kA1 (k := 26) (by decide)) (by decide) (vp_in_nI (by rw [hM1.lnI (k := 26) (by decide)]; show _ < 12; omega) (by rw [hM1.lnI (k := 26) (by decide)]; decide)) dX11_formAt_148 ?_
                rw [nI_clamp (by omega), hM1.row (k := 26) (by decide) (by decide)]
                refine z_aload_n g dX11_formAt_149 rfl ?_
                refine z_getR g fl_X11_74 hM1.k0 (by decide) rfl (hM1.ref (k := 26) (by decide)) dX11_formAt_150 ?_
                refine z_iload g dX11_formAt_153 rfl ?_
                refine z_ialdk g (hM1.kA1 (k := 26) (by decide)) (by decide) (vp_in_nI (by rw [hM1.lnI (k := 26) (by decide)]; show _ < 12; omega) (by rw [hM1.lnI (k := 26) (by decide)]; decide)) dX11_formAt_155 ?_
                rw [nI_clamp (by omega), hM1.row (k := 26) (by decide) (by decide)]
                refine z_icmp_gt (tgt := 183) g dX11_formAt_156 (by decide) (fun c_156 => ?_) (fun c_156 => ?_)
                · refine z_iconst (v := 1) g dX11_formAt_183 (by decide) ?_
                  refine z_goto (tgt := 188) g dX11_formAt_184 (by decide) ?_
                  refine z_istore g dX11_formAt_188 (by rw [hN]; decide) ?_
                  refine z_iload g dX11_formAt_190 rfl ?_
                  refine z_if_eq (tgt := 228) g dX11_formAt_192 (by decide) (fun _ => ?_) (fun c_192 => absurd (by decide) c_192)
                  refine z_iload g dX11_formAt_228 rfl ?_
                  refine z_istore g dX11_formAt_230 (by rw [hN]; decide) ?_
                  refine z_iinc1 g dX11_formAt_232 rfl (by rw [hN]; decide) ?_
                  refine z_goto (tgt := 57) g dX11_formAt_235 (by decide) ?_
                  have hs := ih (k - 1) (by omega) (j + 1) (by omega)
                  try (have d180 : q0 < j := by rw [nI_leI (by omega) (by omega)] at c_180; omega)
                  try (have d180 : ¬ q0 < j := by rw [nI_leI (by omega) (by omega)] at c_180; omega)
                  rw [nI_s]
                  first
                    | (rw [show nxt S (lawP S t (gA S 21 n) d kn (exA S (nI f) t kn (cn S 31))) (some q0) (j + 1) = some j from if_pos ⟨by simp [lawP, c_74], by simp [bhd, c_156], by rw [ho]; simp [nles]⟩, o2i0] at hs
                       exact z_to hs ⟨rfl, rfl, rfl, rfl, rfl, rfl, rfl, rfl, rfl, rfl, rfl, trivial⟩)
                    | (rw [show nxt S (lawP S t (gA S 21 n) d kn (exA S (nI f) t kn (cn S 31))) (some q0) (j + 1) = nxt S (lawP S t (gA S 21 n) d kn (exA S (nI f) t kn (cn S 31))) (some q0) j from if_neg (fun z => by first | (have z1 := z.1; simp [lawP, c_74] at z1; done) | (have z1 := z.2.1; simp [bhd, c_156] at z1; done) | (have z1 := z.2.2; rw [ho] at z1; simp [nles] at z1; done)), ho] at hs
                       try rw [o2i0] at hs
                       exact z_to hs ⟨rfl, rfl, rfl, rfl, rfl, rfl, rfl, rfl, rfl, rfl, rfl, trivial⟩)
                · refine z_aload_n g dX11_formAt_159 rfl ?_
                  refine z_getR g fl_X11_74 hM1.k0 (by decide) rfl (hM1.ref (k := 26) (by decide)) dX11_formAt_160 ?_
                  refine z_iload g dX11_formAt_163 rfl ?_
                  refine z_ialdk g (hM1.kA1 (k := 26) (by decide)) (by decide) (vp_in_nI (by rw [hM1.lnI (k := 26) (by decide)]; show _ < 12; omega) (by rw [hM1.lnI (k := 26) (by decide)]; decide)) dX11_formAt_165 ?_
                  rw [nI_clamp (by omega), hM1.row (k := 26) (by decide) (by decide)]
                  refine z_aload_n g dX11_formAt_166 rfl ?_
                  refine z_getR g fl_X11_74 hM1.k0 (by decide) rfl (hM1.ref (k := 26) (by decide)) dX11_formAt_167 ?_
                  refine z_iload g dX11_formAt_170 rfl ?_
                  refine z_ialdk g (hM1.kA1 (k := 26) (by decide)) (by decide) (vp_in_nI (by rw [hM1.lnI (k := 26) (by decide)]; show _ < 12; omega) (by rw [hM1.lnI (k := 26) (by decide)]; decide)) dX11_formAt_172 ?_
                  rw [nI_clamp (by omega), hM1.row (k := 26) (by decide) (by decide)]
                  refine z_icmp_ne (tgt := 187) g dX11_formAt_173 (by decide) (fun c_173 => ?_) (fun c_173 => ?_)
                  · refine z_iconst (v := 0) g dX11_formAt_187 (by decide) ?_
                    refine z_istore g dX11_formAt_188 (by rw [hN]; decide) ?_
                    refine z_iload g dX11_formAt_190 rfl ?_
                    refine z_if_eq (tgt := 228) g dX11_formAt_192 (by decide) (fun _ => ?_) (fun c_192 => absurd (by decide) c_192)
                    refine z_iload g dX11_formAt_228 rfl ?_
                    refine z_istore g dX11_formAt_230 (by rw [hN]; decide) ?_
                    refine z_iinc1 g dX11_formAt_232 rfl (by rw [hN]; decide) ?_
                    refine z_goto (tgt := 57) g dX11_formAt_235 (by decide) ?_
                    have hs := ih (k - 1) (by omega) (j + 1) (by omega)
                    try (have d180 : q0 < j := by rw [nI_leI (by omega) (by omega)] at c_180; omega)
                    try (have d180 : ¬ q0 < j := by rw [nI_leI (by omega) (by omega)] at c_180; omega)
                    rw [nI_s]
                    first
                      | (rw [show nxt S (lawP S t (gA S 21 n) d kn (exA S (nI f) t kn (cn S 31))) (some q0) (j + 1) = some j from if_pos ⟨by simp [lawP, c_74], by simp [bhd, c_156, c_173], by rw [ho]; simp [nles]⟩, o2i0] at hs
                         exact z_to hs ⟨rfl, rfl, rfl, rfl, rfl, rfl, rfl, rfl, rfl, rfl, rfl, trivial⟩)
                      | (rw [show nxt S (lawP S t (gA S 21 n) d kn (exA S (nI f) t kn (cn S 31))) (some q0) (j + 1) = nxt S (lawP S t (gA S 21 n) d kn (exA S (nI f) t kn (cn S 31))) (some q0) j from if_neg (fun z => by first | (have z1 := z.1; simp [lawP, c_74] at z1; done) | (have z1 := z.2.1; simp [bhd, c_156, c_173] at z1; done) | (have z1 := z.2.2; rw [ho] at z1; simp [nles] at z1; done)), ho] at hs
                         try rw [o2i0] at hs
                         exact z_to hs ⟨rfl, rfl, rfl, rfl, rfl, rfl, rfl, rfl, rfl, rfl, rfl, trivial⟩)
                  · refine z_iload g dX11_formAt_176 rfl ?_
                    refine z_iload g dX11_formAt_178 rfl ?_
                    refine z_icmp_le (tgt := 187) g dX11_formAt_180 (by decide) (fun c_180 => ?_) (fun c_180 => ?_)
                    · refine z_iconst (v := 0) g dX11_formAt_187 (by decide) ?_
                      refine z_istore g dX11_formAt_188 (by rw [hN]; decide) ?_
                      refine z_iload g dX11_formAt_190 rfl ?_
                      refine z_if_eq (tgt := 228) g dX11_formAt_192 (by decide) (fun _ => ?_) (fun c_192 => absurd (by decide) c_192)
                      refine z_iload g dX11_formAt_228 rfl ?_
                      refine z_istore g dX11_formAt_230 (by rw [hN]; decide) ?_
                      refine z_iinc1 g dX11_formAt_232 rfl (by rw [hN]; decide) ?_
                      refine z_goto (tgt := 57) g dX11_formAt_235 (by decide) ?_
                      have hs := ih (k - 1) (by omega) (j + 1) (by omega)
                      try (have d180 : q0 < j := by rw [nI_leI (by omega) (by omega)] at c_180; omega)
                      try (have d180 : ¬ q0 < j := by rw [nI_leI (by omega) (by omega)] at c_180; omega)
                      rw [nI_s]
                      first
                        | (rw [show nxt S (lawP S t (gA S 21 n) d kn (exA S (nI f) t kn (cn S 31))) (some q0) (j + 1) = some j from if_pos ⟨by simp [lawP, c_74], by simp [bhd, c_156, c_173, d180], by rw [ho]; simp [nles]⟩, o2i0] at hs
                           exact z_to hs ⟨rfl, rfl, rfl, rfl, rfl, rfl, rfl, rfl, rfl, rfl, rfl, trivial⟩)
                        | (rw [show nxt S (lawP S t (gA S 21 n) d kn (exA S (nI f) t kn (cn S 31))) (some q0) (j + 1) = nxt S (lawP S t (gA S 21 n) d kn (exA S (nI f) t kn (cn S 31))) (some q0) j from if_neg (fun z => by first | (have z1 := z.1; simp [lawP, c_74] at z1; done) | (have z1 := z.2.1; simp [bhd, c_156, c_173, d180] at z1; done) | (have z1 := z.2.2; rw [ho] at z1; simp [nles] at z1; done)), ho] at hs
                           try rw [o2i0] at hs
                           exact z_to hs ⟨rfl, rfl, rfl, rfl, rfl, rfl, rfl, rfl, rfl, rfl, rfl, trivial⟩)
                    · refine z_iconst (v := 1) g dX11_formAt_183 (by decide) ?_
                      refine z_goto (tgt := 188) g dX11_formAt_184 (by decide) ?_
                      refine z_istore g dX11_formAt_188 (by rw [hN]; decide) ?_
                      refine z_iload g dX11_formAt_190 rfl ?_
                      refine z_if_eq (tgt := 228) g dX11_formAt_192 (by decide) (fun _ => ?_) (fun c_192 => absurd (by decide) c_192)
                      refine z_iload g dX11_formAt_228 rfl ?_
                      refine z_istore g dX11_formAt_230 (by rw [hN]; decide) ?_
                      refine z_iinc1 g dX11_formAt_232 rfl (by rw [hN]; decide) ?_
                      refine z_goto (tgt := 57) g dX11_formAt_235 (by decide) ?_
                      have hs := ih (k - 1) (by omega) (j + 1) (by omega)
                      try (have d180 : q0 < j := by rw [nI_leI (by omega) (by omega)] at c_180; omega)
                      try (have d180 : ¬ q0 < j := by rw [nI_leI (by omega) (by omega)] at c_180; omega)
                      rw [nI_s]
                      first
                        | (rw [show nxt S (lawP S t (gA S 21 n) d kn (exA S (nI f) t kn (cn S 31))) (some q0) (j + 1) = some j from if_pos ⟨by simp [lawP, c_74], by simp [bhd, c_156, c_173, d180], by rw [ho]; simp [nles]⟩, o2i0] at hs
                           exact z_to hs ⟨rfl, rfl, rfl, rfl, rfl, rfl, rfl, rfl, rfl, rfl, rfl, trivial⟩)
                        | (rw [show nxt S (lawP S t (gA S 21 n) d kn (exA S (nI f) t kn (cn S 31))) (some q0) (j + 1) = nxt S (lawP S t (gA S 21 n) d kn (exA S (nI f) t kn (cn S 31))) (some q0) j from if_neg (fun z => by first | (have z1 := z.1; simp [lawP, c_74] at z1; done) | (have z1 := z.2.1; simp [bhd, c_156, c_173, d180] at z1; done) | (have z1 := z.2.2; rw [ho] at z1; simp [nles] at z1; done)), ho] at hs
                           try rw [o2i0] at hs
                           exact z_to hs ⟨rfl, rfl, rfl, rfl, rfl, rfl, rfl, rfl, rfl, rfl, rfl, trivial⟩)
              · refine z_aload_n g dX11_formAt_77 rfl ?_
                refine z_getR g fl_X11_86 hM1.k0 (by decide) rfl (hM1.ref (k := 30) (by decide)) dX11_formAt_78 ?_
                refine z_iload g dX11_formAt_81 rfl ?_
                refine z_ialdk g (hM1.kA1 (k := 30) (by decide)) (by decide) (vp_in_nI (by rw [hM1.lnI (k := 30) (by decide)]; show _ < 12; omega) (by rw [hM1.lnI (k := 30) (by decide)]; decide)) dX11_formAt_83 ?_
                rw [nI_clamp (by omega), hM1.row (k := 30) (by decide) (by decide)]
                refine z_iload g dX11_formAt_84 rfl ?_
                refine z_icmp_gt (tgt := 133) g dX11_formAt_86 (by decide) (fun c_86 => ?_) (fun c_86 => ?_)
                · refine z_iconst (v := 0) g dX11_formAt_133 (by decide) ?_
                  refine z_istore g dX11_formAt_134 (by rw [hN]; decide) ?_
                  refine z_iload g dX11_formAt_136 rfl ?_
                  refine z_iconst (v := (-1)) g dX11_formAt_138 (by decide) ?_
                  refine z_icmp_eq (tgt := 183) g dX11_formAt_139 (by decide) (fun c_139 => (by exact absurd c_139 (m1_ne (by omega)))) (fun c_139 => ?_)
                  refine z_aload_n g dX11_formAt_142 rfl ?_
                  refine z_getR g fl_X11_74 hM1.k0 (by decide) rfl (hM1.ref (k := 26) (by decide)) dX11_formAt_143 ?_
                  refine z_iload g dX11_formAt_146 rfl ?_
                  refine z_ialdk g (hM1.kA1 (k := 26) (by decide)) (by decide) (vp_in_nI (by rw [hM1.lnI (k := 26) (by decide)]; show _ < 12; omega) (by rw [hM1.lnI (k := 26) (by decide)]; decide)) dX11_formAt_148 ?_
                  rw [nI_clamp (by omega), hM1.row (k := 26) (by decide) (by decide)]
                  refine z_aload_n g dX11_formAt_149 rfl ?_
                  refine z_getR g fl_X11_74 hM1.k0 (by decide) rfl (hM1.ref (k := 26) (by decide)) dX11_formAt_150 ?_
                  refine z_iload g dX11_formAt_153 rfl ?_
                  refine z_ialdk g (hM1.kA1 (k := 26) (by decide)) (by decide) (vp_in_nI (by rw [hM1.lnI (k := 26) (by decide)]; show _ < 12; omega) (by rw [hM1.lnI (k := 26) (by decide)]; decide)) dX11_formAt_155 ?_
                  rw [nI_clamp (by omega), hM1.row (k := 26) (by decide) (by decide)]
                  refine z_icmp_gt (tgt := 183) g dX11_formAt_156 (by decide) (fun c_156 => ?_) (fun c_156 => ?_)
                  · refine z_iconst (v := 1) g dX11_formAt_183 (by decide) ?_
                    refine z_goto (tgt := 188) g dX11_formAt_184 (by decide) ?_
                    refine z_istore g dX11_formAt_188 (by rw [hN]; decide) ?_
                    refine z_iload g dX11_formAt_190 rfl ?_
                    refine z_if_eq (tgt := 228) g dX11_formAt_192 (by decide) (fun _ => ?_) (fun c_192 => absurd (by decide) c_192)
                    refine z_iload g dX11_formAt_228 rfl ?_
                    refine z_istore g dX11_formAt_230 (by rw [hN]; decide) ?_
                    refine z_iinc1 g dX11_formAt_232 rfl (by rw [hN]; decide) ?_
                    refine z_goto (tgt := 57) g dX11_formAt_235 (by decide) ?_
                    have hs := ih (k - 1) (by omega) (j + 1) (by omega)
                    try (have d180 : q0 < j := by rw [nI_leI (by omega) (by omega)] at c_180; omega)
                    try (have d180 : ¬ q0 < j := by rw [nI_leI (by omega) (by omega)] at c_180; omega)
                    rw [nI_s]
                    first
                      | (rw [show nxt S (lawP S t (gA S 21 n) d kn (exA S (nI f) t kn (cn S 31))) (some q0) (j + 1) = some j from if_pos ⟨by simp [lawP, c_74, c_86], by simp [bhd, c_156], by rw [ho]; simp [nles]⟩, o2i0] at hs
                         exact z_to hs ⟨rfl, rfl, rfl, rfl, rfl, rfl, rfl, rfl, rfl, rfl, rfl, trivial⟩)
                      | (rw [show nxt S (lawP S t (gA S 21 n) d kn (exA S (nI f) t kn (cn S 31))) (some q0) (j + 1) = nxt S (lawP S t (gA S 21 n) d kn (exA S (nI f) t kn (cn S 31))) (some q0) j from if_neg (fun z => by first | (have z1 := z.1; simp [lawP, c_74, c_86] at z1; done) | (have z1 := z.2.1; simp [bhd, c_156] at z1; done) | (have z1 := z.2.2; rw [ho] at z1; simp [nles] at z1; done)), ho] at hs
                         try rw [o2i0] at hs
                         exact z_to hs ⟨rfl, rfl, rfl, rfl, rfl, rfl, rfl, rfl, rfl, rfl, rfl, trivial⟩)
                  · refine z_aload_n g dX11_formAt_159 rfl ?_
                    refine z_getR g fl_X11_74 hM1.k0 (by decide) rfl (hM1.ref (k := 26) (by decide)) dX11_formAt_160 ?_
                    refine z_iload g dX11_formAt_163 rfl ?_
                    refine z_ialdk g (hM1.kA1 (k := 26) (by decide)) (by decide) (vp_in_nI (by rw [hM1.lnI (k := 26) (by decide)]; show _ < 12; omega) (by rw [hM1.lnI (k := 26) (by decide)]; decide)) dX11_formAt_165 ?_
                    rw [nI_clamp (by omega), hM1.row (k := 26) (by decide) (by decide)]
                    refine z_aload_n g dX11_formAt_166 rfl ?_
                    refine z_getR g fl_X11_74 hM1.k0 (by decide) rfl (hM1.ref (k := 26) (by decide)) dX11_formAt_167 ?_
                    refine z_iload g dX11_formAt_170 rfl ?_
                    refine z_ialdk g (hM1.kA1 (k := 26) (by decide)) (by decide) (vp_in_nI (by rw [hM1.lnI (k := 26) (by decide)]; show _ < 12; omega) (by rw [hM1.lnI (k := 26) (by decide)]; decide)) dX11_formAt_172 ?_
                    rw [nI_clamp (by omega), hM1.row (k := 26) (by decide) (by decide)]
                    refine z_icmp_ne (tgt := 187) g dX11_formAt_173 (by decide) (fun c_173 => ?_) (fun c_173 => ?_)
                    · refine z_iconst (v := 0) g dX11_formAt_187 (by decide) ?_
                      refine z_istore g dX11_formAt_188 (by rw [hN]; decide) ?_
                      refine z_iload g dX11_formAt_190 rfl ?_
                      refine z_if_eq (tgt := 228) g dX11_formAt_192 (by decide) (fun _ => ?_) (fun c_192 => absurd (by decide) c_192)
                      refine z_iload g dX11_formAt_228 rfl ?_
                      refine z_istore g dX11_formAt_230 (by rw [hN]; decide) ?_
                      refine z_iinc1 g dX11_formAt_232 rfl (by rw [hN]; decide) ?_
                      refine z_goto (tgt := 57) g dX11_formAt_235 (by decide) ?_
                      have hs := ih (k - 1) (by omega) (j + 1) (by omega)
                      try (have d180 : q0 < j := by rw [nI_leI (by omega) (by omega)] at c_180; omega)
                      try (have d180 : ¬ q0 < j := by rw [nI_leI (by omega) (by omega)] at c_180; omega)
                      rw [nI_s]
                      first
                        | (rw [show nxt S (lawP S t (gA S 21 n) d kn (exA S (nI f) t kn (cn S 31))) (some q0) (j + 1) = some j from if_pos ⟨by simp [lawP, c_74, c_86], by simp [bhd, c_156, c_173], by rw [ho]; simp [nles]⟩, o2i0] at hs
                           exact z_to hs ⟨rfl, rfl, rfl, rfl, rfl, rfl, rfl, rfl, rfl, rfl, rfl, trivial⟩)
                        | (rw [show nxt S (lawP S t (gA S 21 n) d kn (exA S (nI f) t kn (cn S 31))) (some q0) (j + 1) = nxt S (lawP S t (gA S 21 n) d kn (exA S (nI f) t kn (cn S 31))) (some q0) j from if_neg (fun z => by first | (have z1 := z.1; simp [lawP, c_74, c_86] at z1; done) | (have z1 := z.2.1; simp [bhd, c_156, c_173] at z1; done) | (have z1 := z.2.2; rw [ho] at z1; simp [nles] at z1; done)), ho] at hs
                           try rw [o2i0] at hs
                           exact z_to hs ⟨rfl, rfl, rfl, rfl, rfl, rfl, rfl, rfl, rfl, rfl, rfl, trivial⟩)
                    · refine z_iload g dX11_formAt_176 rfl ?_
                      refine z_iload g dX11_formAt_178 rfl ?_
                      refine z_icmp_le (tgt := 187) g dX11_formAt_180 (by decide) (fun c_180 => ?_) (fun c_180 => ?_)
                      · refine z_iconst (v := 0) g dX11_formAt_187 (by decide) ?_
                        refine z_istore g dX11_formAt_188 (by rw [hN]; decide) ?_
                        refine z_iload g dX11_formAt_190 rfl ?_
                        refine z_if_eq (tgt := 228) g dX11_formAt_192 (by decide) (fun _ => ?_) (fun c_192 => absurd (by decide) c_192)
                        refine z_iload g dX11_formAt_228 rfl ?_
                        refine z_istore g dX11_formAt_230 (by rw [hN]; decide) ?_
                        refine z_iinc1 g dX11_formAt_232 rfl (by rw [hN]; decide) ?_
                        refine z_goto (tgt := 57) g dX11_formAt_235 (by decide) ?_
                        have hs := ih (k - 1) (by omega) (j + 1) (by omega)
                        try (have d180 : q0 < j := by rw [nI_leI (by omega) (by omega)] at c_180; omega)
                        try (have d180 : ¬ q0 < j := by rw [nI_leI (by omega) (by omega)] at c_180; omega)
                        rw [nI_s]
                        first
                          | (rw [show nxt S (lawP S t (gA S 21 n) d kn (exA S (nI f) t kn (cn S 31))) (some q0) (j + 1) = some j from if_pos ⟨by simp [lawP, c_74, c_86], by simp [bhd, c_156, c_173, d180], by rw [ho]; simp [nles]⟩, o2i0] at hs
                             exact z_to hs ⟨rfl, rfl, rfl, rfl, rfl, rfl, rfl, rfl, rfl, rfl, rfl, trivial⟩)
                          | (rw [show nxt S (lawP S t (gA S 21 n) d kn (exA S (nI f) t kn (cn S 31))) (some q0) (j + 1) = nxt S (lawP S t (gA S 21 n) d kn (exA S (nI f) t kn (cn S 31))) (some q0) j from if_neg (fun z => by first | (have z1 := z.1; simp [lawP, c_74, c_86] at z1; done) | (have z1 := z.2.1; simp [bhd, c_156, c_173, d180] at z1; done) | (have z1 := z.2.2; rw [ho] at z1; simp [nles] at z1; done)), ho] at hs
                             try rw [o2i0] at hs
                             exact z_to hs ⟨rfl, rfl, rfl, rfl, rfl, rfl, rfl, rfl, rfl, rfl, rfl, trivial⟩)
                      · refine z_iconst (v := 1) g dX11_formAt_183 (by decide) ?_
                        refine z_goto (tgt := 188) g dX11_formAt_184 (by decide) ?_
                        refine z_istore g dX11_formAt_188 (by rw [hN]; decide) ?_
                        refine z_iload g dX11_formAt_190 rfl ?_
                        refine z_if_eq (tgt := 228) g dX11_formAt_192 (by decide) (fun _ => ?_) (fun c_192 => absurd (by decide) c_192)
                        refine z_iload g dX11_formAt_228 rfl ?_
                        refine z_istore g dX11_formAt_230 (by rw [hN]; decide) ?_
                        refine z_iinc1 g dX11_formAt_232 rfl (by rw [hN]; decide) ?_
                        refine z_goto (tgt := 57) g dX11_formAt_235 (by decide) ?_
                        have hs := ih (k - 1) (by omega) (j + 1) (by omega)
                        try (have d180 : q0 < j := by rw [nI_leI (by omega) (by omega)] at c_180; omega)
                        try (have d180 : ¬ q0 < j := by rw [nI_leI (by omega) (by omega)] at c_180; omega)
                        rw [nI_s]
                        first
                          | (rw [show nxt S (lawP S t (gA S 21 n) d kn (exA S (nI f) t kn (cn S 31))) (some q0) (j + 1) = some j from if_pos ⟨by simp [lawP, c_74, c_86], by simp [bhd, c_156, c_173, d180], by rw [ho]; simp [nles]⟩, o2i0] at hs
                             exact z_to hs ⟨rfl, rfl, rfl, rfl, rfl, rfl, rfl, rfl, rfl, rfl, rfl, trivial⟩)
                          | (rw [show nxt S (lawP S t (gA S 21 n) d kn (exA S (nI f) t kn (cn S 31))) (some q0) (j + 1) = nxt S (lawP S t (gA S 21 n) d kn (exA S (nI f) t kn (cn S 31))) (some q0) j from if_neg (fun z => by first | (have z1 := z.1; simp [lawP, c_74, c_86] at z1; done) | (have z1 := z.2.1; simp [bhd, c_156, c_173, d180] at z1; done) | (have z1 := z.2.2; rw [ho] at z1; simp [nles] at z1; done)), ho] at hs
                             try rw [o2i0] at hs
                             exact z_to hs ⟨rfl, rfl, rfl, rfl, rfl, rfl, rfl, rfl, rfl, rfl, rfl, trivial⟩)
                · refine z_aload_n g dX11_formAt_89 rfl ?_
                  refine z_getR g fl_X11_74 hM1.k0 (by decide) rfl (hM1.ref (k := 26) (by decide)) dX11_formAt_90 ?_
                  refine z_iload g dX11_formAt_93 rfl ?_
                  refine z_ialdk g (hM1.kA1 (k := 26) (by decide)) (by decide) (vp_in_nI (by rw [hM1.lnI (k := 26) (by decide)]; show _ < 12; omega) (by rw [hM1.lnI (k := 26) (by decide)]; decide)) dX11_formAt_95 ?_
                  rw [nI_clamp (by omega), hM1.row (k := 26) (by decide) (by decide)]
                  refine z_aload_n g dX11_formAt_96 rfl ?_
                  refine z_getR g fl_X11_62 hM1.k0 (by decide) rfl (hM1.ref (k := 21) (by decide)) dX11_formAt_97 ?_
                  refine z_iload g dX11_formAt_100 rfl ?_
                  refine z_ialdk g (hM1.kA1 (k := 21) (by decide)) (by decide) (vp_in_nI (by rw [hM1.lnI (k := 21) (by decide)]; show _ < 100; omega) (by rw [hM1.lnI (k := 21) (by decide)]; decide)) dX11_formAt_102 ?_
                  rw [nI_clamp (by omega), hM1.row (k := 21) (by decide) (by decide)]
                  refine z_icmp_le (tgt := 133) g dX11_formAt_103 (by decide) (fun c_103 => ?_) (fun c_103 => ?_)
                  · refine z_iconst (v := 0) g dX11_formAt_133 (by decide) ?_
                    refine z_istore g dX11_formAt_134 (by rw [hN]; decide) ?_
                    refine z_iload g dX11_formAt_136 rfl ?_
                    refine z_iconst (v := (-1)) g dX11_formAt_138 (by decide) ?_
                    refine z_icmp_eq (tgt := 183) g dX11_formAt_139 (by decide) (fun c_139 => (by exact absurd c_139 (m1_ne (by omega)))) (fun c_139 => ?_)
                    refine z_aload_n g dX11_formAt_142 rfl ?_
                    refine z_getR g fl_X11_74 hM1.k0 (by decide) rfl (hM1.ref (k := 26) (by decide)) dX11_formAt_143 ?_
                    refine z_iload g dX11_formAt_146 rfl ?_
                    refine z_ialdk g (hM1.kA1 (k := 26) (by decide)) (by decide) (vp_in_nI (by rw [hM1.lnI (k := 26) (by decide)]; show _ < 12; omega) (by rw [hM1.lnI (k := 26) (by decide)]; decide)) dX11_formAt_148 ?_
                    rw [nI_clamp (by omega), hM1.row (k := 26) (by decide) (by decide)]
                    refine z_aload_n g dX11_formAt_149 rfl ?_
                    refine z_getR g fl_X11_74 hM1.k0 (by decide) rfl (hM1.ref (k := 26) (by decide)) dX11_formAt_150 ?_
                    refine z_iload g dX11_formAt_153 rfl ?_
                    refine z_ialdk g (hM1.kA1 (k := 26) (by decide)) (by decide) (vp_in_nI (by rw [hM1.lnI (k := 26) (by decide)]; show _ < 12; omega) (by rw [hM1.lnI (k := 26) (by decide)]; decide)) dX11_formAt_155 ?_
                    rw [nI_clamp (by omega), hM1.row (k := 26) (by decide) (by decide)]
                    refine z_icmp_gt (tgt := 183) g dX11_formAt_156 (by decide) (fun c_156 => ?_) (fun c_156 => ?_)
                    · refine z_iconst (v := 1) g dX11_formAt_183 (by decide) ?_
                      refine z_goto (tgt := 188) g dX11_formAt_184 (by decide) ?_
                      refine z_istore g dX11_formAt_188 (by rw [hN]; decide) ?_
                      refine z_iload g dX11_formAt_190 rfl ?_
                      refine z_if_eq (tgt := 228) g dX11_formAt_192 (by decide) (fun _ => ?_) (fun c_192 => absurd (by decide) c_192)
                      refine z_iload g dX11_formAt_228 rfl ?_
                      refine z_istore g dX11_formAt_230 (by rw [hN]; decide) ?_
                      refine z_iinc1 g dX11_formAt_232 rfl (by rw [hN]; decide) ?_
                      refine z_goto (tgt := 57) g dX11_formAt_235 (by decide) ?_
                      have hs := ih (k - 1) (by omega) (j + 1) (by omega)
                      try (have d180 : q0 < j := by rw [nI_leI (by omega) (by omega)] at c_180; omega)
                      try (have d180 : ¬ q0 < j := by rw [nI_leI (by omega) (by omega)] at c_180; omega)
                      rw [nI_s]
                      first
                        | (rw [show nxt S (lawP S t (gA S 21 n) d kn (exA S (nI f) t kn (cn S 31))) (some q0) (j + 1) = some j from if_pos ⟨by simp [lawP, c_74, c_86, c_103], by simp [bhd, c_156], by rw [ho]; simp [nles]⟩, o2i0] at hs
                           exact z_to hs ⟨rfl, rfl, rfl, rfl, rfl, rfl, rfl, rfl, rfl, rfl, rfl, trivial⟩)
                        | (rw [show nxt S (lawP S t (gA S 21 n) d kn (exA S (nI f) t kn (cn S 31))) (some q0) (j + 1) = nxt S (lawP S t (gA S 21 n) d kn (exA S (nI f) t kn (cn S 31))) (some q0) j from if_neg (fun z => by first | (have z1 := z.1; simp [lawP, c_74, c_86, c_103] at z1; done) | (have z1 := z.2.1; simp [bhd, c_156] at z1; done) | (have z1 := z.2.2; rw [ho] at z1; simp [nles] at z1; done)), ho] at hs
                           try rw [o2i0] at hs
                           exact z_to hs ⟨rfl, rfl, rfl, rfl, rfl, rfl, rfl, rfl, rfl, rfl, rfl, trivial⟩)
                    · refine z_aload_n g dX11_formAt_159 rfl ?_
                      refine z_getR g fl_X11_74 hM1.k0 (by decide) rfl (hM1.ref (k := 26) (by decide)) dX11_formAt_160 ?_
                      refine z_iload g dX11_formAt_163 rfl ?_
                      refine z_ialdk g (hM1.kA1 (k := 26) (by decide)) (by decide) (vp_in_nI (by rw [hM1.lnI (k := 26) (by decide)]; show _ < 12; omega) (by rw [hM1.lnI (k := 26) (by decide)]; decide)) dX11_formAt_165 ?_
                      rw [nI_clamp (by omega), hM1.row (k := 26) (by decide) (by decide)]
                      refine z_aload_n g dX11_formAt_166 rfl ?_
                      refine z_getR g fl_X11_74 hM1.k0 (by decide) rfl (hM1.ref (k := 26) (by decide)) dX11_formAt_167 ?_
                      refine z_iload g dX11_formAt_170 rfl ?_
                      refine z_ialdk g (hM1.kA1 (k := 26) (by decide)) (by decide) (vp_in_nI (by rw [hM1.lnI (k := 26) (by decide)]; show _ < 12; omega) (by rw [hM1.lnI (k := 26) (by decide)]; decide)) dX11_formAt_172 ?_
                      rw [nI_clamp (by omega), hM1.row (k := 26) (by decide) (by decide)]
                      refine z_icmp_ne (tgt := 187) g dX11_formAt_173 (by decide) (fun c_173 => ?_) (fun c_173 => ?_)
                      · refine z_iconst (v := 0) g dX11_formAt_187 (by decide) ?_
                        refine z_istore g dX11_formAt_188 (by rw [hN]; decide) ?_
                        refine z_iload g dX11_formAt_190 rfl ?_
                        refine z_if_eq (tgt := 228) g dX11_formAt_192 (by decide) (fun _ => ?_) (fun c_192 => absurd (by decide) c_192)
                        refine z_iload g dX11_formAt_228 rfl ?_
                        refine z_istore g dX11_formAt_230 (by rw [hN]; decide) ?_
                        refine z_iinc1 g dX11_formAt_232 rfl (by rw [hN]; decide) ?_
                        refine z_goto (tgt := 57) g dX11_formAt_235 (by decide) ?_
                        have hs := ih (k - 1) (by omega) (j + 1) (by omega)
                        try (have d180 : q0 < j := by rw [nI_leI (by omega) (by omega)] at c_180; omega)
                        try (have d180 : ¬ q0 < j := by rw [nI_leI (by omega) (by omega)] at c_180; omega)
                        rw [nI_s]
                        first
                          | (rw [show nxt S (lawP S t (gA S 21 n) d kn (exA S (nI f) t kn (cn S 31))) (some q0) (j + 1) = some j from if_pos ⟨by simp [lawP, c_74, c_86, c_103], by simp [bhd, c_156, c_173], by rw [ho]; simp [nles]⟩, o2i0] at hs
                             exact z_to hs ⟨rfl, rfl, rfl, rfl, rfl, rfl, rfl, rfl, rfl, rfl, rfl, trivial⟩)
                          | (rw [show nxt S (lawP S t (gA S 21 n) d kn (exA S (nI f) t kn (cn S 31))) (some q0) (j + 1) = nxt S (lawP S t (gA S 21 n) d kn (exA S (nI f) t kn (cn S 31))) (some q0) j from if_neg (fun z => by first | (have z1 := z.1; simp [lawP, c_74, c_86, c_103] at z1; done) | (have z1 := z.2.1; simp [bhd, c_156, c_173] at z1; done) | (have z1 := z.2.2; rw [ho] at z1; simp [nles] at z1; done)), ho] at hs
                             try rw [o2i0] at hs
                             exact z_to hs ⟨rfl, rfl, rfl, rfl, rfl, rfl, rfl, rfl, rfl, rfl, rfl, trivial⟩)
                      · refine z_iload g dX11_formAt_176 rfl ?_
                        refine z_iload g dX11_formAt_178 rfl ?_
                        refine z_icmp_le (tgt := 187) g dX11_formAt_180 (by decide) (fun c_180 => ?_) (fun c_180 => ?_)
                        · refine z_iconst (v := 0) g dX11_formAt_187 (by decide) ?_
                          refine z_istore g dX11_formAt_188 (by rw [hN]; decide) ?_
                          refine z_iload g dX11_formAt_190 rfl ?_
                          refine z_if_eq (tgt := 228) g dX11_formAt_192 (by decide) (fun _ => ?_) (fun c_192 => absurd (by decide) c_192)
                          refine z_iload g dX11_formAt_228 rfl ?_
                          refine z_istore g dX11_formAt_230 (by rw [hN]; decide) ?_
                          refine z_iinc1 g dX11_formAt_232 rfl (by rw [hN]; decide) ?_
                          refine z_goto (tgt := 57) g dX11_formAt_235 (by decide) ?_
                          have hs := ih (k - 1) (by omega) (j + 1) (by omega)
                          try (have d180 : q0 < j := by rw [nI_leI (by omega) (by omega)] at c_180; omega)
                          try (have d180 : ¬ q0 < j := by rw [nI_leI (by omega) (by omega)] at c_180; omega)
                          rw [nI_s]
                          first
                            | (rw [show nxt S (lawP S t (gA S 21 n) d kn (exA S (nI f) t kn (cn S 31))) (some q0) (j + 1) = some j from if_pos ⟨by simp [lawP, c_74, c_86, c_103], by simp [bhd, c_156, c_173, d180], by rw [ho]; simp [nles]⟩, o2i0] at hs
                               exact z_to hs ⟨rfl, rfl, rfl, rfl, rfl, rfl, rfl, rfl, rfl, rfl, rfl, trivial⟩)
                            | (rw [show nxt S (lawP S t (gA S 21 n) d kn (exA S (nI f) t kn (cn S 31))) (some q0) (j + 1) = nxt S (lawP S t (gA S 21 n) d kn (exA S (nI f) t kn (cn S 31))) (some q0) j from if_neg (fun z => by first | (have z1 := z.1; simp [lawP, c_74, c_86, c_103] at z1; done) | (have z1 := z.2.1; simp [bhd, c_156, c_173, d180] at z1; done) | (have z1 := z.2.2; rw [ho] at z1; simp [nles] at z1; done)), ho] at hs
                               try rw [o2i0] at hs
                               exact z_to hs ⟨rfl, rfl, rfl, rfl, rfl, rfl, rfl, rfl, rfl, rfl, rfl, trivial⟩)
                        · refine z_iconst (v := 1) g dX11_formAt_183 (by decide) ?_
                          refine z_goto (tgt := 188) g dX11_formAt_184 (by decide) ?_
                          refine z_istore g dX11_formAt_188 (by rw [hN]; decide) ?_
                          refine z_iload g dX11_formAt_190 rfl ?_
                          refine z_if_eq (tgt := 228) g dX11_formAt_192 (by decide) (fun _ => ?_) (fun c_192 => absurd (by decide) c_192)
                          refine z_iload g dX11_formAt_228 rfl ?_
                          refine z_istore g dX11_formAt_230 (by rw [hN]; decide) ?_
                          refine z_iinc1 g dX11_formAt_232 rfl (by rw [hN]; decide) ?_
                          refine z_goto (tgt := 57) g dX11_formAt_235 (by decide) ?_
                          have hs := ih (k - 1) (by omega) (j + 1) (by omega)
                          try (have d180 : q0 < j := by rw [nI_leI (by omega) (by omega)] at c_180; omega)
                          try (have d180 : ¬ q0 < j := by rw [nI_leI (by omega) (by omega)] at c_180; omega)
                          rw [nI_s]
                          first
                            | (rw [show nxt S (lawP S t (gA S 21 n) d kn (exA S (nI f) t kn (cn S 31))) (some q0) (j + 1) = some j from if_pos ⟨by simp [lawP, c_74, c_86, c_103], by simp [bhd, c_156, c_173, d180], by rw [ho]; simp [nles]⟩, o2i0] at hs
                               exact z_to hs ⟨rfl, rfl, rfl, rfl, rfl, rfl, rfl, rfl, rfl, rfl, rfl, trivial⟩)
                            | (rw [show nxt S (lawP S t (gA S 21 n) d kn (exA S (nI f) t kn (cn S 31))) (some q0) (j + 1) = nxt S (lawP S t (gA S 21 n) d kn (exA S (nI f) t kn (cn S 31))) (some q0) j from if_neg (fun z => by first | (have z1 := z.1; simp [lawP, c_74, c_86, c_103] at z1; done) | (have z1 := z.2.1; simp [bhd, c_156, c_173, d180] at z1; done) | (have z1 := z.2.2; rw [ho] at z1; simp [nles] at z1; done)), ho] at hs
                               try rw [o2i0] at hs
                               exact z_to hs ⟨rfl, rfl, rfl, rfl, rfl, rfl, rfl, rfl, rfl, rfl, rfl, trivial⟩)
                  · refine z_aload_n g dX11_formAt_106 rfl ?_
                    refine z_getR g fl_X11_74 hM1.k0 (by decide) rfl (hM1.ref (k := 26) (by decide)) dX11_formAt_107 ?_
                    refine z_iload g dX11_formAt_110 rfl ?_
                    refine z_ialdk g (hM1.kA1 (k := 26) (by decide)) (by decide) (vp_in_nI (by rw [hM1.lnI (k := 26) (by decide)]; show _ < 12; omega) (by rw [hM1.lnI (k := 26) (by decide)]; decide)) dX11_formAt_112 ?_
                    rw [nI_clamp (by omega), hM1.row (k := 26) (by decide) (by decide)]
                    refine z_iload_n g dX11_formAt_113 rfl ?_
                    refine z_icmp_gt (tgt := 133) g dX11_formAt_114 (by decide) (fun c_114 => ?_) (fun c_114 => ?_)
                    · refine z_iconst (v := 0) g dX11_formAt_133 (by decide) ?_
                      refine z_istore g dX11_formAt_134 (by rw [hN]; decide) ?_
                      refine z_iload g dX11_formAt_136 rfl ?_
                      refine z_iconst (v := (-1)) g dX11_formAt_138 (by decide) ?_
                      refine z_icmp_eq (tgt := 183) g dX11_formAt_139 (by decide) (fun c_139 => (by exact absurd c_139 (m1_ne (by omega)))) (fun c_139 => ?_)
                      refine z_aload_n g dX11_formAt_142 rfl ?_
                      refine z_getR g fl_X11_74 hM1.k0 (by decide) rfl (hM1.ref (k := 26) (by decide)) dX11_formAt_143 ?_
                      refine z_iload g dX11_formAt_146 rfl ?_
                      refine z_ialdk g (hM1.kA1 (k := 26) (by decide)) (by decide) (vp_in_nI (by rw [hM1.lnI (k := 26) (by decide)]; show _ < 12; omega) (by rw [hM1.lnI (k := 26) (by decide)]; decide)) dX11_formAt_148 ?_
                      rw [nI_clamp (by omega), hM1.row (k := 26) (by decide) (by decide)]
                      refine z_aload_n g dX11_formAt_149 rfl ?_
                      refine z_getR g fl_X11_74 hM1.k0 (by decide) rfl (hM1.ref (k := 26) (by decide)) dX11_formAt_150 ?_
                      refine z_iload g dX11_formAt_153 rfl ?_
                      refine z_ialdk g (hM1.kA1 (k := 26) (by decide)) (by decide) (vp_in_nI (by rw [hM1.lnI (k := 26) (by decide)]; show _ < 12; omega) (by rw [hM1.lnI (k := 26) (by decide)]; decide)) dX11_formAt_155 ?_
                      rw [nI_clamp (by omega), hM1.row (k := 26) (by decide) (by decide)]
                      refine z_icmp_gt (tgt := 183) g dX11_formAt_156 (by decide) (fun c_156 => ?_) (fun c_156 => ?_)
                      · refine z_iconst (v := 1) g dX11_formAt_183 (by decide) ?_
                        refine z_goto (tgt := 188) g dX11_formAt_184 (by decide) ?_
                        refine z_istore g dX11_formAt_188 (by rw [hN]; decide) ?_
                        refine z_iload g dX11_formAt_190 rfl ?_
                        refine z_if_eq (tgt := 228) g dX11_formAt_192 (by decide) (fun _ => ?_) (fun c_192 => absurd (by decide) c_192)
                        refine z_iload g dX11_formAt_228 rfl ?_
                        refine z_istore g dX11_formAt_230 (by rw [hN]; decide) ?_
                        refine z_iinc1 g dX11_formAt_232 rfl (by rw [hN]; decide) ?_
                        refine z_goto (tgt := 57) g dX11_formAt_235 (by decide) ?_
                        have hs := ih (k - 1) (by omega) (j + 1) (by omega)
                        try (have d180 : q0 < j := by rw [nI_leI (by omega) (by omega)] at c_180; omega)
                        try (have d180 : ¬ q0 < j := by rw [nI_leI (by omega) (by omega)] at c_180; omega)
                        rw [nI_s]
                        first
                          | (rw [show nxt S (lawP S t (gA S 21 n) d kn (exA S (nI f) t kn (cn S 31))) (some q0) (j + 1) = some j from if_pos ⟨by simp [lawP, c_74, c_86, c_103, c_114], by simp [bhd, c_156], by rw [ho]; simp [nles]⟩, o2i0] at hs
                             exact z_to hs ⟨rfl, rfl, rfl, rfl, rfl, rfl, rfl, rfl, rfl, rfl, rfl, trivial⟩)
                          | (rw [show nxt S (lawP S t (gA S 21 n) d kn (exA S (nI f) t kn (cn S 31))) (some q0) (j + 1) = nxt S (lawP S t (gA S 21 n) d kn (exA S (nI f) t kn (cn S 31))) (some q0) j from if_neg (fun z => by first | (have z1 := z.1; simp [lawP, c_74, c_86, c_103, c_114] at z1; done) | (have z1 := z.2.1; simp [bhd, c_156] at z1; done) | (have z1 := z.2.2; rw [ho] at z1; simp [nles] at z1; done)), ho] at hs
                             try rw [o2i0] at hs
                             exact z_to hs ⟨rfl, rfl, rfl, rfl, rfl, rfl, rfl, rfl, rfl, rfl, rfl, trivial⟩)
                      · refine z_aload_n g dX11_formAt_159 rfl ?_
                        refine z_getR g fl_X11_74 hM1.k0 (by decide) rfl (hM1.ref (k := 26) (by decide)) dX11_formAt_160 ?_
                        refine z_iload g dX11_formAt_163 rfl ?_
                        refine z_ialdk g (hM1.kA1 (k := 26) (by decide)) (by decide) (vp_in_nI (by rw [hM1.lnI (k := 26) (by decide)]; show _ < 12; omega) (by rw [hM1.lnI (k := 26) (by decide)]; decide)) dX11_formAt_165 ?_
                        rw [nI_clamp (by omega), hM1.row (k := 26) (by decide) (by decide)]
                        refine z_aload_n g dX11_formAt_166 rfl ?_
                        refine z_getR g fl_X11_74 hM1.k0 (by decide) rfl (hM1.ref (k := 26) (by decide)) dX11_formAt_167 ?_
                        refine z_iload g dX11_formAt_170 rfl ?_
                        refine z_ialdk g (hM1.kA1 (k := 26) (by decide)) (by decide) (vp_in_nI (by rw [hM1.lnI (k := 26) (by decide)]; show _ < 12; omega) (by rw [hM1.lnI (k := 26) (by decide)]; decide)) dX11_formAt_172 ?_
                        rw [nI_clamp (by omega), hM1.row (k := 26) (by decide) (by decide)]
                        refine z_icmp_ne (tgt := 187) g dX11_formAt_173 (by decide) (fun c_173 => ?_) (fun c_173 => ?_)
                        · refine z_iconst (v := 0) g dX11_formAt_187 (by decide) ?_
                          refine z_istore g dX11_formAt_188 (by rw [hN]; decide) ?_
                          refine z_iload g dX11_formAt_190 rfl ?_
                          refine z_if_eq (tgt := 228) g dX11_formAt_192 (by decide) (fun _ => ?_) (fun c_192 => absurd (by decide) c_192)
                          refine z_iload g dX11_formAt_228 rfl ?_
                          refine z_istore g dX11_formAt_230 (by rw [hN]; decide) ?_
                          refine z_iinc1 g dX11_formAt_232 rfl (by rw [hN]; decide) ?_
                          refine z_goto (tgt := 57) g dX11_formAt_235 (by decide) ?_
                          have hs := ih (k - 1) (by omega) (j + 1) (by omega)
                          try (have d180 : q0 < j := by rw [nI_leI (by omega) (by omega)] at c_180; omega)
                          try (have d180 : ¬ q0 < j := by rw [nI_leI (by omega) (by omega)] at c_180; omega)
                          rw [nI_s]
                          first
                            | (rw [show nxt S (lawP S t (gA S 21 n) d kn (exA S (nI f) t kn (cn S 31))) (some q0) (j + 1) = some j from if_pos ⟨by simp [lawP, c_74, c_86, c_103, c_114], by simp [bhd, c_156, c_173], by rw [ho]; simp [nles]⟩, o2i0] at hs
                               exact z_to hs ⟨rfl, rfl, rfl, rfl, rfl, rfl, rfl, rfl, rfl, rfl, rfl, trivial⟩)
                            | (rw [show nxt S (lawP S t (gA S 21 n) d kn (exA S (nI f) t kn (cn S 31))) (some q0) (j + 1) = nxt S (lawP S t (gA S 21 n) d kn (exA S (nI f) t kn (cn S 31))) (some q0) j from if_neg (fun z => by first | (have z1 := z.1; simp [lawP, c_74, c_86, c_103, c_114] at z1; done) | (have z1 := z.2.1; simp [bhd, c_156, c_173] at z1; done) | (have z1 := z.2.2; rw [ho] at z1; simp [nles] at z1; done)), ho] at hs
                               try rw [o2i0] at hs
                               exact z_to hs ⟨rfl, rfl, rfl, rfl, rfl, rfl, rfl, rfl, rfl, rfl, rfl, trivial⟩)
                        · refine z_iload g dX11_formAt_176 rfl ?_
                          refine z_iload g dX11_formAt_178 rfl ?_
                          refine z_icmp_le (tgt := 187) g dX11_formAt_180 (by decide) (fun c_180 => ?_) (fun c_180 => ?_)
                          · refine z_iconst (v := 0) g dX11_formAt_187 (by decide) ?_
                            refine z_istore g dX11_formAt_188 (by rw [hN]; decide) ?_
                            refine z_iload g dX11_formAt_190 rfl ?_
                            refine z_if_eq (tgt := 228) g dX11_formAt_192 (by decide) (fun _ => ?_) (fun c_192 => absurd (by decide) c_192)
                            refine z_iload g dX11_formAt_228 rfl ?_
                            refine z_istore g dX11_formAt_230 (by rw [hN]; decide) ?_
                            refine z_iinc1 g dX11_formAt_232 rfl (by rw [hN]; decide) ?_
                            refine z_goto (tgt := 57) g dX11_formAt_235 (by decide) ?_
                            have hs := ih (k - 1) (by omega) (j + 1) (by omega)
                            try (have d180 : q0 < j := by rw [nI_leI (by omega) (by omega)] at c_180; omega)
                            try (have d180 : ¬ q0 < j := by rw [nI_leI (by omega) (by omega)] at c_180; omega)
                            rw [nI_s]
                            first
                              | (rw [show nxt S (lawP S t (gA S 21 n) d kn (exA S (nI f) t kn (cn S 31))) (some q0) (j + 1) = some j from if_pos ⟨by simp [lawP, c_74, c_86, c_103, c_114], by simp [bhd, c_156, c_173, d180], by rw [ho]; simp [nles]⟩, o2i0] at hs
                                 exact z_to hs ⟨rfl, rfl, rfl, rfl, rfl, rfl, rfl, rfl, rfl, rfl, rfl, trivial⟩)
                              | (rw [show nxt S (lawP S t (gA S 21 n) d kn (exA S (nI f) t kn (cn S 31))) (some q0) (j + 1) = nxt S (lawP S t (gA S 21 n) d kn (exA S (nI f) t kn (cn S 31))) (some q0) j from if_neg (fun z => by first | (have z1 := z.1; simp [lawP, c_74, c_86, c_103, c_114] at z1; done) | (have z1 := z.2.1; simp [bhd, c_156, c_173, d180] at z1; done) | (have z1 := z.2.2; rw [ho] at z1; simp [nles] at z1; done)), ho] at hs
                                 try rw [o2i0] at hs
                                 exact z_to hs ⟨rfl, rfl, rfl, rfl, rfl, rfl, rfl, rfl, rfl, rfl, rfl, trivial⟩)
                          · refine z_iconst (v := 1) g dX11_formAt_183 (by decide) ?_
                            refine z_goto (tgt := 188) g dX11_formAt_184 (by decide) ?_
                            refine z_istore g dX11_formAt_188 (by rw [hN]; decide) ?_
                            refine z_iload g dX11_formAt_190 rfl ?_
                            refine z_if_eq (tgt := 228) g dX11_formAt_192 (by decide) (fun _ => ?_) (fun c_192 => absurd (by decide) c_192)
                            refine z_iload g dX11_formAt_228 rfl ?_
                            refine z_istore g dX11_formAt_230 (by rw [hN]; decide) ?_
                            refine z_iinc1 g dX11_formAt_232 rfl (by rw [hN]; decide) ?_
                            refine z_goto (tgt := 57) g dX11_formAt_235 (by decide) ?_
                            have hs := ih (k - 1) (by omega) (j + 1) (by omega)
                            try (have d180 : q0 < j := by rw [nI_leI (by omega) (by omega)] at c_180; omega)
                            try (have d180 : ¬ q0 < j := by rw [nI_leI (by omega) (by omega)] at c_180; omega)
                            rw [nI_s]
                            first
                              | (rw [show nxt S (lawP S t (gA S 21 n) d kn (exA S (nI f) t kn (cn S 31))) (some q0) (j + 1) = some j from if_pos ⟨by simp [lawP, c_74, c_86, c_103, c_114], by simp [bhd, c_156, c_173, d180], by rw [ho]; simp [nles]⟩, o2i0] at hs
                                 exact z_to hs ⟨rfl, rfl, rfl, rfl, rfl, rfl, rfl, rfl, rfl, rfl, rfl, trivial⟩)
                              | (rw [show nxt S (lawP S t (gA S 21 n) d kn (exA S (nI f) t kn (cn S 31))) (some q0) (j + 1) = nxt S (lawP S t (gA S 21 n) d kn (exA S (nI f) t kn (cn S 31))) (some q0) j from if_neg (fun z => by first | (have z1 := z.1; simp [lawP, c_74, c_86, c_103, c_114] at z1; done) | (have z1 := z.2.1; simp [bhd, c_156, c_173, d180] at z1; done) | (have z1 := z.2.2; rw [ho] at z1; simp [nles] at z1; done)), ho] at hs
                                 try rw [o2i0] at hs
                                 exact z_to hs ⟨rfl, rfl, rfl, rfl, rfl, rfl, rfl, rfl, rfl, rfl, rfl, trivial⟩)
                    · refine z_aload_n g dX11_formAt_117 rfl ?_
                      refine z_getR g fl_X11_74 hM1.k0 (by decide) rfl (hM1.ref (k := 26) (by decide)) dX11_formAt_118 ?_
                      refine z_iload g dX11_formAt_121 rfl ?_
                      refine z_ialdk g (hM1.kA1 (k := 26) (by decide)) (by decide) (vp_in_nI (by rw [hM1.lnI (k := 26) (by decide)]; show _ < 12; omega) (by rw [hM1.lnI (k := 26) (by decide)]; decide)) dX11_formAt_123 ?_
                      rw [nI_clamp (by omega), hM1.row (k := 26) (by decide) (by decide)]
                      refine z_iload g dX11_formAt_124 rfl ?_
                      refine z_icmp_ge (tgt := 133) g dX11_formAt_126 (by decide) (fun c_126 => ?_) (fun c_126 => ?_)
                      · refine z_iconst (v := 0) g dX11_formAt_133 (by decide) ?_
                        refine z_istore g dX11_formAt_134 (by rw [hN]; decide) ?_
                        refine z_iload g dX11_formAt_136 rfl ?_
                        refine z_iconst (v := (-1)) g dX11_formAt_138 (by decide) ?_
                        refine z_icmp_eq (tgt := 183) g dX11_formAt_139 (by decide) (fun c_139 => (by exact absurd c_139 (m1_ne (by omega)))) (fun c_139 => ?_)
                        refine z_aload_n g dX11_formAt_142 rfl ?_
                        refine z_getR g fl_X11_74 hM1.k0 (by decide) rfl (hM1.ref (k := 26) (by decide)) dX11_formAt_143 ?_
                        refine z_iload g dX11_formAt_146 rfl ?_
                        refine z_ialdk g (hM1.kA1 (k := 26) (by decide)) (by decide) (vp_in_nI (by rw [hM1.lnI (k := 26) (by decide)]; show _ < 12; omega) (by rw [hM1.lnI (k := 26) (by decide)]; decide)) dX11_formAt_148 ?_
                        rw [nI_clamp (by omega), hM1.row (k := 26) (by decide) (by decide)]
                        refine z_aload_n g dX11_formAt_149 rfl ?_
                        refine z_getR g fl_X11_74 hM1.k0 (by decide) rfl (hM1.ref (k := 26) (by decide)) dX11_formAt_150 ?_
                        refine z_iload g dX11_formAt_153 rfl ?_
                        refine z_ialdk g (hM1.kA1 (k := 26) (by decide)) (by decide) (vp_in_nI (by rw [hM1.lnI (k := 26) (by decide)]; show _ < 12; omega) (by rw [hM1.lnI (k := 26) (by decide)]; decide)) dX11_formAt_155 ?_
                        rw [nI_clamp (by omega), hM1.row (k := 26) (by decide) (by decide)]
                        refine z_icmp_gt (tgt := 183) g dX11_formAt_156 (by decide) (fun c_156 => ?_) (fun c_156 => ?_)
                        · refine z_iconst (v := 1) g dX11_formAt_183 (by decide) ?_
                          refine z_goto (tgt := 188) g dX11_formAt_184 (by decide) ?_
                          refine z_istore g dX11_formAt_188 (by rw [hN]; decide) ?_
                          refine z_iload g dX11_formAt_190 rfl ?_
                          refine z_if_eq (tgt := 228) g dX11_formAt_192 (by decide) (fun _ => ?_) (fun c_192 => absurd (by decide) c_192)
                          refine z_iload g dX11_formAt_228 rfl ?_
                          refine z_istore g dX11_formAt_230 (by rw [hN]; decide) ?_
                          refine z_iinc1 g dX11_formAt_232 rfl (by rw [hN]; decide) ?_
                          refine z_goto (tgt := 57) g dX11_formAt_235 (by decide) ?_
                          have hs := ih (k - 1) (by omega) (j + 1) (by omega)
                          try (have d180 : q0 < j := by rw [nI_leI (by omega) (by omega)] at c_180; omega)
                          try (have d180 : ¬ q0 < j := by rw [nI_leI (by omega) (by omega)] at c_180; omega)
                          rw [nI_s]
                          first
                            | (rw [show nxt S (lawP S t (gA S 21 n) d kn (exA S (nI f) t kn (cn S 31))) (some q0) (j + 1) = some j from if_pos ⟨by simp [lawP, c_74, c_86, c_103, c_114, c_126], by simp [bhd, c_156], by rw [ho]; simp [nles]⟩, o2i0] at hs
                               exact z_to hs ⟨rfl, rfl, rfl, rfl, rfl, rfl, rfl, rfl, rfl, rfl, rfl, trivial⟩)
                            | (rw [show nxt S (lawP S t (gA S 21 n) d kn (exA S (nI f) t kn (cn S 31))) (some q0) (j + 1) = nxt S (lawP S t (gA S 21 n) d kn (exA S (nI f) t kn (cn S 31))) (some q0) j from if_neg (fun z => by first | (have z1 := z.1; simp [lawP, c_74, c_86, c_103, c_114, c_126] at z1; done) | (have z1 := z.2.1; simp [bhd, c_156] at z1; done) | (have z1 := z.2.2; rw [ho] at z1; simp [nles] at z1; done)), ho] at hs
                               try rw [o2i0] at hs
                               exact z_to hs ⟨rfl, rfl, rfl, rfl, rfl, rfl, rfl, rfl, rfl, rfl, rfl, trivial⟩)
                        · refine z_aload_n g dX11_formAt_159 rfl ?_
                          refine z_getR g fl_X11_74 hM1.k0 (by decide) rfl (hM1.ref (k := 26) (by decide)) dX11_formAt_160 ?_
                          refine z_iload g dX11_formAt_163 rfl ?_
                          refine z_ialdk g (hM1.kA1 (k := 26) (by decide)) (by decide) (vp_in_nI (by rw [hM1.lnI (k := 26) (by decide)]; show _ < 12; omega) (by rw [hM1.lnI (k := 26) (by decide)]; decide)) dX11_formAt_165 ?_
                          rw [nI_clamp (by omega), hM1.row (k := 26) (by decide) (by decide)]
                          refine z_aload_n g dX11_formAt_166 rfl ?_
                          refine z_getR g fl_X11_74 hM1.k0 (by decide) rfl (hM1.ref (k := 26) (by decide)) dX11_formAt_167 ?_
                          refine z_iload g dX11_formAt_170 rfl ?_
                          refine z_ialdk g (hM1.kA1 (k := 26) (by decide)) (by decide) (vp_in_nI (by rw [hM1.lnI (k := 26) (by decide)]; show _ < 12; omega) (by rw [hM1.lnI (k := 26) (by decide)]; decide)) dX11_formAt_172 ?_
                          rw [nI_clamp (by omega), hM1.row (k := 26) (by decide) (by decide)]
                          refine z_icmp_ne (tgt := 187) g dX11_formAt_173 (by decide) (fun c_173 => ?_) (fun c_173 => ?_)
                          · refine z_iconst (v := 0) g dX11_formAt_187 (by decide) ?_
                            refine z_istore g dX11_formAt_188 (by rw [hN]; decide) ?_
                            refine z_iload g dX11_formAt_190 rfl ?_
                            refine z_if_eq (tgt := 228) g dX11_formAt_192 (by decide) (fun _ => ?_) (fun c_192 => absurd (by decide) c_192)
                            refine z_iload g dX11_formAt_228 rfl ?_
                            refine z_istore g dX11_formAt_230 (by rw [hN]; decide) ?_
                            refine z_iinc1 g dX11_formAt_232 rfl (by rw [hN]; decide) ?_
                            refine z_goto (tgt := 57) g dX11_formAt_235 (by decide) ?_
                            have hs := ih (k - 1) (by omega) (j + 1) (by omega)
                            try (have d180 : q0 < j := by rw [nI_leI (by omega) (by omega)] at c_180; omega)
                            try (have d180 : ¬ q0 < j := by rw [nI_leI (by omega) (by omega)] at c_180; omega)
                            rw [nI_s]
                            first
                              | (rw [show nxt S (lawP S t (gA S 21 n) d kn (exA S (nI f) t kn (cn S 31))) (some q0) (j + 1) = some j from if_pos ⟨by simp [lawP, c_74, c_86, c_103, c_114, c_126], by simp [bhd, c_156, c_173], by rw [ho]; simp [nles]⟩, o2i0] at hs
                                 exact z_to hs ⟨rfl, rfl, rfl, rfl, rfl, rfl, rfl, rfl, rfl, rfl, rfl, trivial⟩)
                              | (rw [show nxt S (lawP S t (gA S 21 n) d kn (exA S (nI f) t kn (cn S 31))) (some q0) (j + 1) = nxt S (lawP S t (gA S 21 n) d kn (exA S (nI f) t kn (cn S 31))) (some q0) j from if_neg (fun z => by first | (have z1 := z.1; simp [lawP, c_74, c_86, c_103, c_114, c_126] at z1; done) | (have z1 := z.2.1; simp [bhd, c_156, c_173] at z1; done) | (have z1 := z.2.2; rw [ho] at z1; simp [nles] at z1; done)), ho] at hs
                                 try rw [o2i0] at hs
                                 exact z_to hs ⟨rfl, rfl, rfl, rfl, rfl, rfl, rfl, rfl, rfl, rfl, rfl, trivial⟩)
                          · refine z_iload g dX11_formAt_176 rfl ?_
                            refine z_iload g dX11_formAt_178 rfl ?_
                            refine z_icmp_le (tgt := 187) g dX11_formAt_180 (by decide) (fun c_180 => ?_) (fun c_180 => ?_)
                            · refine z_iconst (v := 0) g dX11_formAt_187 (by decide) ?_
                              refine z_istore g dX11_formAt_188 (by rw [hN]; decide) ?_
                              refine z_iload g dX11_formAt_190 rfl ?_
                              refine z_if_eq (tgt := 228) g dX11_formAt_192 (by decide) (fun _ => ?_) (fun c_192 => absurd (by decide) c_192)
                              refine z_iload g dX11_formAt_228 rfl ?_
                              refine z_istore g dX11_formAt_230 (by rw [hN]; decide) ?_
                              refine z_iinc1 g dX11_formAt_232 rfl (by rw [hN]; decide) ?_
                              refine z_goto (tgt := 57) g dX11_formAt_235 (by decide) ?_
                              have hs := ih (k - 1) (by omega) (j + 1) (by omega)
                              try (have d180 : q0 < j := by rw [nI_leI (by omega) (by omega)] at c_180; omega)
                              try (have d180 : ¬ q0 < j := by rw [nI_leI (by omega) (by omega)] at c_180; omega)
                              rw [nI_s]
                              first
                                | (rw [show nxt S (lawP S t (gA S 21 n) d kn (exA S (nI f) t kn (cn S 31))) (some q0) (j + 1) = some j from if_pos ⟨by simp [lawP, c_74, c_86, c_103, c_114, c_126], by simp [bhd, c_156, c_173, d180], by rw [ho]; simp [nles]⟩, o2i0] at hs
                                   exact z_to hs ⟨rfl, rfl, rfl, rfl, rfl, rfl, rfl, rfl, rfl, rfl, rfl, trivial⟩)
                                | (rw [show nxt S (lawP S t (gA S 21 n) d kn (exA S (nI f) t kn (cn S 31))) (some q0) (j + 1) = nxt S (lawP S t (gA S 21 n) d kn (exA S (nI f) t kn (cn S 31))) (some q0) j from if_neg (fun z => by first | (have z1 := z.1; simp [lawP, c_74, c_86, c_103, c_114, c_126] at z1; done) | (have z1 := z.2.1; simp [bhd, c_156, c_173, d180] at z1; done) | (have z1 := z.2.2; rw [ho] at z1; simp [nles] at z1; done)), ho] at hs
                                   try rw [o2i0] at hs
                                   exact z_to hs ⟨rfl, rfl, rfl, rfl, rfl, rfl, rfl, rfl, rfl, rfl, rfl, trivial⟩)
                            · refine z_iconst (v := 1) g dX11_formAt_183 (by decide) ?_
                              refine z_goto (tgt := 188) g dX11_formAt_184 (by decide) ?_
                              refine z_istore g dX11_formAt_188 (by rw [hN]; decide) ?_
                              refine z_iload g dX11_formAt_190 rfl ?_
                              refine z_if_eq (tgt := 228) g dX11_formAt_192 (by decide) (fun _ => ?_) (fun c_192 => absurd (by decide) c_192)
                              refine z_iload g dX11_formAt_228 rfl ?_
                              refine z_istore g dX11_formAt_230 (by rw [hN]; decide) ?_
                              refine z_iinc1 g dX11_formAt_232 rfl (by rw [hN]; decide) ?_
                              refine z_goto (tgt := 57) g dX11_formAt_235 (by decide) ?_
                              have hs := ih (k - 1) (by omega) (j + 1) (by omega)
                              try (have d180 : q0 < j := by rw [nI_leI (by omega) (by omega)] at c_180; omega)
                              try (have d180 : ¬ q0 < j := by rw [nI_leI (by omega) (by omega)] at c_180; omega)
                              rw [nI_s]
                              first
                                | (rw [show nxt S (lawP S t (gA S 21 n) d kn (exA S (nI f) t kn (cn S 31))) (some q0) (j + 1) = some j from if_pos ⟨by simp [lawP, c_74, c_86, c_103, c_114, c_126], by simp [bhd, c_156, c_173, d180], by rw [ho]; simp [nles]⟩, o2i0] at hs
                                   exact z_to hs ⟨rfl, rfl, rfl, rfl, rfl, rfl, rfl, rfl, rfl, rfl, rfl, trivial⟩)
                                | (rw [show nxt S (lawP S t (gA S 21 n) d kn (exA S (nI f) t kn (cn S 31))) (some q0) (j + 1) = nxt S (lawP S t (gA S 21 n) d kn (exA S (nI f) t kn (cn S 31))) (some q0) j from if_neg (fun z => by first | (have z1 := z.1; simp [lawP, c_74, c_86, c_103, c_114, c_126] at z1; done) | (have z1 := z.2.1; simp [bhd, c_156, c_173, d180] at z1; done) | (have z1 := z.2.2; rw [ho] at z1; simp [nles] at z1; done)), ho] at hs
                                   try rw [o2i0] at hs
                                   exact z_to hs ⟨rfl, rfl, rfl, rfl, rfl, rfl, rfl, rfl, rfl, rfl, rfl, trivial⟩)
                      · refine z_iconst (v := 1) g dX11_formAt_129 (by decide) ?_
                        refine z_goto (tgt := 134) g dX11_formAt_130 (by decide) ?_
                        refine z_istore g dX11_formAt_134 (by rw [hN]; decide) ?_
                        refine z_iload g dX11_formAt_136 rfl ?_
                        refine z_iconst (v := (-1)) g dX11_formAt_138 (by decide) ?_
                        refine z_icmp_eq (tgt := 183) g dX11_formAt_139 (by decide) (fun c_139 => (by exact absurd c_139 (m1_ne (by omega)))) (fun c_139 => ?_)
                        refine z_aload_n g dX11_formAt_142 rfl ?_
                        refine z_getR g fl_X11_74 hM1.k0 (by decide) rfl (hM1.ref (k := 26) (by decide)) dX11_formAt_143 ?_
                        refine z_iload g dX11_formAt_146 rfl ?_
                        refine z_ialdk g (hM1.kA1 (k := 26) (by decide)) (by decide) (vp_in_nI (by rw [hM1.lnI (k := 26) (by decide)]; show _ < 12; omega) (by rw [hM1.lnI (k := 26) (by decide)]; decide)) dX11_formAt_148 ?_
                        rw [nI_clamp (by omega), hM1.row (k := 26) (by decide) (by decide)]
                        refine z_aload_n g dX11_formAt_149 rfl ?_
                        refine z_getR g fl_X11_74 hM1.k0 (by decide) rfl (hM1.ref (k := 26) (by decide)) dX11_formAt_150 ?_
                        refine z_iload g dX11_formAt_153 rfl ?_
                        refine z_ialdk g (hM1.kA1 (k := 26) (by decide)) (by decide) (vp_in_nI (by rw [hM1.lnI (k := 26) (by decide)]; show _ < 12; omega) (by rw [hM1.lnI (k := 26) (by decide)]; decide)) dX11_formAt_155 ?_
                        rw [nI_clamp (by omega), hM1.row (k := 26) (by decide) (by decide)]
                        refine z_icmp_gt (tgt := 183) g dX11_formAt_156 (by decide) (fun c_156 => ?_) (fun c_156 => ?_)
                        · refine z_iconst (v := 1) g dX11_formAt_183 (by decide) ?_
                          refine z_goto (tgt := 188) g dX11_formAt_184 (by decide) ?_
                          refine z_istore g dX11_formAt_188 (by rw [hN]; decide) ?_
                          refine z_iload g dX11_formAt_190 rfl ?_
                          refine z_if_eq (tgt := 228) g dX11_formAt_192 (by decide) (fun c_192 => absurd c_192 (by decide)) (fun _ => ?_)
                          refine z_iload g dX11_formAt_195 rfl ?_
                          refine z_if_eq (tgt := 228) g dX11_formAt_197 (by decide) (fun c_197 => absurd c_197 (by decide)) (fun _ => ?_)
                          refine z_iload g dX11_formAt_200 rfl ?_
                          refine z_iconst (v := (-1)) g dX11_formAt_202 (by decide) ?_
                          refine z_icmp_eq (tgt := 223) g dX11_formAt_203 (by decide) (fun c_203 => (by exact absurd c_203 (m1_ne (by omega)))) (fun c_203 => ?_)
                          refine z_aload_n g dX11_formAt_206 rfl ?_
                          refine z_getR g fl_X11_74 hM1.k0 (by decide) rfl (hM1.ref (k := 26) (by decide)) dX11_formAt_207 ?_
                          refine z_iload g dX11_formAt_210 rfl ?_
                          refine z_ialdk g (hM1.kA1 (k := 26) (by decide)) (by decide) (vp_in_nI (by rw [hM1.lnI (k := 26) (by decide)]; show _ < 12; omega) (by rw [hM1.lnI (k := 26) (by decide)]; decide)) dX11_formAt_212 ?_
                          rw [nI_clamp (by omega), hM1.row (k := 26) (by decide) (by decide)]
                          refine z_aload_n g dX11_formAt_213 rfl ?_
                          refine z_getR g fl_X11_74 hM1.k0 (by decide) rfl (hM1.ref (k := 26) (by decide)) dX11_formAt_214 ?_
                          refine z_iload g dX11_formAt_217 rfl ?_
                          refine z_ialdk g (hM1.kA1 (k := 26) (by decide)) (by decide) (vp_in_nI (by rw [hM1.lnI (k := 26) (by decide)]; show _ < 12; omega) (by rw [hM1.lnI (k := 26) (by decide)]; decide)) dX11_formAt_219 ?_
                          rw [nI_clamp (by omega), hM1.row (k := 26) (by decide) (by decide)]
                          refine z_icmp_ge (tgt := 228) g dX11_formAt_220 (by decide) (fun c_220 => ?_) (fun c_220 => ?_)
                          · refine z_iload g dX11_formAt_228 rfl ?_
                            refine z_istore g dX11_formAt_230 (by rw [hN]; decide) ?_
                            refine z_iinc1 g dX11_formAt_232 rfl (by rw [hN]; decide) ?_
                            refine z_goto (tgt := 57) g dX11_formAt_235 (by decide) ?_
                            have hs := ih (k - 1) (by omega) (j + 1) (by omega)
                            try (have d180 : q0 < j := by rw [nI_leI (by omega) (by omega)] at c_180; omega)
                            try (have d180 : ¬ q0 < j := by rw [nI_leI (by omega) (by omega)] at c_180; omega)
                            rw [nI_s]
                            first
                              | (rw [show nxt S (lawP S t (gA S 21 n) d kn (exA S (nI f) t kn (cn S 31))) (some q0) (j + 1) = some j from if_pos ⟨by simp [lawP, c_74, c_86, c_103, c_114, c_126], by simp [bhd, c_156], by rw [ho]; simp [nles, c_220]⟩, o2i0] at hs
                                 exact z_to hs ⟨rfl, rfl, rfl, rfl, rfl, rfl, rfl, rfl, rfl, rfl, rfl, trivial⟩)
                              | (rw [show nxt S (lawP S t (gA S 21 n) d kn (exA S (nI f) t kn (cn S 31))) (some q0) (j + 1) = nxt S (lawP S t (gA S 21 n) d kn (exA S (nI f) t kn (cn S 31))) (some q0) j from if_neg (fun z => by first | (have z1 := z.1; simp [lawP, c_74, c_86, c_103, c_114, c_126] at z1; done) | (have z1 := z.2.1; simp [bhd, c_156] at z1; done) | (have z1 := z.2.2; rw [ho] at z1; simp [nles, c_220] at z1; done)), ho] at hs
                                 try rw [o2i0] at hs
                                 exact z_to hs ⟨rfl, rfl, rfl, rfl, rfl, rfl, rfl, rfl, rfl, rfl, rfl, trivial⟩)
                          · refine z_iload g dX11_formAt_223 rfl ?_
                            refine z_goto (tgt := 230) g dX11_formAt_225 (by decide) ?_
                            refine z_istore g dX11_formAt_230 (by rw [hN]; decide) ?_
                            refine z_iinc1 g dX11_formAt_232 rfl (by rw [hN]; decide) ?_
                            refine z_goto (tgt := 57) g dX11_formAt_235 (by decide) ?_
                            have hs := ih (k - 1) (by omega) (j + 1) (by omega)
                            try (have d180 : q0 < j := by rw [nI_leI (by omega) (by omega)] at c_180; omega)
                            try (have d180 : ¬ q0 < j := by rw [nI_leI (by omega) (by omega)] at c_180; omega)
                            rw [nI_s]
                            first
                              | (rw [show nxt S (lawP S t (gA S 21 n) d kn (exA S (nI f) t kn (cn S 31))) (some q0) (j + 1) = some j from if_pos ⟨by simp [lawP, c_74, c_86, c_103, c_114, c_126], by simp [bhd, c_156], by rw [ho]; simp [nles, c_220]⟩, o2i0] at hs
                                 exact z_to hs ⟨rfl, rfl, rfl, rfl, rfl, rfl, rfl, rfl, rfl, rfl, rfl, trivial⟩)
                              | (rw [show nxt S (lawP S t (gA S 21 n) d kn (exA S (nI f) t kn (cn S 31))) (some q0) (j + 1) = nxt S (lawP S t (gA S 21 n) d kn (exA S (nI f) t kn (cn S 31))) (some q0) j from if_neg (fun z => by first | (have z1 := z.1; simp [lawP, c_74, c_86, c_103, c_114, c_126] at z1; done) | (have z1 := z.2.1; simp [bhd, c_156] at z1; done) | (have z1 := z.2.2; rw [ho] at z1; simp [nles, c_220] at z1; done)), ho] at hs
                                 try rw [o2i0] at hs
                                 exact z_to hs ⟨rfl, rfl, rfl, rfl, rfl, rfl, rfl, rfl, rfl, rfl, rfl, trivial⟩)
                        · refine z_aload_n g dX11_formAt_159 rfl ?_
                          refine z_getR g fl_X11_74 hM1.k0 (by decide) rfl (hM1.ref (k := 26) (by decide)) dX11_formAt_160 ?_
                          refine z_iload g dX11_formAt_163 rfl ?_
                          refine z_ialdk g (hM1.kA1 (k := 26) (by decide)) (by decide) (vp_in_nI (by rw [hM1.lnI (k := 26) (by decide)]; show _ < 12; omega) (by rw [hM1.lnI (k := 26) (by decide)]; decide)) dX11_formAt_165 ?_
                          rw [nI_clamp (by omega), hM1.row (k := 26) (by decide) (by decide)]
                          refine z_aload_n g dX11_formAt_166 rfl ?_
                          refine z_getR g fl_X11_74 hM1.k0 (by decide) rfl (hM1.ref (k := 26) (by decide)) dX11_formAt_167 ?_
                          refine z_iload g dX11_formAt_170 rfl ?_
                          refine z_ialdk g (hM1.kA1 (k := 26) (by decide)) (by decide) (vp_in_nI (by rw [hM1.lnI (k := 26) (by decide)]; show _ < 12; omega) (by rw [hM1.lnI (k := 26) (by decide)]; decide)) dX11_formAt_172 ?_
                          rw [nI_clamp (by omega), hM1.row (k := 26) (by decide) (by decide)]
                          refine z_icmp_ne (tgt := 187) g dX11_formAt_173 (by decide) (fun c_173 => ?_) (fun c_173 => ?_)
                          · refine z_iconst (v := 0) g dX11_formAt_187 (by decide) ?_
                            refine z_istore g dX11_formAt_188 (by rw [hN]; decide) ?_
                            refine z_iload g dX11_formAt_190 rfl ?_
                            refine z_if_eq (tgt := 228) g dX11_formAt_192 (by decide) (fun c_192 => absurd c_192 (by decide)) (fun _ => ?_)
                            refine z_iload g dX11_formAt_195 rfl ?_
                            refine z_if_eq (tgt := 228) g dX11_formAt_197 (by decide) (fun _ => ?_) (fun c_197 => absurd (by decide) c_197)
                            refine z_iload g dX11_formAt_228 rfl ?_
                            refine z_istore g dX11_formAt_230 (by rw [hN]; decide) ?_
                            refine z_iinc1 g dX11_formAt_232 rfl (by rw [hN]; decide) ?_
                            refine z_goto (tgt := 57) g dX11_formAt_235 (by decide) ?_
                            have hs := ih (k - 1) (by omega) (j + 1) (by omega)
                            try (have d180 : q0 < j := by rw [nI_leI (by omega) (by omega)] at c_180; omega)
                            try (have d180 : ¬ q0 < j := by rw [nI_leI (by omega) (by omega)] at c_180; omega)
                            rw [nI_s]
                            first
                              | (rw [show nxt S (lawP S t (gA S 21 n) d kn (exA S (nI f) t kn (cn S 31))) (some q0) (j + 1) = some j from if_pos ⟨by simp [lawP, c_74, c_86, c_103, c_114, c_126], by simp [bhd, c_156, c_173], by rw [ho]; simp [nles]⟩, o2i0] at hs
                                 exact z_to hs ⟨rfl, rfl, rfl, rfl, rfl, rfl, rfl, rfl, rfl, rfl, rfl, trivial⟩)
                              | (rw [show nxt S (lawP S t (gA S 21 n) d kn (exA S (nI f) t kn (cn S 31))) (some q0) (j + 1) = nxt S (lawP S t (gA S 21 n) d kn (exA S (nI f) t kn (cn S 31))) (some q0) j from if_neg (fun z => by first | (have z1 := z.1; simp [lawP, c_74, c_86, c_103, c_114, c_126] at z1; done) | (have z1 := z.2.1; simp [bhd, c_156, c_173] at z1; done) | (have z1 := z.2.2; rw [ho] at z1; simp [nles] at z1; done)), ho] at hs
                                 try rw [o2i0] at hs
                                 exact z_to hs ⟨rfl, rfl, rfl, rfl, rfl, rfl, rfl, rfl, rfl, rfl, rfl, trivial⟩)
                          · refine z_iload g dX11_formAt_176 rfl ?_
                            refine z_iload g dX11_formAt_178 rfl ?_
                            refine z_icmp_le (tgt := 187) g dX11_formAt_180 (by decide) (fun c_180 => ?_) (fun c_180 => ?_)
                            · refine z_iconst (v := 0) g dX11_formAt_187 (by decide) ?_
                              refine z_istore g dX11_formAt_188 (by rw [hN]; decide) ?_
                              refine z_iload g dX11_formAt_190 rfl ?_
                              refine z_if_eq (tgt := 228) g dX11_formAt_192 (by decide) (fun c_192 => absurd c_192 (by decide)) (fun _ => ?_)
                              refine z_iload g dX11_formAt_195 rfl ?_
                              refine z_if_eq (tgt := 228) g dX11_formAt_197 (by decide) (fun _ => ?_) (fun c_197 => absurd (by decide) c_197)
                              refine z_iload g dX11_formAt_228 rfl ?_
                              refine z_istore g dX11_formAt_230 (by rw [hN]; decide) ?_
                              refine z_iinc1 g dX11_formAt_232 rfl (by rw [hN]; decide) ?_
                              refine z_goto (tgt := 57) g dX11_formAt_235 (by decide) ?_
                              have hs := ih (k - 1) (by omega) (j + 1) (by omega)
                              try (have d180 : q0 < j := by rw [nI_leI (by omega) (by omega)] at c_180; omega)
                              try (have d180 : ¬ q0 < j := by rw [nI_leI (by omega) (by omega)] at c_180; omega)
                              rw [nI_s]
                              first
                                | (rw [show nxt S (lawP S t (gA S 21 n) d kn (exA S (nI f) t kn (cn S 31))) (some q0) (j + 1) = some j from if_pos ⟨by simp [lawP, c_74, c_86, c_103, c_114, c_126], by simp [bhd, c_156, c_173, d180], by rw [ho]; simp [nles]⟩, o2i0] at hs
                                   exact z_to hs ⟨rfl, rfl, rfl, rfl, rfl, rfl, rfl, rfl, rfl, rfl, rfl, trivial⟩)
                                | (rw [show nxt S (lawP S t (gA S 21 n) d kn (exA S (nI f) t kn (cn S 31))) (some q0) (j + 1) = nxt S (lawP S t (gA S 21 n) d kn (exA S (nI f) t kn (cn S 31))) (some q0) j from if_neg (fun z => by first | (have z1 := z.1; simp [lawP, c_74, c_86, c_103, c_114, c_126] at z1; done) | (have z1 := z.2.1; simp [bhd, c_156, c_173, d180] at z1; done) | (have z1 := z.2.2; rw [ho] at z1; simp [nles] at z1; done)), ho] at hs
                                   try rw [o2i0] at hs
                                   exact z_to hs ⟨rfl, rfl, rfl, rfl, rfl, rfl, rfl, rfl, rfl, rfl, rfl, trivial⟩)
                            · refine z_iconst (v := 1) g dX11_formAt_183 (by decide) ?_
                              refine z_goto (tgt := 188) g dX11_formAt_184 (by decide) ?_
                              refine z_istore g dX11_formAt_188 (by rw [hN]; decide) ?_
                              refine z_iload g dX11_formAt_190 rfl ?_
                              refine z_if_eq (tgt := 228) g dX11_formAt_192 (by decide) (fun c_192 => absurd c_192 (by decide)) (fun _ => ?_)
                              refine z_iload g dX11_formAt_195 rfl ?_
                              refine z_if_eq (tgt := 228) g dX11_formAt_197 (by decide) (fun c_197 => absurd c_197 (by decide)) (fun _ => ?_)
                              refine z_iload g dX11_formAt_200 rfl ?_
                              refine z_iconst (v := (-1)) g dX11_formAt_202 (by decide) ?_
                              refine z_icmp_eq (tgt := 223) g dX11_formAt_203 (by decide) (fun c_203 => (by exact absurd c_203 (m1_ne (by omega)))) (fun c_203 => ?_)
                              refine z_aload_n g dX11_formAt_206 rfl ?_
                              refine z_getR g fl_X11_74 hM1.k0 (by decide) rfl (hM1.ref (k := 26) (by decide)) dX11_formAt_207 ?_
                              refine z_iload g dX11_formAt_210 rfl ?_
                              refine z_ialdk g (hM1.kA1 (k := 26) (by decide)) (by decide) (vp_in_nI (by rw [hM1.lnI (k := 26) (by decide)]; show _ < 12; omega) (by rw [hM1.lnI (k := 26) (by decide)]; decide)) dX11_formAt_212 ?_
                              rw [nI_clamp (by omega), hM1.row (k := 26) (by decide) (by decide)]
                              refine z_aload_n g dX11_formAt_213 rfl ?_
                              refine z_getR g fl_X11_74 hM1.k0 (by decide) rfl (hM1.ref (k := 26) (by decide)) dX11_formAt_214 ?_
                              refine z_iload g dX11_formAt_217 rfl ?_
                              refine z_ialdk g (hM1.kA1 (k := 26) (by decide)) (by decide) (vp_in_nI (by rw [hM1.lnI (k := 26) (by decide)]; show _ < 12; omega) (by rw [hM1.lnI (k := 26) (by decide)]; decide)) dX11_formAt_219 ?_
                              rw [nI_clamp (by omega), hM1.row (k := 26) (by decide) (by decide)]
                              refine z_icmp_ge (tgt := 228) g dX11_formAt_220 (by decide) (fun c_220 => ?_) (fun c_220 => ?_)
                              · refine z_iload g dX11_formAt_228 rfl ?_
                                refine z_istore g dX11_formAt_230 (by rw [hN]; decide) ?_
                                refine z_iinc1 g dX11_formAt_232 rfl (by rw [hN]; decide) ?_
                                refine z_goto (tgt := 57) g dX11_formAt_235 (by decide) ?_
                                have hs := ih (k - 1) (by omega) (j + 1) (by omega)
                                try (have d180 : q0 < j := by rw [nI_leI (by omega) (by omega)] at c_180; omega)
                                try (have d180 : ¬ q0 < j := by rw [nI_leI (by omega) (by omega)] at c_180; omega)
                                rw [nI_s]
                                first
                                  | (rw [show nxt S (lawP S t (gA S 21 n) d kn (exA S (nI f) t kn (cn S 31))) (some q0) (j + 1) = some j from if_pos ⟨by simp [lawP, c_74, c_86, c_103, c_114, c_126], by simp [bhd, c_156, c_173, d180], by rw [ho]; simp [nles, c_220]⟩, o2i0] at hs
                                     exact z_to hs ⟨rfl, rfl, rfl, rfl, rfl, rfl, rfl, rfl, rfl, rfl, rfl, trivial⟩)
                                  | (rw [show nxt S (lawP S t (gA S 21 n) d kn (exA S (nI f) t kn (cn S 31))) (some q0) (j + 1) = nxt S (lawP S t (gA S 21 n) d kn (exA S (nI f) t kn (cn S 31))) (some q0) j from if_neg (fun z => by first | (have z1 := z.1; simp [lawP, c_74, c_86, c_103, c_114, c_126] at z1; done) | (have z1 := z.2.1; simp [bhd, c_156, c_173, d180] at z1; done) | (have z1 := z.2.2; rw [ho] at z1; simp [nles, c_220] at z1; done)), ho] at hs
                                     try rw [o2i0] at hs
                                     exact z_to hs ⟨rfl, rfl, rfl, rfl, rfl, rfl, rfl, rfl, rfl, rfl, rfl, trivial⟩)
                              · refine z_iload g dX11_formAt_223 rfl ?_
                                refine z_goto (tgt := 230) g dX11_formAt_225 (by decide) ?_
                                refine z_istore g dX11_formAt_230 (by rw [hN]; decide) ?_
                                refine z_iinc1 g dX11_formAt_232 rfl (by rw [hN]; decide) ?_
                                refine z_goto (tgt := 57) g dX11_formAt_235 (by decide) ?_
                                have hs := ih (k - 1) (by omega) (j + 1) (by omega)
                                try (have d180 : q0 < j := by rw [nI_leI (by omega) (by omega)] at c_180; omega)
                                try (have d180 : ¬ q0 < j := by rw [nI_leI (by omega) (by omega)] at c_180; omega)
                                rw [nI_s]
                                first
                                  | (rw [show nxt S (lawP S t (gA S 21 n) d kn (exA S (nI f) t kn (cn S 31))) (some q0) (j + 1) = some j from if_pos ⟨by simp [lawP, c_74, c_86, c_103, c_114, c_126], by simp [bhd, c_156, c_173, d180], by rw [ho]; simp [nles, c_220]⟩, o2i0] at hs
                                     exact z_to hs ⟨rfl, rfl, rfl, rfl, rfl, rfl, rfl, rfl, rfl, rfl, rfl, trivial⟩)
                                  | (rw [show nxt S (lawP S t (gA S 21 n) d kn (exA S (nI f) t kn (cn S 31))) (some q0) (j + 1) = nxt S (lawP S t (gA S 21 n) d kn (exA S (nI f) t kn (cn S 31))) (some q0) j from if_neg (fun z => by first | (have z1 := z.1; simp [lawP, c_74, c_86, c_103, c_114, c_126] at z1; done) | (have z1 := z.2.1; simp [bhd, c_156, c_173, d180] at z1; done) | (have z1 := z.2.2; rw [ho] at z1; simp [nles, c_220] at z1; done)), ho] at hs
                                     try rw [o2i0] at hs
                                     exact z_to hs ⟨rfl, rfl, rfl, rfl, rfl, rfl, rfl, rfl, rfl, rfl, rfl, trivial⟩)
        refine z_iload g dX11_formAt_46 rfl ?_
        refine z_if_eq (tgt := 269) g dX11_formAt_48 (by decide) (fun c_48 => absurd c_48 (by decide)) (fun _ => ?_)
        refine z_iconst (v := (-1)) g dX11_formAt_51 (by decide) ?_
        refine z_istore g dX11_formAt_52 (by rw [hN]; decide) ?_
        refine z_iconst (v := 0) g dX11_formAt_54 (by decide) ?_
        refine z_istore g dX11_formAt_55 (by rw [hN]; decide) ?_
        exact z_to (inner _ 0 rfl) ⟨rfl, rfl, rfl, rfl, rfl, rfl, rfl, rfl, rfl, rfl, rfl, trivial⟩
  refine z_istore g dX11_formAt_9 (by rw [hN]; decide) ?_
  refine z_iload g dX11_formAt_11 rfl ?_
  refine z_iconst (v := (-1)) g dX11_formAt_13 (by decide) ?_
  refine z_icmp_ne (tgt := 19) g dX11_formAt_14 (by decide) (fun c_14 => ?_) (fun c_14 => (by exact absurd c_14 (m1_ne (by omega))))
  refine z_aload_n g dX11_formAt_19 rfl ?_
  refine z_aload_n g dX11_formAt_20 rfl ?_
  refine z_getR g fl_X11_58 hM.k0 (by decide) rfl (hM.refL (k := 20) (by decide)) dX11_formAt_21 ?_
  refine z_iload g dX11_formAt_24 rfl ?_
  refine z_laldk g (hM.kL1 (k := 20) (by decide)) (by decide) (vp_in_nI (by rw [hM.lnL (k := 20) (by decide)]; show _ < 100; omega) (by rw [hM.lnL (k := 20) (by decide)]; decide)) dX11_formAt_26 ?_
  rw [nI_clamp (by omega), hM.rowL (k := 20) (by decide)]
  rw [hwn]
  refine z_callV g _ _ cv_X11_211 (n_lays _ M hM _ hwo.1) hM.k0 (by decide) rfl (by rw [hR]; decide) (by rw [hR]; decide) (by rw [hR]; decide) (Nat.le_of_ble_eq_true rfl) rfl dX11_formAt_27 (fun _ _ h => False.elim h) (fun r_27 M_27 h_27 => ?_)
  obtain ⟨rfl, se, hLt⟩ := h_27
  have hM1 := hM.SE se
  refine z_aload_n g dX11_formAt_30 rfl ?_
  refine z_iload_n g dX11_formAt_31 rfl ?_
  refine z_iload_n g dX11_formAt_32 rfl ?_
  refine z_iload g dX11_formAt_33 rfl ?_
  refine z_callV g _ _ cv_X11_215 (n_exA _ M_27 hM1 hX.1 hX.2 f t kn) hM1.k0 (by decide) rfl (by rw [hR]; decide) (by rw [hR]; decide) (by rw [hR]; decide) (Nat.le_of_ble_eq_true rfl) rfl dX11_formAt_35 (fun _ _ h => False.elim h) (fun r_35 M_35 h_35 => ?_)
  obtain ⟨rfl, rfl⟩ := h_35
  refine z_istore g dX11_formAt_38 (by rw [hN]; decide) ?_
  refine z_iconst (v := (-1)) g dX11_formAt_40 (by decide) ?_
  refine z_istore g dX11_formAt_41 (by rw [hN]; decide) ?_
  refine z_iconst (v := 1) g dX11_formAt_43 (by decide) ?_
  refine z_istore g dX11_formAt_44 (by rw [hN]; decide) ?_
  exact z_to (outer _ M_27 none rfl se hLt (fun q h => nomatch h)) ⟨rfl, rfl, rfl, rfl, rfl, rfl, rfl, rfl, rfl, trivial⟩
