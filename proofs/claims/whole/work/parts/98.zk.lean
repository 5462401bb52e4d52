/-! ===== the law: one step of each kind (printed by gen/mk_lawc.py) ===== -/
theorem nI_l1 (a : Nat) : nI a + 1 = nI (a + 1) := nI_add a 1
theorem nI_l2 (a : Nat) : nI a + 2 = nI (a + 2) := nI_add a 2
theorem nI_l3 (a : Nat) : nI a + 3 = nI (a + 3) := nI_add a 3
theorem nI_l4 (a : Nat) : nI a + 4 = nI (a + 4) := nI_add a 4
theorem nI_l5 (a : Nat) : nI a + 5 = nI (a + 5) := nI_add a 5
theorem gi_opS {c : Int32} {S s : Ms} (h : c = 0 → gi s 0 = 0) : gi (opS c S s) 0 = c := by
  unfold opS
  split
  · rename_i e; rw [h e, e]
  · exact (gi_wi (S := S) (k := 0) (i := 0) (v := c)).trans (if_pos rfl)
theorem opV_z {α : Type} {c : Int32} {v z : α} (h : c = 0) : opV c v z = v := if_pos h
/-- the script's row and the answers' row -/
def SB (b o L : Nat) (xs : Nat → Int32) (M : Mm) : Prop := kd M o = 290 ∧ ln M o = 1 ∧ kd M b = 190 ∧ ln M b = L ∧ ∀ j, fI M b j = xs j
theorem SB.keepL {b o L : Nat} {xs : Nat → Int32} {M M1 : Mm} (h : SB b o L xs M) (g : agr TL M M1) : SB b o L xs M1 := by
  obtain ⟨h1, h2, h3, h4, h5⟩ := h
  have n1 : ∀ k, ¬ TL 190 k := fun k z => by unfold TL TC at z; omega
  have n2 : ¬ TL 1190 0 := fun z => by unfold TL TC at z; omega
  have n3 : ¬ TL 1290 0 := fun z => by unfold TL TC at z; omega
  exact ⟨(g.K (by rw [h1]; decide)).trans h1, (g.N (c := 290) (by rw [h1]) (by decide) n3).trans h2, (g.K (by rw [h3]; decide)).trans h3, (g.N (c := 190) (by rw [h3]) (by decide) n2).trans h4, fun j => (g.I (c := 190) (by rw [h3]) (by decide) (n1 j)).trans (h5 j)⟩
theorem SB.keepM {b o L : Nat} {xs : Nat → Int32} {M M1 : Mm} (h : SB b o L xs M) (g : agr TM M M1) : SB b o L xs M1 ∧ fL M1 o 0 = fL M o 0 := by
  obtain ⟨h1, h2, h3, h4, h5⟩ := h
  have n1 : ∀ k, ¬ TM 190 k := fun k z => by unfold TM at z; omega
  have n2 : ¬ TM 1190 0 := fun z => by unfold TM at z; omega
  have n3 : ∀ k, ¬ TM 1290 k := fun k z => by unfold TM at z; omega
  have n4 : ∀ k, ¬ TM 290 k := fun k z => by unfold TM at z; omega
  exact ⟨⟨(g.K (by rw [h1]; decide)).trans h1, (g.N (c := 290) (by rw [h1]) (by decide) (n3 0)).trans h2, (g.K (by rw [h3]; decide)).trans h3, (g.N (c := 190) (by rw [h3]) (by decide) n2).trans h4, fun j => (g.I (c := 190) (by rw [h3]) (by decide) (n1 j)).trans (h5 j)⟩, g.L (c := 290) (by rw [h1]) (by decide) (n4 0)⟩
/-- what holds between two steps -/
def LI (A : Nat → Nat) (b x m o L : Nat) (xs : Nat → Int32) (M : Mm) : Prop := ∃ S B, RX B x S M ∧ RM A m S M ∧ INV S ∧ SB b o L xs M
theorem lwstp {B : Nat → Nat → Nat} {x m : Nat} {S S1 : Ms} {A : Nat → Nat} {M M2 : Mm} (h : RX B x S1 M) (hM : RM A m S M) (g : FM A m M M2) (hV : INV S1) : INV S1 ∧ RX B x S1 M2 := ⟨hV, h.FM hV hM g⟩
theorem TM_TL {c k : Nat} (h : TM c k) : ¬ TL c k := fun z => by unfold TL TC at z; unfold TM at h; omega
theorem z_Feature {S : Ms} {k : Int32} {p : Int32} {q : Int32} : gi (sFeature S k p q) 0 = 0 := rfl
theorem z_Move {S : Ms} {f : Int32} {p : Int32} {q : Int32} {d : Int32} : gi (sMove S f p q d) 0 = 0 := rfl
theorem z_Part {S : Ms} {f : Int32} {w : Int32} {d : Int32} : gi (sPart S f w d) 0 = 0 := rfl
theorem z_End {S : Ms} {f : Int32} {i : Int32} {d : Int32} : gi (sEnd S f i d) 0 = 0 := rfl
theorem z_Of {S : Ms} {f : Int32} {w : Int32} {d : Int32} {k : Int32} : gi (sOf S f w d k) 0 = 0 := rfl
theorem z_Name {S : Ms} {f : Int32} {t : Int32} {w : Int64} {d : Int32} : gi (sName S f t w d) 0 = 0 := rfl
theorem z_Lawc {S : Ms} {t : Int32} {d : Int32} {l : Int32} {p : Int32} {q : Int32} : gi (sLawc S t d l p q) 0 = 0 := rfl
theorem z_Except {S : Ms} {f : Int32} {t : Int32} {d : Int32} : gi (sExcept S f t d) 0 = 0 := rfl
theorem z_Form {S : Ms} {f : Int32} {t : Int32} {d : Int32} {k : Int32} : gi (sForm S f t d k) 0 = 0 := rfl
theorem z_Petition {S : Ms} {f : Int32} {t : Int32} {w : Int64} {d : Int32} : gi (sPetition S f t w d) 0 = 0 := rfl
theorem z_Vote {S : Ms} {f : Int32} {c : Int32} {b : Int32} : gi (sVote S f c b) 0 = 0 := by unfold sVote; split <;> rfl
theorem z_Protest {S : Ms} {f : Int32} {c : Int32} : gi (sProtest S f c) 0 = 0 := rfl
theorem z_Decide {S : Ms} {f : Int32} : gi (sDecide S f) 0 = 0 := by unfold sDecide; split <;> rfl
theorem z_Appeal {S : Ms} {f : Int32} : gi (sAppeal S f) 0 = 0 := rfl
theorem z_PetOf {S : Ms} {f : Int32} {w : Int32} : gi (sPetOf S f w) 0 = 0 := rfl
theorem z_Census {S : Ms} {f : Int32} {t : Int32} {v : Int32} : gi (sCensus S f t v) 0 = 0 := rfl
theorem z_Dispute {S : Ms} {f : Int32} {a : Int32} {b : Int32} : gi (sDispute S f a b) 0 = 0 := rfl
theorem z_Shown {S : Ms} {f : Int32} {d : Int32} : gi (sShown S f d) 0 = 0 := rfl
theorem z_Display {S : Ms} {f : Int32} {t : Int32} : gi (sDisplay S f t) 0 = 0 := rfl
theorem z_Table {S : Ms} {f : Int32} {l : Int32} {p : Int32} : gi (sTable S f l p) 0 = 0 := rfl
theorem z_Write {S : Ms} {w : Int64} {t : Int32} : gi (sWrite S w t) 0 = 0 := rfl
theorem z_Loss {S : Ms} {f : Int32} : gi (sLoss S f) 0 = 0 := rfl
theorem z_Reading {S : Ms} {w : Int64} {p : Int32} {q : Int32} : gi (sReading S w p q) 0 = 0 := rfl
theorem z_Cost {S : Ms} {q : Int32} {f : Int32} : gi (sCost S q f) 0 = 0 := rfl
theorem z_Find {S : Ms} {w : Int64} {p : Int32} {q : Int32} {y : Int32} : gi (sFind S w p q y) 0 = 0 := rfl
theorem z_Pull {S : Ms} {s : Int32} : gi (sPull S s) 0 = 0 := rfl
theorem z_Copy {S : Ms} {s : Int32} {f : Int32} {t : Int32} : gi (sCopy S s f t) 0 = 0 := rfl
theorem z_Order {S : Ms} {f : Int32} : gi (sOrder S f) 0 = 0 := rfl
theorem z_Budget {S : Ms} {v : Int32} : gi (sBudget S v) 0 = 0 := rfl
theorem z_Sign {S : Ms} {f : Int32} : gi (sSign S f) 0 = 0 := rfl
theorem psA_0 (S : Ms) : gi (psA S) 0 = gi S 0 := by
  show gi (osL (wi (sgL S (manyA S)) 58 (gi S 58 - nI (manyA S))) (manyA S) (cn S 58 - manyA S)) 0 = _
  rw [(osL_f _ _ _).1, gi_wi, if_neg (by decide), (sgL_f S _).2.1]
theorem psN_0 {S : Ms} : ∀ n, gi (psN (wi S 0 0) n) 0 = 0
  | 0 => rfl
  | n + 1 => (psA_0 _).trans (psN_0 n)
theorem z_Pass {S : Ms} {d : Int32} : gi (sPass S d) 0 = 0 := psN_0 _
set_option maxHeartbeats 4000000 in
set_option maxRecDepth 100000 in
theorem lc_0 {X : Cx} {A : Nat → Nat} {b x m o L i cs sl : Nat} {xs : Nat → Int32} {M : Mm} (g : Gd X cL_law_ RL) (hN : xN X = 8) (hR : xR X = room_1) (hL : L ≤ 3072) (hi : 6 * i + 6 ≤ L) (hcs : cs + 16 ≤ (xR X).cells) (hss : sl + 500 ≤ (xR X).slots) (hLI : LI A b x m o L xs M)
    (kk : ∀ M', LI A b x m o L xs M' → Z X M' (cs + 16) (sl + 500) 2707 [(0, .ref b), (1, .ref x), (2, .ref m), (3, .ref o), (4, .int (nI (6 * i)))] []) : Z X M cs sl 192 [(0, .ref b), (1, .ref x), (2, .ref m), (3, .ref o), (4, .int (nI (6 * i)))] [] := by
  obtain ⟨S, B, hX, hM, hV, sb⟩ := hLI
  refine z_aload_n g dL_law__192 rfl ?_
  refine z_aload_n g dL_law__193 rfl ?_
  refine z_iload g dL_law__194 rfl ?_
  refine z_iconst (v := 1) g dL_law__196 (by decide) ?_
  refine z_iadd g dL_law__197 ?_
  rw [nI_l1]
  refine z_ialdk (k := 190) g (by rw [sb.2.2.1]) (by decide) (vp_in_nI (by rw [sb.2.2.2.1]; omega) (by rw [sb.2.2.2.1]; omega)) dL_law__198 ?_
  rw [nI_clamp (show 6 * i + 1 < 2 ^ 31 by omega), sb.2.2.2.2]
  refine z_aload_n g dL_law__199 rfl ?_
  refine z_iload g dL_law__200 rfl ?_
  refine z_iconst (v := 2) g dL_law__202 (by decide) ?_
  refine z_iadd g dL_law__203 ?_
  rw [nI_l2]
  refine z_ialdk (k := 190) g (by rw [sb.2.2.1]) (by decide) (vp_in_nI (by rw [sb.2.2.2.1]; omega) (by rw [sb.2.2.2.1]; omega)) dL_law__204 ?_
  rw [nI_clamp (show 6 * i + 2 < 2 ^ 31 by omega), sb.2.2.2.2]
  refine z_aload_n g dL_law__205 rfl ?_
  refine z_iload g dL_law__206 rfl ?_
  refine z_iconst (v := 3) g dL_law__208 (by decide) ?_
  refine z_iadd g dL_law__209 ?_
  rw [nI_l3]
  refine z_ialdk (k := 190) g (by rw [sb.2.2.1]) (by decide) (vp_in_nI (by rw [sb.2.2.2.1]; omega) (by rw [sb.2.2.2.1]; omega)) dL_law__210 ?_
  rw [nI_clamp (show 6 * i + 3 < 2 ^ 31 by omega), sb.2.2.2.2]
  refine z_aload_n g dL_law__211 rfl ?_
  refine z_callSH g _ _ csh_L_feature (w_feature _ M hX hV o sb.1 sb.2.1 _ _ _) rfl (by rw [hR]; decide) (by exact hcs) (by exact hss) (Nat.le_of_ble_eq_true rfl) rfl dL_law__212 (fun _ _ h => False.elim h) (fun r_1 M1 h_1 => ?_)
  obtain ⟨rfl, hans, g1, B1, hX1⟩ := h_1
  have hM1 := hM.agr g1 (fun c k z => TM_TL z)
  have sb1 := sb.keepL g1
  refine z_istore g dL_law__215 (by rw [hN]; decide) ?_
  refine z_aload_n g dL_law__217 rfl ?_
  refine z_aload_n g dL_law__218 rfl ?_
  refine z_iload g dL_law__219 rfl ?_
  refine z_iconst (v := 1) g dL_law__221 (by decide) ?_
  refine z_iadd g dL_law__222 ?_
  rw [nI_l1]
  refine z_ialdk (k := 190) g (by rw [sb1.2.2.1]) (by decide) (vp_in_nI (by rw [sb1.2.2.2.1]; omega) (by rw [sb1.2.2.2.1]; omega)) dL_law__223 ?_
  rw [nI_clamp (show 6 * i + 1 < 2 ^ 31 by omega), sb1.2.2.2.2]
  refine z_aload_n g dL_law__224 rfl ?_
  refine z_iload g dL_law__225 rfl ?_
  refine z_iconst (v := 2) g dL_law__227 (by decide) ?_
  refine z_iadd g dL_law__228 ?_
  rw [nI_l2]
  refine z_ialdk (k := 190) g (by rw [sb1.2.2.1]) (by decide) (vp_in_nI (by rw [sb1.2.2.2.1]; omega) (by rw [sb1.2.2.2.1]; omega)) dL_law__229 ?_
  rw [nI_clamp (show 6 * i + 2 < 2 ^ 31 by omega), sb1.2.2.2.2]
  refine z_aload_n g dL_law__230 rfl ?_
  refine z_iload g dL_law__231 rfl ?_
  refine z_iconst (v := 3) g dL_law__233 (by decide) ?_
  refine z_iadd g dL_law__234 ?_
  rw [nI_l3]
  refine z_ialdk (k := 190) g (by rw [sb1.2.2.1]) (by decide) (vp_in_nI (by rw [sb1.2.2.2.1]; omega) (by rw [sb1.2.2.2.1]; omega)) dL_law__235 ?_
  rw [nI_clamp (show 6 * i + 3 < 2 ^ 31 by omega), sb1.2.2.2.2]
  refine z_callV g _ _ cv_L_137 (m_feature _ M1 hM1 hV _ _ _) hM1.k0 (by decide) rfl (by rw [hR]; decide) (by exact hcs) (by exact hss) (Nat.le_of_ble_eq_true rfl) rfl dL_law__236 (fun _ _ h => False.elim h) (fun r_2 M2 h_2 => ?_)
  obtain ⟨rfl, hM2, g2⟩ := h_2
  obtain ⟨hV2, hX2⟩ := lwstp hX1 hM1 g2 (opS_INV hV (fun h => I_Feature hV h))
  obtain ⟨sb2, ho2⟩ := sb1.keepM (g2.agr hM1)
  refine z_istore g dL_law__239 (by rw [hN]; decide) ?_
  refine z_aload_n g dL_law__241 rfl ?_
  refine z_callV g _ _ cv_L_138 (n_thr _ M2 hM2) hM2.k0 (by decide) rfl (by rw [hR]; decide) (by exact hcs) (by exact hss) (Nat.le_of_ble_eq_true rfl) rfl dL_law__242 (fun _ _ h => False.elim h) (fun r_3 M_3 h_3 => ?_)
  obtain ⟨rfl, rfl⟩ := h_3
  rw [gi_opS (fun _ => z_Feature)]
  refine z_iload g dL_law__245 rfl ?_
  refine z_icmp_eq (tgt := 252) g dL_law__247 (by decide) (fun _ => ?_) (fun h => absurd rfl h)
  refine z_iload g dL_law__252 rfl ?_
  refine z_if_ne (tgt := 269) g dL_law__254 (by decide) (fun hc_ => ?_) (fun hc_ => ?_)
  · refine z_goto (tgt := 2707) g dL_law__269 (by decide) ?_
    exact z_to (kk _ ⟨_, _, hX2, hM2, hV2, sb2⟩) ⟨rfl, rfl, rfl, rfl, rfl, trivial⟩
  have hv_ := hans hc_
  have hw_ := ho2.trans hv_
  rw [opV_z hc_]
  refine z_aload_n g dL_law__257 rfl ?_
  refine z_iconst (v := 0) g dL_law__258 (by decide) ?_
  refine z_laldk (k := 290) g (by rw [sb2.1]) (by decide) (by rw [sb2.2.1]; exact in01) dL_law__259 ?_
  rw [show (0 : Int32).toNatClampNeg = 0 from rfl, hw_]
  refine z_iload g dL_law__260 rfl ?_
  refine z_i2l g dL_law__262 ?_
  refine z_lcmp g dL_law__263 ?_
  refine z_if_eq (tgt := 269) g dL_law__264 (by decide) (fun _ => ?_) (fun h => absurd ((lg_cmp_eq _ _).mpr rfl) h)
  refine z_goto (tgt := 2707) g dL_law__269 (by decide) ?_
  exact z_to (kk _ ⟨_, _, hX2, hM2, hV2, sb2⟩) ⟨rfl, rfl, rfl, rfl, rfl, trivial⟩
set_option maxHeartbeats 4000000 in
set_option maxRecDepth 100000 in
theorem lc_1 {X : Cx} {A : Nat → Nat} {b x m o L i cs sl : Nat} {xs : Nat → Int32} {M : Mm} (g : Gd X cL_law_ RL) (hN : xN X = 8) (hR : xR X = room_1) (hL : L ≤ 3072) (hi : 6 * i + 6 ≤ L) (hcs : cs + 16 ≤ (xR X).cells) (hss : sl + 500 ≤ (xR X).slots) (hLI : LI A b x m o L xs M)
    (kk : ∀ M', LI A b x m o L xs M' → Z X M' (cs + 16) (sl + 500) 2707 [(0, .ref b), (1, .ref x), (2, .ref m), (3, .ref o), (4, .int (nI (6 * i)))] []) : Z X M cs sl 272 [(0, .ref b), (1, .ref x), (2, .ref m), (3, .ref o), (4, .int (nI (6 * i)))] [] := by
  obtain ⟨S, B, hX, hM, hV, sb⟩ := hLI
  refine z_aload_n g dL_law__272 rfl ?_
  refine z_aload_n g dL_law__273 rfl ?_
  refine z_iload g dL_law__274 rfl ?_
  refine z_iconst (v := 1) g dL_law__276 (by decide) ?_
  refine z_iadd g dL_law__277 ?_
  rw [nI_l1]
  refine z_ialdk (k := 190) g (by rw [sb.2.2.1]) (by decide) (vp_in_nI (by rw [sb.2.2.2.1]; omega) (by rw [sb.2.2.2.1]; omega)) dL_law__278 ?_
  rw [nI_clamp (show 6 * i + 1 < 2 ^ 31 by omega), sb.2.2.2.2]
  refine z_aload_n g dL_law__279 rfl ?_
  refine z_iload g dL_law__280 rfl ?_
  refine z_iconst (v := 2) g dL_law__282 (by decide) ?_
  refine z_iadd g dL_law__283 ?_
  rw [nI_l2]
  refine z_ialdk (k := 190) g (by rw [sb.2.2.1]) (by decide) (vp_in_nI (by rw [sb.2.2.2.1]; omega) (by rw [sb.2.2.2.1]; omega)) dL_law__284 ?_
  rw [nI_clamp (show 6 * i + 2 < 2 ^ 31 by omega), sb.2.2.2.2]
  refine z_aload_n g dL_law__285 rfl ?_
  refine z_iload g dL_law__286 rfl ?_
  refine z_iconst (v := 3) g dL_law__288 (by decide) ?_
  refine z_iadd g dL_law__289 ?_
  rw [nI_l3]
  refine z_ialdk (k := 190) g (by rw [sb.2.2.1]) (by decide) (vp_in_nI (by rw [sb.2.2.2.1]; omega) (by rw [sb.2.2.2.1]; omega)) dL_law__290 ?_
  rw [nI_clamp (show 6 * i + 3 < 2 ^ 31 by omega), sb.2.2.2.2]
  refine z_aload_n g dL_law__291 rfl ?_
  refine z_iload g dL_law__292 rfl ?_
  refine z_iconst (v := 4) g dL_law__294 (by decide) ?_
  refine z_iadd g dL_law__295 ?_
  rw [nI_l4]
  refine z_ialdk (k := 190) g (by rw [sb.2.2.1]) (by decide) (vp_in_nI (by rw [sb.2.2.2.1]; omega) (by rw [sb.2.2.2.1]; omega)) dL_law__296 ?_
  rw [nI_clamp (show 6 * i + 4 < 2 ^ 31 by omega), sb.2.2.2.2]
  refine z_callSH g _ _ csh_L_move (w_move _ M hX hV _ _ _ _) rfl (by rw [hR]; decide) (by exact hcs) (by exact hss) (Nat.le_of_ble_eq_true rfl) rfl dL_law__297 (fun _ _ h => False.elim h) (fun r_1 M1 h_1 => ?_)
  obtain ⟨rfl, g1, B1, hX1⟩ := h_1
  have hM1 := hM.agr g1 (fun c k z => TM_TL z)
  have sb1 := sb.keepL g1
  refine z_istore g dL_law__300 (by rw [hN]; decide) ?_
  refine z_aload_n g dL_law__302 rfl ?_
  refine z_aload_n g dL_law__303 rfl ?_
  refine z_iload g dL_law__304 rfl ?_
  refine z_iconst (v := 1) g dL_law__306 (by decide) ?_
  refine z_iadd g dL_law__307 ?_
  rw [nI_l1]
  refine z_ialdk (k := 190) g (by rw [sb1.2.2.1]) (by decide) (vp_in_nI (by rw [sb1.2.2.2.1]; omega) (by rw [sb1.2.2.2.1]; omega)) dL_law__308 ?_
  rw [nI_clamp (show 6 * i + 1 < 2 ^ 31 by omega), sb1.2.2.2.2]
  refine z_aload_n g dL_law__309 rfl ?_
  refine z_iload g dL_law__310 rfl ?_
  refine z_iconst (v := 2) g dL_law__312 (by decide) ?_
  refine z_iadd g dL_law__313 ?_
  rw [nI_l2]
  refine z_ialdk (k := 190) g (by rw [sb1.2.2.1]) (by decide) (vp_in_nI (by rw [sb1.2.2.2.1]; omega) (by rw [sb1.2.2.2.1]; omega)) dL_law__314 ?_
  rw [nI_clamp (show 6 * i + 2 < 2 ^ 31 by omega), sb1.2.2.2.2]
  refine z_aload_n g dL_law__315 rfl ?_
  refine z_iload g dL_law__316 rfl ?_
  refine z_iconst (v := 3) g dL_law__318 (by decide) ?_
  refine z_iadd g dL_law__319 ?_
  rw [nI_l3]
  refine z_ialdk (k := 190) g (by rw [sb1.2.2.1]) (by decide) (vp_in_nI (by rw [sb1.2.2.2.1]; omega) (by rw [sb1.2.2.2.1]; omega)) dL_law__320 ?_
  rw [nI_clamp (show 6 * i + 3 < 2 ^ 31 by omega), sb1.2.2.2.2]
  refine z_aload_n g dL_law__321 rfl ?_
  refine z_iload g dL_law__322 rfl ?_
  refine z_iconst (v := 4) g dL_law__324 (by decide) ?_
  refine z_iadd g dL_law__325 ?_
  rw [nI_l4]
  refine z_ialdk (k := 190) g (by rw [sb1.2.2.1]) (by decide) (vp_in_nI (by rw [sb1.2.2.2.1]; omega) (by rw [sb1.2.2.2.1]; omega)) dL_law__326 ?_
  rw [nI_clamp (show 6 * i + 4 < 2 ^ 31 by omega), sb1.2.2.2.2]
  refine z_callV g _ _ cv_L_145 (m_move _ M1 hM1 hV _ _ _ _) hM1.k0 (by decide) rfl (by rw [hR]; decide) (by exact hcs) (by exact hss) (Nat.le_of_ble_eq_true rfl) rfl dL_law__327 (fun _ _ h => False.elim h) (fun r_2 M2 h_2 => ?_)
  obtain ⟨rfl, hM2, g2⟩ := h_2
  obtain ⟨hV2, hX2⟩ := lwstp hX1 hM1 g2 (opS_INV hV (fun h => I_Move hV h))
  obtain ⟨sb2, ho2⟩ := sb1.keepM (g2.agr hM1)
  refine z_aload_n g dL_law__330 rfl ?_
  refine z_callV g _ _ cv_L_138 (n_thr _ M2 hM2) hM2.k0 (by decide) rfl (by rw [hR]; decide) (by exact hcs) (by exact hss) (Nat.le_of_ble_eq_true rfl) rfl dL_law__331 (fun _ _ h => False.elim h) (fun r_3 M_3 h_3 => ?_)
  obtain ⟨rfl, rfl⟩ := h_3
  rw [gi_opS (fun _ => z_Move)]
  refine z_iload g dL_law__334 rfl ?_
  refine z_icmp_eq (tgt := 341) g dL_law__336 (by decide) (fun _ => ?_) (fun h => absurd rfl h)
  refine z_goto (tgt := 2707) g dL_law__341 (by decide) ?_
  exact z_to (kk _ ⟨_, _, hX2, hM2, hV2, sb2⟩) ⟨rfl, rfl, rfl, rfl, rfl, trivial⟩
set_option maxHeartbeats 4000000 in
set_option maxRecDepth 100000 in
theorem lc_11 {X : Cx} {A : Nat → Nat} {b x m o L i cs sl : Nat} {xs : Nat → Int32} {M : Mm} (g : Gd X cL_law_ RL) (hN : xN X = 8) (hR : xR X = room_1) (hL : L ≤ 3072) (hi : 6 * i + 6 ≤ L) (hcs : cs + 16 ≤ (xR X).cells) (hss : sl + 500 ≤ (xR X).slots) (hLI : LI A b x m o L xs M)
    (kk : ∀ M', LI A b x m o L xs M' → Z X M' (cs + 16) (sl + 500) 2707 [(0, .ref b), (1, .ref x), (2, .ref m), (3, .ref o), (4, .int (nI (6 * i)))] []) : Z X M cs sl 1155 [(0, .ref b), (1, .ref x), (2, .ref m), (3, .ref o), (4, .int (nI (6 * i)))] [] := by
  obtain ⟨S, B, hX, hM, hV, sb⟩ := hLI
  refine z_aload_n g dL_law__1155 rfl ?_
  refine z_aload_n g dL_law__1156 rfl ?_
  refine z_iload g dL_law__1157 rfl ?_
  refine z_iconst (v := 1) g dL_law__1159 (by decide) ?_
  refine z_iadd g dL_law__1160 ?_
  rw [nI_l1]
  refine z_ialdk (k := 190) g (by rw [sb.2.2.1]) (by decide) (vp_in_nI (by rw [sb.2.2.2.1]; omega) (by rw [sb.2.2.2.1]; omega)) dL_law__1161 ?_
  rw [nI_clamp (show 6 * i + 1 < 2 ^ 31 by omega), sb.2.2.2.2]
  refine z_aload_n g dL_law__1162 rfl ?_
  refine z_iload g dL_law__1163 rfl ?_
  refine z_iconst (v := 2) g dL_law__1165 (by decide) ?_
  refine z_iadd g dL_law__1166 ?_
  rw [nI_l2]
  refine z_ialdk (k := 190) g (by rw [sb.2.2.1]) (by decide) (vp_in_nI (by rw [sb.2.2.2.1]; omega) (by rw [sb.2.2.2.1]; omega)) dL_law__1167 ?_
  rw [nI_clamp (show 6 * i + 2 < 2 ^ 31 by omega), sb.2.2.2.2]
  refine z_aload_n g dL_law__1168 rfl ?_
  refine z_callSH g _ _ csh_L_protest (w_protest _ M hX hV o sb.1 sb.2.1 _ _) rfl (by rw [hR]; decide) (by exact hcs) (by exact hss) (Nat.le_of_ble_eq_true rfl) rfl dL_law__1169 (fun _ _ h => False.elim h) (fun r_1 M1 h_1 => ?_)
  obtain ⟨rfl, hans, g1, B1, hX1⟩ := h_1
  have hM1 := hM.agr g1 (fun c k z => TM_TL z)
  have sb1 := sb.keepL g1
  refine z_istore g dL_law__1172 (by rw [hN]; decide) ?_
  refine z_aload_n g dL_law__1174 rfl ?_
  refine z_aload_n g dL_law__1175 rfl ?_
  refine z_iload g dL_law__1176 rfl ?_
  refine z_iconst (v := 1) g dL_law__1178 (by decide) ?_
  refine z_iadd g dL_law__1179 ?_
  rw [nI_l1]
  refine z_ialdk (k := 190) g (by rw [sb1.2.2.1]) (by decide) (vp_in_nI (by rw [sb1.2.2.2.1]; omega) (by rw [sb1.2.2.2.1]; omega)) dL_law__1180 ?_
  rw [nI_clamp (show 6 * i + 1 < 2 ^ 31 by omega), sb1.2.2.2.2]
  refine z_aload_n g dL_law__1181 rfl ?_
  refine z_iload g dL_law__1182 rfl ?_
  refine z_iconst (v := 2) g dL_law__1184 (by decide) ?_
  refine z_iadd g dL_law__1185 ?_
  rw [nI_l2]
  refine z_ialdk (k := 190) g (by rw [sb1.2.2.1]) (by decide) (vp_in_nI (by rw [sb1.2.2.2.1]; omega) (by rw [sb1.2.2.2.1]; omega)) dL_law__1186 ?_
  rw [nI_clamp (show 6 * i + 2 < 2 ^ 31 by omega), sb1.2.2.2.2]
  refine z_callV g _ _ cv_L_183 (m_protest _ M1 hM1 hV _ _) hM1.k0 (by decide) rfl (by rw [hR]; decide) (by exact hcs) (by exact hss) (Nat.le_of_ble_eq_true rfl) rfl dL_law__1187 (fun _ _ h => False.elim h) (fun r_2 M2 h_2 => ?_)
  obtain ⟨rfl, hM2, g2⟩ := h_2
  obtain ⟨hV2, hX2⟩ := lwstp hX1 hM1 g2 (opS_INV hV (fun h => I_Protest hV h))
  obtain ⟨sb2, ho2⟩ := sb1.keepM (g2.agr hM1)
  refine z_istore g dL_law__1190 (by rw [hN]; decide) ?_
  refine z_aload_n g dL_law__1192 rfl ?_
  refine z_callV g _ _ cv_L_138 (n_thr _ M2 hM2) hM2.k0 (by decide) rfl (by rw [hR]; decide) (by exact hcs) (by exact hss) (Nat.le_of_ble_eq_true rfl) rfl dL_law__1193 (fun _ _ h => False.elim h) (fun r_3 M_3 h_3 => ?_)
  obtain ⟨rfl, rfl⟩ := h_3
  rw [gi_opS (fun _ => z_Protest)]
  refine z_iload g dL_law__1196 rfl ?_
  refine z_icmp_eq (tgt := 1203) g dL_law__1198 (by decide) (fun _ => ?_) (fun h => absurd rfl h)
  refine z_iload g dL_law__1203 rfl ?_
  refine z_if_ne (tgt := 1227) g dL_law__1205 (by decide) (fun hc_ => ?_) (fun hc_ => ?_)
  · refine z_goto (tgt := 2707) g dL_law__1227 (by decide) ?_
    exact z_to (kk _ ⟨_, _, hX2, hM2, hV2, sb2⟩) ⟨rfl, rfl, rfl, rfl, rfl, trivial⟩
  have hv_ := hans hc_
  have hw_ := ho2.trans hv_
  rw [opV_z hc_]
  refine z_aload_n g dL_law__1208 rfl ?_
  refine z_iconst (v := 0) g dL_law__1209 (by decide) ?_
  refine z_laldk (k := 290) g (by rw [sb2.1]) (by decide) (by rw [sb2.2.1]; exact in01) dL_law__1210 ?_
  rw [show (0 : Int32).toNatClampNeg = 0 from rfl, hw_]
  refine z_iload g dL_law__1211 rfl ?_
  refine z_if_eq (tgt := 1220) g dL_law__1213 (by decide) (fun cb_ => ?_) (fun cb_ => ?_)
  · have hb_ := b2i_0.mp cb_
    rw [hb_]
    refine z_lconst (v := 0) g dL_law__1220 (by decide) ?_
    refine z_lcmp g dL_law__1221 ?_
    refine z_if_eq (tgt := 1227) g dL_law__1222 (by decide) (fun _ => ?_) (fun h => absurd ((lg_cmp_eq _ _).mpr rfl) h)
    refine z_goto (tgt := 2707) g dL_law__1227 (by decide) ?_
    exact z_to (kk _ ⟨_, _, hX2, hM2, hV2, sb2⟩) ⟨rfl, rfl, rfl, rfl, rfl, trivial⟩
  · have hb_ := b2i_n0.mp cb_
    rw [hb_]
    refine z_lconst (v := 1) g dL_law__1216 (by decide) ?_
    refine z_goto (tgt := 1221) g dL_law__1217 (by decide) ?_
    refine z_lcmp g dL_law__1221 ?_
    refine z_if_eq (tgt := 1227) g dL_law__1222 (by decide) (fun _ => ?_) (fun h => absurd ((lg_cmp_eq _ _).mpr rfl) h)
    refine z_goto (tgt := 2707) g dL_law__1227 (by decide) ?_
    exact z_to (kk _ ⟨_, _, hX2, hM2, hV2, sb2⟩) ⟨rfl, rfl, rfl, rfl, rfl, trivial⟩
set_option maxHeartbeats 4000000 in
set_option maxRecDepth 100000 in
theorem lc_25 {X : Cx} {A : Nat → Nat} {b x m o L i cs sl : Nat} {xs : Nat → Int32} {M : Mm} (g : Gd X cL_law_ RL) (hN : xN X = 8) (hR : xR X = room_1) (hL : L ≤ 3072) (hi : 6 * i + 6 ≤ L) (hcs : cs + 16 ≤ (xR X).cells) (hss : sl + 500 ≤ (xR X).slots) (hLI : LI A b x m o L xs M)
    (kk : ∀ M', LI A b x m o L xs M' → Z X M' (cs + 16) (sl + 500) 2707 [(0, .ref b), (1, .ref x), (2, .ref m), (3, .ref o), (4, .int (nI (6 * i)))] []) : Z X M cs sl 2199 [(0, .ref b), (1, .ref x), (2, .ref m), (3, .ref o), (4, .int (nI (6 * i)))] [] := by
  obtain ⟨S, B, hX, hM, hV, sb⟩ := hLI
  refine z_aload_n g dL_law__2199 rfl ?_
  refine z_callV g _ _ cv_L_226 (k_assign _ M hX hV) (by rw [hX.1.1]) (by decide) rfl (by rw [hR]; decide) (by exact hcs) (by exact hss) (Nat.le_of_ble_eq_true rfl) rfl dL_law__2200 (fun _ _ h => False.elim h) (fun r_1 M1 h_1 => ?_)
  obtain ⟨rfl, g1, B1, hX1⟩ := h_1
  have gL : agr TL M M1 := g1.mono (fun c k z => Or.inl z)
  have hM1 := hM.agr gL (fun c k z => TM_TL z)
  have sb1 := sb.keepL gL
  refine z_aload_n g dL_law__2203 rfl ?_
  refine z_callV g _ _ cv_L_229 (m_assign _ M1 hM1 hV) hM1.k0 (by decide) rfl (by rw [hR]; decide) (by exact hcs) (by exact hss) (Nat.le_of_ble_eq_true rfl) rfl dL_law__2204 (fun _ _ h => False.elim h) (fun r_2 M2 h_2 => ?_)
  obtain ⟨rfl, hM2, g2⟩ := h_2
  have hV2 : INV (sAssign S) := INV_wi0 0 hV
  have hX2 := hX1.FM hV2 hM1 g2
  have sb2 := (sb1.keepM (g2.agr hM1)).1
  refine z_icmp_eq (tgt := 2707) g dL_law__2207 (by decide) (fun _ => ?_) (fun h => absurd rfl h)
  exact z_to (kk _ ⟨_, _, hX2, hM2, hV2, sb2⟩) ⟨rfl, rfl, rfl, rfl, rfl, trivial⟩
