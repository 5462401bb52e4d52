/-! ===== the law: one step of each kind (printed by gen/mk_lawc.py) ===== -/
theorem nI_l1 (a : Nat) : nI a + 1 = nI (a + 1) := nI_add a 1
theorem nI_l2 (a : Nat) : nI a + 2 = nI (a + 2) := nI_add a 2
theorem nI_l3 (a : Nat) : nI a + 3 = nI (a + 3) := nI_add a 3
theorem nI_l4 (a : Nat) : nI a + 4 = nI (a + 4) := nI_add a 4
theorem nI_l5 (a : Nat) : nI a + 5 = nI (a + 5) := nI_add a 5
theorem gi_opS {c : Int32} {S s : Ms} (h : c = 0 → gi s 0 = 0) : gi (opS c S s) 0 = c := by
  unfold opS
  split
  · rename_i e; rw [h e, e]
  · exact (gi_wi (S := S) (k := 0) (i := 0) (v := c)).trans (if_pos rfl)
theorem opV_z {α : Type} {c : Int32} {v z : α} (h : c = 0) : opV c v z = v := if_pos h
/-- the script lies at b, below all that the law makes -/
def ScX (X : Cx) (b L : Nat) (xs : Nat → Int32) : Prop := match X with
  | (p, l, e, R, s, m, args, below, meth, c, D, cy, base, eD, nL, Q) => va_X b L xs s s.heap ∧ b < s.heap.size ∧ ¬ base ≤ b
theorem z_sld {X : Cx} {cc : ByteArray} {own : String} {M : Mm} {cs sl pc : Nat} {L : List (Nat × Value)} {st : List Value} (g : Gd X cc own) {b n : Nat} {xs : Nat → Int32} {i : Int32} (hSc : ScX X b n xs) (hin : vp_in i n) (d : decode cc pc = .ok (.iaload, 1)) (kk : Z X M cs sl (pc + 1) L (.int (xs i.toNatClampNeg) :: st)) : Z X M cs sl pc L (.int i :: .ref b :: st) := by
  obtain ⟨p, l, e, R, s, m, args, below, meth, c, D, cy, base, eD, nL, Q⟩ := X
  obtain ⟨hx, hb, hml, hown, hlk, hgs, hbs, hst⟩ := g
  obtain ⟨h1, h2, h3⟩ := hSc
  exact fun H locs ls hr hS hl => va_sld hx hb h1 h2 h3 hS hin d (kk H locs ls hr hS hl)
theorem z_slen {X : Cx} {cc : ByteArray} {own : String} {M : Mm} {cs sl pc : Nat} {L : List (Nat × Value)} {st : List Value} (g : Gd X cc own) {b n : Nat} {xs : Nat → Int32} (hSc : ScX X b n xs) (d : decode cc pc = .ok (.arraylength, 1)) (kk : Z X M cs sl (pc + 1) L (.int (nI n) :: st)) : Z X M cs sl pc L (.ref b :: st) := by
  obtain ⟨p, l, e, R, s, m, args, below, meth, c, D, cy, base, eD, nL, Q⟩ := X
  obtain ⟨hx, hb, hml, hown, hlk, hgs, hbs, hst⟩ := g
  obtain ⟨h1, h2, h3⟩ := hSc
  exact fun H locs ls hr hS hl => va_slen hx hb h1 h2 h3 hS d (kk H locs ls hr hS hl)
/-- the answers' row -/
def SB (o : Nat) (M : Mm) : Prop := kd M o = 290 ∧ ln M o = 1
theorem SB.keepL {o : Nat} {M M1 : Mm} (h : SB o M) (g : agr TL M M1) : SB o M1 := by
  obtain ⟨h1, h2⟩ := h
  have n3 : ¬ TL 1290 0 := fun z => by unfold TL TC at z; omega
  exact ⟨(g.K (by rw [h1]; decide)).trans h1, (g.N (c := 290) (by rw [h1]) (by decide) n3).trans h2⟩
theorem SB.keepM {o : Nat} {M M1 : Mm} (h : SB o M) (g : agr TM M M1) : SB o M1 ∧ fL M1 o 0 = fL M o 0 := by
  obtain ⟨h1, h2⟩ := h
  have n3 : ∀ k, ¬ TM 1290 k := fun k z => by unfold TM at z; omega
  have n4 : ∀ k, ¬ TM 290 k := fun k z => by unfold TM at z; omega
  exact ⟨⟨(g.K (by rw [h1]; decide)).trans h1, (g.N (c := 290) (by rw [h1]) (by decide) (n3 0)).trans h2⟩, g.L (c := 290) (by rw [h1]) (by decide) (n4 0)⟩
/-- what holds between two steps -/
def LI (A : Nat → Nat) (x m o : Nat) (M : Mm) : Prop := ∃ S B, RX B x S M ∧ RM A m S M ∧ INV S ∧ SB o M
theorem lwstp {B : Nat → Nat → Nat} {x m : Nat} {S S1 : Ms} {A : Nat → Nat} {M M2 : Mm} (h : RX B x S1 M) (hM : RM A m S M) (g : FM A m M M2) (hV : INV S1) : INV S1 ∧ RX B x S1 M2 := ⟨hV, h.FM hV hM g⟩
theorem TM_TL {c k : Nat} (h : TM c k) : ¬ TL c k := fun z => by unfold TL TC at z; unfold TM at h; omega
theorem z_Feature {S : Ms} {k : Int32} {p : Int32} {q : Int32} : gi (sFeature S k p q) 0 = 0 := rfl
theorem z_Move {S : Ms} {f : Int32} {p : Int32} {q : Int32} {d : Int32} : gi (sMove S f p q d) 0 = 0 := rfl
theorem z_Part {S : Ms} {f : Int32} {w : Int32} {d : Int32} : gi (sPart S f w d) 0 = 0 := rfl
theorem z_End {S : Ms} {f : Int32} {i : Int32} {d : Int32} : gi (sEnd S f i d) 0 = 0 := rfl
theorem z_Of {S : Ms} {f : Int32} {w : Int32} {d : Int32} {k : Int32} : gi (sOf S f w d k) 0 = 0 := rfl
theorem z_Name {S : Ms} {f : Int32} {t : Int32} {w : Int64} {d : Int32} : gi (sName S f t w d) 0 = 0 := rfl
theorem z_Lawc {S : Ms} {t : Int32} {d : Int32} {l : Int32} {p : Int32} {q : Int32} : gi (sLawc S t d l p q) 0 = 0 := rfl
theorem z_Except {S : Ms} {f : Int32} {t : Int32} {d : Int32} : gi (sExcept S f t d) 0 = 0 := rfl
theorem z_Form {S : Ms} {f : Int32} {t : Int32} {d : Int32} {k : Int32} : gi (sForm S f t d k) 0 = 0 := rfl
theorem z_Petition {S : Ms} {f : Int32} {t : Int32} {w : Int64} {d : Int32} : gi (sPetition S f t w d) 0 = 0 := rfl
theorem z_Vote {S : Ms} {f : Int32} {c : Int32} {b : Int32} : gi (sVote S f c b) 0 = 0 := by unfold sVote; split <;> rfl
theorem z_Protest {S : Ms} {f : Int32} {c : Int32} : gi (sProtest S f c) 0 = 0 := rfl
theorem z_Decide {S : Ms} {f : Int32} : gi (sDecide S f) 0 = 0 := by unfold sDecide; split <;> rfl
theorem z_Appeal {S : Ms} {f : Int32} : gi (sAppeal S f) 0 = 0 := rfl
theorem z_PetOf {S : Ms} {f : Int32} {w : Int32} : gi (sPetOf S f w) 0 = 0 := rfl
theorem z_Census {S : Ms} {f : Int32} {t : Int32} {v : Int32} : gi (sCensus S f t v) 0 = 0 := rfl
theorem z_Dispute {S : Ms} {f : Int32} {a : Int32} {b : Int32} : gi (sDispute S f a b) 0 = 0 := rfl
theorem z_Shown {S : Ms} {f : Int32} {d : Int32} : gi (sShown S f d) 0 = 0 := rfl
theorem z_Display {S : Ms} {f : Int32} {t : Int32} : gi (sDisplay S f t) 0 = 0 := rfl
theorem z_Table {S : Ms} {f : Int32} {l : Int32} {p : Int32} : gi (sTable S f l p) 0 = 0 := rfl
theorem z_Write {S : Ms} {w : Int64} {t : Int32} : gi (sWrite S w t) 0 = 0 := rfl
theorem z_Loss {S : Ms} {f : Int32} : gi (sLoss S f) 0 = 0 := rfl
theorem z_Reading {S : Ms} {w : Int64} {p : Int32} {q : Int32} : gi (sReading S w p q) 0 = 0 := rfl
theorem z_Cost {S : Ms} {q : Int32} {f : Int32} : gi (sCost S q f) 0 = 0 := rfl
theorem z_Find {S : Ms} {w : Int64} {p : Int32} {q : Int32} {y : Int32} : gi (sFind S w p q y) 0 = 0 := rfl
theorem z_Pull {S : Ms} {s : Int32} : gi (sPull S s) 0 = 0 := rfl
theorem z_Copy {S : Ms} {s : Int32} {f : Int32} {t : Int32} : gi (sCopy S s f t) 0 = 0 := rfl
theorem z_Order {S : Ms} {f : Int32} : gi (sOrder S f) 0 = 0 := rfl
theorem z_Budget {S : Ms} {v : Int32} : gi (sBudget S v) 0 = 0 := rfl
theorem z_Sign {S : Ms} {f : Int32} : gi (sSign S f) 0 = 0 := rfl
theorem psA_0 (S : Ms) : gi (psA S) 0 = gi S 0 := by
  show gi (osL (wi (sgL S (manyA S)) 58 (gi S 58 - nI (manyA S))) (manyA S) (cn S 58 - manyA S)) 0 = _
  rw [(osL_f _ _ _).1, gi_wi, if_neg (by decide), (sgL_f S _).2.1]
theorem psN_0 {S : Ms} : ∀ n, gi (psN (wi S 0 0) n) 0 = 0
  | 0 => rfl
  | n + 1 => (psA_0 _).trans (psN_0 n)
theorem z_Pass {S : Ms} {d : Int32} : gi (sPass S d) 0 = 0 := psN_0 _
set_option maxHeartbeats 4000000 in
set_option maxRecDepth 100000 in
theorem lc_0 {X : Cx} {A : Nat → Nat} {b x m o L i cs sl : Nat} {xs : Nat → Int32} {M : Mm} (g : Gd X cL_law_ RL) (hN : xN X = 8) (hR : xR X = room_1) (hL : L ≤ 3072) (hi : 6 * i + 6 ≤ L) (hcs : cs + 16 ≤ (xR X).cells) (hss : sl + 500 ≤ (xR X).slots) (hSc : ScX X b L xs) (hLI : LI A x m o M)
    (kk : ∀ M', LI A x m o M' → Z X M' (cs + 16) (sl + 500) 2707 [(0, .ref b), (1, .ref x), (2, .ref m), (3, .ref o), (4, .int (nI (6 * i)))] []) : Z X M cs sl 192 [(0, .ref b), (1, .ref x), (2, .ref m), (3, .ref o), (4, .int (nI (6 * i)))] [] := by
  obtain ⟨S, B, hX, hM, hV, sb⟩ := hLI
  refine z_aload_n g dL_law__192 rfl ?_
  refine z_aload_n g dL_law__193 rfl ?_
  refine z_iload g dL_law__194 rfl ?_
  refine z_iconst (v := 1) g dL_law__196 (by decide) ?_
  refine z_iadd g dL_law__197 ?_
  rw [nI_l1]
  refine z_sld g hSc (vp_in_nI (by omega) (by omega)) dL_law__198 ?_
  rw [nI_clamp (show 6 * i + 1 < 2 ^ 31 by omega)]
  refine z_aload_n g dL_law__199 rfl ?_
  refine z_iload g dL_law__200 rfl ?_
  refine z_iconst (v := 2) g dL_law__202 (by decide) ?_
  refine z_iadd g dL_law__203 ?_
  rw [nI_l2]
  refine z_sld g hSc (vp_in_nI (by omega) (by omega)) dL_law__204 ?_
  rw [nI_clamp (show 6 * i + 2 < 2 ^ 31 by omega)]
  refine z_aload_n g dL_law__205 rfl ?_
  refine z_iload g dL_law__206 rfl ?_
  refine z_iconst (v := 3) g dL_law__208 (by decide) ?_
  refine z_iadd g dL_law__209 ?_
  rw [nI_l3]
  refine z_sld g hSc (vp_in_nI (by omega) (by omega)) dL_law__210 ?_
  rw [nI_clamp (show 6 * i + 3 < 2 ^ 31 by omega)]
  refine z_aload_n g dL_law__211 rfl ?_
  refine z_callSH g _ _ csh_L_feature (w_feature _ M hX hV o sb.1 sb.2 _ _ _) rfl (by rw [hR]; decide) (by exact hcs) (by exact hss) (Nat.le_of_ble_eq_true rfl) rfl dL_law__212 (fun _ _ h => False.elim h) (fun r_1 M1 h_1 => ?_)
  obtain ⟨rfl, hans, g1, B1, hX1⟩ := h_1
  have hM1 := hM.agr g1 (fun c k z => TM_TL z)
  have sb1 := sb.keepL g1
  refine z_istore g dL_law__215 (by rw [hN]; decide) ?_
  refine z_aload_n g dL_law__217 rfl ?_
  refine z_aload_n g dL_law__218 rfl ?_
  refine z_iload g dL_law__219 rfl ?_
  refine z_iconst (v := 1) g dL_law__221 (by decide) ?_
  refine z_iadd g dL_law__222 ?_
  rw [nI_l1]
  refine z_sld g hSc (vp_in_nI (by omega) (by omega)) dL_law__223 ?_
  rw [nI_clamp (show 6 * i + 1 < 2 ^ 31 by omega)]
  refine z_aload_n g dL_law__224 rfl ?_
  refine z_iload g dL_law__225 rfl ?_
  refine z_iconst (v := 2) g dL_law__227 (by decide) ?_
  refine z_iadd g dL_law__228 ?_
  rw [nI_l2]
  refine z_sld g hSc (vp_in_nI (by omega) (by omega)) dL_law__229 ?_
  rw [nI_clamp (show 6 * i + 2 < 2 ^ 31 by omega)]
  refine z_aload_n g dL_law__230 rfl ?_
  refine z_iload g dL_law__231 rfl ?_
  refine z_iconst (v := 3) g dL_law__233 (by decide) ?_
  refine z_iadd g dL_law__234 ?_
  rw [nI_l3]
  refine z_sld g hSc (vp_in_nI (by omega) (by omega)) dL_law__235 ?_
  rw [nI_clamp (show 6 * i + 3 < 2 ^ 31 by omega)]
  refine z_callV g _ _ cv_L_137 (m_feature _ M1 hM1 hV _ _ _) hM1.k0 (by decide) rfl (by rw [hR]; decide) (by exact hcs) (by exact hss) (Nat.le_of_ble_eq_true rfl) rfl dL_law__236 (fun _ _ h => False.elim h) (fun r_2 M2 h_2 => ?_)
  obtain ⟨rfl, hM2, g2⟩ := h_2
  obtain ⟨hV2, hX2⟩ := lwstp hX1 hM1 g2 (opS_INV hV (fun h => I_Feature hV h))
  obtain ⟨sb2, ho2⟩ := sb1.keepM (g2.agr hM1)
  refine z_istore g dL_law__239 (by rw [hN]; decide) ?_
  refine z_aload_n g dL_law__241 rfl ?_
  refine z_callV g _ _ cv_L_138 (n_thr _ M2 hM2) hM2.k0 (by decide) rfl (by rw [hR]; decide) (by exact hcs) (by exact hss) (Nat.le_of_ble_eq_true rfl) rfl dL_law__242 (fun _ _ h => False.elim h) (fun r_3 M_3 h_3 => ?_)
  obtain ⟨rfl, rfl⟩ := h_3
  rw [gi_opS (fun _ => z_Feature)]
  refine z_iload g dL_law__245 rfl ?_
  refine z_icmp_eq (tgt := 252) g dL_law__247 (by decide) (fun _ => ?_) (fun h => absurd rfl h)
  refine z_iload g dL_law__252 rfl ?_
  refine z_if_ne (tgt := 269) g dL_law__254 (by decide) (fun hc_ => ?_) (fun hc_ => ?_)
  · refine z_goto (tgt := 2707) g dL_law__269 (by decide) ?_
    exact z_to (kk _ ⟨_, _, hX2, hM2, hV2, sb2⟩) ⟨rfl, rfl, rfl, rfl, rfl, trivial⟩
  have hv_ := hans hc_
  have hw_ := ho2.trans hv_
  rw [opV_z hc_]
  refine z_aload_n g dL_law__257 rfl ?_
  refine z_iconst (v := 0) g dL_law__258 (by decide) ?_
  refine z_laldk (k := 290) g (by rw [sb2.1]) (by decide) (by rw [sb2.2]; exact in01) dL_law__259 ?_
  rw [show (0 : Int32).toNatClampNeg = 0 from rfl, hw_]
  refine z_iload g dL_law__260 rfl ?_
  refine z_i2l g dL_law__262 ?_
  refine z_lcmp g dL_law__263 ?_
  refine z_if_eq (tgt := 269) g dL_law__264 (by decide) (fun _ => ?_) (fun h => absurd ((lg_cmp_eq _ _).mpr rfl) h)
  refine z_goto (tgt := 2707) g dL_law__269 (by decide) ?_
  exact z_to (kk _ ⟨_, _, hX2, hM2, hV2, sb2⟩) ⟨rfl, rfl, rfl, rfl, rfl, trivial⟩
set_option maxHeartbeats 4000000 in
set_option maxRecDepth 100000 in
theorem lc_1 {X : Cx} {A : Nat → Nat} {b x m o L i cs sl : Nat} {xs : Nat → Int32} {M : Mm} (g : Gd X cL_law_ RL) (hN : xN X = 8) (hR : xR X = room_1) (hL : L ≤ 3072) (hi : 6 * i + 6 ≤ L) (hcs : cs + 16 ≤ (xR X).cells) (hss : sl + 500 ≤ (xR X).slots) (hSc : ScX X b L xs) (hLI : LI A x m o M)
    (kk : ∀ M', LI A x m o M' → Z X M' (cs + 16) (sl + 500) 2707 [(0, .ref b), (1, .ref x), (2, .ref m), (3, .ref o), (4, .int (nI (6 * i)))] []) : Z X M cs sl 272 [(0, .ref b), (1, .ref x), (2, .ref m), (3, .ref o), (4, .int (nI (6 * i)))] [] := by
  obtain ⟨S, B, hX, hM, hV, sb⟩ := hLI
  refine z_aload_n g dL_law__272 rfl ?_
  refine z_aload_n g dL_law__273 rfl ?_
  refine z_iload g dL_law__274 rfl ?_
  refine z_iconst (v := 1) g dL_law__276 (by decide) ?_
  refine z_iadd g dL_law__277 ?_
  rw [nI_l1]
  refine z_sld g hSc (vp_in_nI (by omega) (by omega)) dL_law__278 ?_
  rw [nI_clamp (show 6 * i + 1 < 2 ^ 31 by omega)]
  refine z_aload_n g dL_law__279 rfl ?_
  refine z_iload g dL_law__280 rfl ?_
  refine z_iconst (v := 2) g dL_law__282 (by decide) ?_
  refine z_iadd g dL_law__283 ?_
  rw [nI_l2]
  refine z_sld g hSc (vp_in_nI (by omega) (by omega)) dL_law__284 ?_
  rw [nI_clamp (show 6 * i + 2 < 2 ^ 31 by omega)]
  refine z_aload_n g dL_law__285 rfl ?_
  refine z_iload g dL_law__286 rfl ?_
  refine z_iconst (v := 3) g dL_law__288 (by decide) ?_
  refine z_iadd g dL_law__289 ?_
  rw [nI_l3]
  refine z_sld g hSc (vp_in_nI (by omega) (by omega)) dL_law__290 ?_
  rw [nI_clamp (show 6 * i + 3 < 2 ^ 31 by omega)]
  refine z_aload_n g dL_law__291 rfl ?_
  refine z_iload g dL_law__292 rfl ?_
  refine z_iconst (v := 4) g dL_law__294 (by decide) ?_
  refine z_iadd g dL_law__295 ?_
  rw [nI_l4]
  refine z_sld g hSc (vp_in_nI (by omega) (by omega)) dL_law__296 ?_
  rw [nI_clamp (show 6 * i + 4 < 2 ^ 31 by omega)]
  refine z_callSH g _ _ csh_L_move (w_move _ M hX hV _ _ _ _) rfl (by rw [hR]; decide) (by exact hcs) (by exact hss) (Nat.le_of_ble_eq_true rfl) rfl dL_law__297 (fun _ _ h => False.elim h) (fun r_1 M1 h_1 => ?_)
  obtain ⟨rfl, g1, B1, hX1⟩ := h_1
  have hM1 := hM.agr g1 (fun c k z => TM_TL z)
  have sb1 := sb.keepL g1
  refine z_istore g dL_law__300 (by rw [hN]; decide) ?_
  refine z_aload_n g dL_law__302 rfl ?_
  refine z_aload_n g dL_law__303 rfl ?_
  refine z_iload g dL_law__304 rfl ?_
  refine z_iconst (v := 1) g dL_law__306 (by decide) ?_
  refine z_iadd g dL_law__307 ?_
  rw [nI_l1]
  refine z_sld g hSc (vp_in_nI (by omega) (by omega)) dL_law__308 ?_
  rw [nI_clamp (show 6 * i + 1 < 2 ^ 31 by omega)]
  refine z_aload_n g dL_law__309 rfl ?_
  refine z_iload g dL_law__310 rfl ?_
  refine z_iconst (v := 2) g dL_law__312 (by decide) ?_
  refine z_iadd g dL_law__313 ?_
  rw [nI_l2]
  refine z_sld g hSc (vp_in_nI (by omega) (by omega)) dL_law__314 ?_
  rw [nI_clamp (show 6 * i + 2 < 2 ^ 31 by omega)]
  refine z_aload_n g dL_law__315 rfl ?_
  refine z_iload g dL_law__316 rfl ?_
  refine z_iconst (v := 3) g dL_law__318 (by decide) ?_
  refine z_iadd g dL_law__319 ?_
  rw [nI_l3]
  refine z_sld g hSc (vp_in_nI (by omega) (by omega)) dL_law__320 ?_
  rw [nI_clamp (show 6 * i + 3 < 2 ^ 31 by omega)]
  refine z_aload_n g dL_law__321 rfl ?_
  refine z_iload g dL_law__322 rfl ?_
  refine z_iconst (v := 4) g dL_law__324 (by decide) ?_
  refine z_iadd g dL_law__325 ?_
  rw [nI_l4]
  refine z_sld g hSc (vp_in_nI (by omega) (by omega)) dL_law__326 ?_
  rw [nI_clamp (show 6 * i + 4 < 2 ^ 31 by omega)]
  refine z_callV g _ _ cv_L_145 (m_move _ M1 hM1 hV _ _ _ _) hM1.k0 (by decide) rfl (by rw [hR]; decide) (by exact hcs) (by exact hss) (Nat.le_of_ble_eq_true rfl) rfl dL_law__327 (fun _ _ h => False.elim h) (fun r_2 M2 h_2 => ?_)
  obtain ⟨rfl, hM2, g2⟩ := h_2
  obtain ⟨hV2, hX2⟩ := lwstp hX1 hM1 g2 (opS_INV hV (fun h => I_Move hV h))
  obtain ⟨sb2, ho2⟩ := sb1.keepM (g2.agr hM1)
  refine z_aload_n g dL_law__330 rfl ?_
  refine z_callV g _ _ cv_L_138 (n_thr _ M2 hM2) hM2.k0 (by decide) rfl (by rw [hR]; decide) (by exact hcs) (by exact hss) (Nat.le_of_ble_eq_true rfl) rfl dL_law__331 (fun _ _ h => False.elim h) (fun r_3 M_3 h_3 => ?_)
  obtain ⟨rfl, rfl⟩ := h_3
  rw [gi_opS (fun _ => z_Move)]
  refine z_iload g dL_law__334 rfl ?_
  refine z_icmp_eq (tgt := 341) g dL_law__336 (by decide) (fun _ => ?_) (fun h => absurd rfl h)
  refine z_goto (tgt := 2707) g dL_law__341 (by decide) ?_
  exact z_to (kk _ ⟨_, _, hX2, hM2, hV2, sb2⟩) ⟨rfl, rfl, rfl, rfl, rfl, trivial⟩
set_option maxHeartbeats 4000000 in
set_option maxRecDepth 100000 in
theorem lc_2 {X : Cx} {A : Nat → Nat} {b x m o L i cs sl : Nat} {xs : Nat → Int32} {M : Mm} (g : Gd X cL_law_ RL) (hN : xN X = 8) (hR : xR X = room_1) (hL : L ≤ 3072) (hi : 6 * i + 6 ≤ L) (hcs : cs + 16 ≤ (xR X).cells) (hss : sl + 500 ≤ (xR X).slots) (hSc : ScX X b L xs) (hLI : LI A x m o M)
    (kk : ∀ M', LI A x m o M' → Z X M' (cs + 16) (sl + 500) 2707 [(0, .ref b), (1, .ref x), (2, .ref m), (3, .ref o), (4, .int (nI (6 * i)))] []) : Z X M cs sl 344 [(0, .ref b), (1, .ref x), (2, .ref m), (3, .ref o), (4, .int (nI (6 * i)))] [] := by
  obtain ⟨S, B, hX, hM, hV, sb⟩ := hLI
  refine z_aload_n g dL_law__344 rfl ?_
  refine z_aload_n g dL_law__345 rfl ?_
  refine z_iload g dL_law__346 rfl ?_
  refine z_iconst (v := 1) g dL_law__348 (by decide) ?_
  refine z_iadd g dL_law__349 ?_
  rw [nI_l1]
  refine z_sld g hSc (vp_in_nI (by omega) (by omega)) dL_law__350 ?_
  rw [nI_clamp (show 6 * i + 1 < 2 ^ 31 by omega)]
  refine z_aload_n g dL_law__351 rfl ?_
  refine z_iload g dL_law__352 rfl ?_
  refine z_iconst (v := 2) g dL_law__354 (by decide) ?_
  refine z_iadd g dL_law__355 ?_
  rw [nI_l2]
  refine z_sld g hSc (vp_in_nI (by omega) (by omega)) dL_law__356 ?_
  rw [nI_clamp (show 6 * i + 2 < 2 ^ 31 by omega)]
  refine z_aload_n g dL_law__357 rfl ?_
  refine z_iload g dL_law__358 rfl ?_
  refine z_iconst (v := 3) g dL_law__360 (by decide) ?_
  refine z_iadd g dL_law__361 ?_
  rw [nI_l3]
  refine z_sld g hSc (vp_in_nI (by omega) (by omega)) dL_law__362 ?_
  rw [nI_clamp (show 6 * i + 3 < 2 ^ 31 by omega)]
  refine z_callSH g _ _ csh_L_part (w_part _ M hX hV _ _ _) rfl (by rw [hR]; decide) (by exact hcs) (by exact hss) (Nat.le_of_ble_eq_true rfl) rfl dL_law__363 (fun _ _ h => False.elim h) (fun r_1 M1 h_1 => ?_)
  obtain ⟨rfl, g1, B1, hX1⟩ := h_1
  have hM1 := hM.agr g1 (fun c k z => TM_TL z)
  have sb1 := sb.keepL g1
  refine z_istore g dL_law__366 (by rw [hN]; decide) ?_
  refine z_aload_n g dL_law__368 rfl ?_
  refine z_aload_n g dL_law__369 rfl ?_
  refine z_iload g dL_law__370 rfl ?_
  refine z_iconst (v := 1) g dL_law__372 (by decide) ?_
  refine z_iadd g dL_law__373 ?_
  rw [nI_l1]
  refine z_sld g hSc (vp_in_nI (by omega) (by omega)) dL_law__374 ?_
  rw [nI_clamp (show 6 * i + 1 < 2 ^ 31 by omega)]
  refine z_aload_n g dL_law__375 rfl ?_
  refine z_iload g dL_law__376 rfl ?_
  refine z_iconst (v := 2) g dL_law__378 (by decide) ?_
  refine z_iadd g dL_law__379 ?_
  rw [nI_l2]
  refine z_sld g hSc (vp_in_nI (by omega) (by omega)) dL_law__380 ?_
  rw [nI_clamp (show 6 * i + 2 < 2 ^ 31 by omega)]
  refine z_aload_n g dL_law__381 rfl ?_
  refine z_iload g dL_law__382 rfl ?_
  refine z_iconst (v := 3) g dL_law__384 (by decide) ?_
  refine z_iadd g dL_law__385 ?_
  rw [nI_l3]
  refine z_sld g hSc (vp_in_nI (by omega) (by omega)) dL_law__386 ?_
  rw [nI_clamp (show 6 * i + 3 < 2 ^ 31 by omega)]
  refine z_callV g _ _ cv_L_149 (m_part _ M1 hM1 hV _ _ _) hM1.k0 (by decide) rfl (by rw [hR]; decide) (by exact hcs) (by exact hss) (Nat.le_of_ble_eq_true rfl) rfl dL_law__387 (fun _ _ h => False.elim h) (fun r_2 M2 h_2 => ?_)
  obtain ⟨rfl, hM2, g2⟩ := h_2
  obtain ⟨hV2, hX2⟩ := lwstp hX1 hM1 g2 (opS_INV hV (fun h => I_Part hV h))
  obtain ⟨sb2, ho2⟩ := sb1.keepM (g2.agr hM1)
  refine z_aload_n g dL_law__390 rfl ?_
  refine z_callV g _ _ cv_L_138 (n_thr _ M2 hM2) hM2.k0 (by decide) rfl (by rw [hR]; decide) (by exact hcs) (by exact hss) (Nat.le_of_ble_eq_true rfl) rfl dL_law__391 (fun _ _ h => False.elim h) (fun r_3 M_3 h_3 => ?_)
  obtain ⟨rfl, rfl⟩ := h_3
  rw [gi_opS (fun _ => z_Part)]
  refine z_iload g dL_law__394 rfl ?_
  refine z_icmp_eq (tgt := 401) g dL_law__396 (by decide) (fun _ => ?_) (fun h => absurd rfl h)
  refine z_goto (tgt := 2707) g dL_law__401 (by decide) ?_
  exact z_to (kk _ ⟨_, _, hX2, hM2, hV2, sb2⟩) ⟨rfl, rfl, rfl, rfl, rfl, trivial⟩
set_option maxHeartbeats 4000000 in
set_option maxRecDepth 100000 in
theorem lc_3 {X : Cx} {A : Nat → Nat} {b x m o L i cs sl : Nat} {xs : Nat → Int32} {M : Mm} (g : Gd X cL_law_ RL) (hN : xN X = 8) (hR : xR X = room_1) (hL : L ≤ 3072) (hi : 6 * i + 6 ≤ L) (hcs : cs + 16 ≤ (xR X).cells) (hss : sl + 500 ≤ (xR X).slots) (hSc : ScX X b L xs) (hLI : LI A x m o M)
    (kk : ∀ M', LI A x m o M' → Z X M' (cs + 16) (sl + 500) 2707 [(0, .ref b), (1, .ref x), (2, .ref m), (3, .ref o), (4, .int (nI (6 * i)))] []) : Z X M cs sl 404 [(0, .ref b), (1, .ref x), (2, .ref m), (3, .ref o), (4, .int (nI (6 * i)))] [] := by
  obtain ⟨S, B, hX, hM, hV, sb⟩ := hLI
  refine z_aload_n g dL_law__404 rfl ?_
  refine z_aload_n g dL_law__405 rfl ?_
  refine z_iload g dL_law__406 rfl ?_
  refine z_iconst (v := 1) g dL_law__408 (by decide) ?_
  refine z_iadd g dL_law__409 ?_
  rw [nI_l1]
  refine z_sld g hSc (vp_in_nI (by omega) (by omega)) dL_law__410 ?_
  rw [nI_clamp (show 6 * i + 1 < 2 ^ 31 by omega)]
  refine z_aload_n g dL_law__411 rfl ?_
  refine z_iload g dL_law__412 rfl ?_
  refine z_iconst (v := 2) g dL_law__414 (by decide) ?_
  refine z_iadd g dL_law__415 ?_
  rw [nI_l2]
  refine z_sld g hSc (vp_in_nI (by omega) (by omega)) dL_law__416 ?_
  rw [nI_clamp (show 6 * i + 2 < 2 ^ 31 by omega)]
  refine z_aload_n g dL_law__417 rfl ?_
  refine z_iload g dL_law__418 rfl ?_
  refine z_iconst (v := 3) g dL_law__420 (by decide) ?_
  refine z_iadd g dL_law__421 ?_
  rw [nI_l3]
  refine z_sld g hSc (vp_in_nI (by omega) (by omega)) dL_law__422 ?_
  rw [nI_clamp (show 6 * i + 3 < 2 ^ 31 by omega)]
  refine z_callSH g _ _ csh_L_end (w_end _ M hX hV _ _ _) rfl (by rw [hR]; decide) (by exact hcs) (by exact hss) (Nat.le_of_ble_eq_true rfl) rfl dL_law__423 (fun _ _ h => False.elim h) (fun r_1 M1 h_1 => ?_)
  obtain ⟨rfl, g1, B1, hX1⟩ := h_1
  have hM1 := hM.agr g1 (fun c k z => TM_TL z)
  have sb1 := sb.keepL g1
  refine z_istore g dL_law__426 (by rw [hN]; decide) ?_
  refine z_aload_n g dL_law__428 rfl ?_
  refine z_aload_n g dL_law__429 rfl ?_
  refine z_iload g dL_law__430 rfl ?_
  refine z_iconst (v := 1) g dL_law__432 (by decide) ?_
  refine z_iadd g dL_law__433 ?_
  rw [nI_l1]
  refine z_sld g hSc (vp_in_nI (by omega) (by omega)) dL_law__434 ?_
  rw [nI_clamp (show 6 * i + 1 < 2 ^ 31 by omega)]
  refine z_aload_n g dL_law__435 rfl ?_
  refine z_iload g dL_law__436 rfl ?_
  refine z_iconst (v := 2) g dL_law__438 (by decide) ?_
  refine z_iadd g dL_law__439 ?_
  rw [nI_l2]
  refine z_sld g hSc (vp_in_nI (by omega) (by omega)) dL_law__440 ?_
  rw [nI_clamp (show 6 * i + 2 < 2 ^ 31 by omega)]
  refine z_aload_n g dL_law__441 rfl ?_
  refine z_iload g dL_law__442 rfl ?_
  refine z_iconst (v := 3) g dL_law__444 (by decide) ?_
  refine z_iadd g dL_law__445 ?_
  rw [nI_l3]
  refine z_sld g hSc (vp_in_nI (by omega) (by omega)) dL_law__446 ?_
  rw [nI_clamp (show 6 * i + 3 < 2 ^ 31 by omega)]
  refine z_callV g _ _ cv_L_152 (m_end _ M1 hM1 hV _ _ _) hM1.k0 (by decide) rfl (by rw [hR]; decide) (by exact hcs) (by exact hss) (Nat.le_of_ble_eq_true rfl) rfl dL_law__447 (fun _ _ h => False.elim h) (fun r_2 M2 h_2 => ?_)
  obtain ⟨rfl, hM2, g2⟩ := h_2
  obtain ⟨hV2, hX2⟩ := lwstp hX1 hM1 g2 (opS_INV hV (fun h => I_End hV h))
  obtain ⟨sb2, ho2⟩ := sb1.keepM (g2.agr hM1)
  refine z_aload_n g dL_law__450 rfl ?_
  refine z_callV g _ _ cv_L_138 (n_thr _ M2 hM2) hM2.k0 (by decide) rfl (by rw [hR]; decide) (by exact hcs) (by exact hss) (Nat.le_of_ble_eq_true rfl) rfl dL_law__451 (fun _ _ h => False.elim h) (fun r_3 M_3 h_3 => ?_)
  obtain ⟨rfl, rfl⟩ := h_3
  rw [gi_opS (fun _ => z_End)]
  refine z_iload g dL_law__454 rfl ?_
  refine z_icmp_eq (tgt := 461) g dL_law__456 (by decide) (fun _ => ?_) (fun h => absurd rfl h)
  refine z_goto (tgt := 2707) g dL_law__461 (by decide) ?_
  exact z_to (kk _ ⟨_, _, hX2, hM2, hV2, sb2⟩) ⟨rfl, rfl, rfl, rfl, rfl, trivial⟩
set_option maxHeartbeats 4000000 in
set_option maxRecDepth 100000 in
theorem lc_4 {X : Cx} {A : Nat → Nat} {b x m o L i cs sl : Nat} {xs : Nat → Int32} {M : Mm} (g : Gd X cL_law_ RL) (hN : xN X = 8) (hR : xR X = room_1) (hL : L ≤ 3072) (hi : 6 * i + 6 ≤ L) (hcs : cs + 16 ≤ (xR X).cells) (hss : sl + 500 ≤ (xR X).slots) (hSc : ScX X b L xs) (hLI : LI A x m o M)
    (kk : ∀ M', LI A x m o M' → Z X M' (cs + 16) (sl + 500) 2707 [(0, .ref b), (1, .ref x), (2, .ref m), (3, .ref o), (4, .int (nI (6 * i)))] []) : Z X M cs sl 464 [(0, .ref b), (1, .ref x), (2, .ref m), (3, .ref o), (4, .int (nI (6 * i)))] [] := by
  obtain ⟨S, B, hX, hM, hV, sb⟩ := hLI
  refine z_aload_n g dL_law__464 rfl ?_
  refine z_aload_n g dL_law__465 rfl ?_
  refine z_iload g dL_law__466 rfl ?_
  refine z_iconst (v := 1) g dL_law__468 (by decide) ?_
  refine z_iadd g dL_law__469 ?_
  rw [nI_l1]
  refine z_sld g hSc (vp_in_nI (by omega) (by omega)) dL_law__470 ?_
  rw [nI_clamp (show 6 * i + 1 < 2 ^ 31 by omega)]
  refine z_aload_n g dL_law__471 rfl ?_
  refine z_iload g dL_law__472 rfl ?_
  refine z_iconst (v := 2) g dL_law__474 (by decide) ?_
  refine z_iadd g dL_law__475 ?_
  rw [nI_l2]
  refine z_sld g hSc (vp_in_nI (by omega) (by omega)) dL_law__476 ?_
  rw [nI_clamp (show 6 * i + 2 < 2 ^ 31 by omega)]
  refine z_aload_n g dL_law__477 rfl ?_
  refine z_iload g dL_law__478 rfl ?_
  refine z_iconst (v := 3) g dL_law__480 (by decide) ?_
  refine z_iadd g dL_law__481 ?_
  rw [nI_l3]
  refine z_sld g hSc (vp_in_nI (by omega) (by omega)) dL_law__482 ?_
  rw [nI_clamp (show 6 * i + 3 < 2 ^ 31 by omega)]
  refine z_aload_n g dL_law__483 rfl ?_
  refine z_iload g dL_law__484 rfl ?_
  refine z_iconst (v := 4) g dL_law__486 (by decide) ?_
  refine z_iadd g dL_law__487 ?_
  rw [nI_l4]
  refine z_sld g hSc (vp_in_nI (by omega) (by omega)) dL_law__488 ?_
  rw [nI_clamp (show 6 * i + 4 < 2 ^ 31 by omega)]
  refine z_aload_n g dL_law__489 rfl ?_
  refine z_callSH g _ _ csh_L_of (w_of _ M hX hV o sb.1 sb.2 _ _ _ _) rfl (by rw [hR]; decide) (by exact hcs) (by exact hss) (Nat.le_of_ble_eq_true rfl) rfl dL_law__490 (fun _ _ h => False.elim h) (fun r_1 M1 h_1 => ?_)
  obtain ⟨rfl, hans, g1, B1, hX1⟩ := h_1
  have hM1 := hM.agr g1 (fun c k z => TM_TL z)
  have sb1 := sb.keepL g1
  refine z_istore g dL_law__493 (by rw [hN]; decide) ?_
  refine z_aload_n g dL_law__495 rfl ?_
  refine z_aload_n g dL_law__496 rfl ?_
  refine z_iload g dL_law__497 rfl ?_
  refine z_iconst (v := 1) g dL_law__499 (by decide) ?_
  refine z_iadd g dL_law__500 ?_
  rw [nI_l1]
  refine z_sld g hSc (vp_in_nI (by omega) (by omega)) dL_law__501 ?_
  rw [nI_clamp (show 6 * i + 1 < 2 ^ 31 by omega)]
  refine z_aload_n g dL_law__502 rfl ?_
  refine z_iload g dL_law__503 rfl ?_
  refine z_iconst (v := 2) g dL_law__505 (by decide) ?_
  refine z_iadd g dL_law__506 ?_
  rw [nI_l2]
  refine z_sld g hSc (vp_in_nI (by omega) (by omega)) dL_law__507 ?_
  rw [nI_clamp (show 6 * i + 2 < 2 ^ 31 by omega)]
  refine z_aload_n g dL_law__508 rfl ?_
  refine z_iload g dL_law__509 rfl ?_
  refine z_iconst (v := 3) g dL_law__511 (by decide) ?_
  refine z_iadd g dL_law__512 ?_
  rw [nI_l3]
  refine z_sld g hSc (vp_in_nI (by omega) (by omega)) dL_law__513 ?_
  rw [nI_clamp (show 6 * i + 3 < 2 ^ 31 by omega)]
  refine z_aload_n g dL_law__514 rfl ?_
  refine z_iload g dL_law__515 rfl ?_
  refine z_iconst (v := 4) g dL_law__517 (by decide) ?_
  refine z_iadd g dL_law__518 ?_
  rw [nI_l4]
  refine z_sld g hSc (vp_in_nI (by omega) (by omega)) dL_law__519 ?_
  rw [nI_clamp (show 6 * i + 4 < 2 ^ 31 by omega)]
  refine z_callV g _ _ cv_L_156 (m_of _ M1 hM1 hV _ _ _ _) hM1.k0 (by decide) rfl (by rw [hR]; decide) (by exact hcs) (by exact hss) (Nat.le_of_ble_eq_true rfl) rfl dL_law__520 (fun _ _ h => False.elim h) (fun r_2 M2 h_2 => ?_)
  obtain ⟨rfl, hM2, g2⟩ := h_2
  obtain ⟨hV2, hX2⟩ := lwstp hX1 hM1 g2 (opS_INV hV (fun h => I_Of hV h))
  obtain ⟨sb2, ho2⟩ := sb1.keepM (g2.agr hM1)
  refine z_istore g dL_law__523 (by rw [hN]; decide) ?_
  refine z_aload_n g dL_law__525 rfl ?_
  refine z_callV g _ _ cv_L_138 (n_thr _ M2 hM2) hM2.k0 (by decide) rfl (by rw [hR]; decide) (by exact hcs) (by exact hss) (Nat.le_of_ble_eq_true rfl) rfl dL_law__526 (fun _ _ h => False.elim h) (fun r_3 M_3 h_3 => ?_)
  obtain ⟨rfl, rfl⟩ := h_3
  rw [gi_opS (fun _ => z_Of)]
  refine z_iload g dL_law__529 rfl ?_
  refine z_icmp_eq (tgt := 536) g dL_law__531 (by decide) (fun _ => ?_) (fun h => absurd rfl h)
  refine z_iload g dL_law__536 rfl ?_
  refine z_if_ne (tgt := 553) g dL_law__538 (by decide) (fun hc_ => ?_) (fun hc_ => ?_)
  · refine z_goto (tgt := 2707) g dL_law__553 (by decide) ?_
    exact z_to (kk _ ⟨_, _, hX2, hM2, hV2, sb2⟩) ⟨rfl, rfl, rfl, rfl, rfl, trivial⟩
  have hv_ := hans hc_
  have hw_ := ho2.trans hv_
  rw [opV_z hc_]
  refine z_aload_n g dL_law__541 rfl ?_
  refine z_iconst (v := 0) g dL_law__542 (by decide) ?_
  refine z_laldk (k := 290) g (by rw [sb2.1]) (by decide) (by rw [sb2.2]; exact in01) dL_law__543 ?_
  rw [show (0 : Int32).toNatClampNeg = 0 from rfl, hw_]
  refine z_iload g dL_law__544 rfl ?_
  refine z_i2l g dL_law__546 ?_
  refine z_lcmp g dL_law__547 ?_
  refine z_if_eq (tgt := 553) g dL_law__548 (by decide) (fun _ => ?_) (fun h => absurd ((lg_cmp_eq _ _).mpr rfl) h)
  refine z_goto (tgt := 2707) g dL_law__553 (by decide) ?_
  exact z_to (kk _ ⟨_, _, hX2, hM2, hV2, sb2⟩) ⟨rfl, rfl, rfl, rfl, rfl, trivial⟩
set_option maxHeartbeats 4000000 in
set_option maxRecDepth 100000 in
theorem lc_5 {X : Cx} {A : Nat → Nat} {b x m o L i cs sl : Nat} {xs : Nat → Int32} {M : Mm} (g : Gd X cL_law_ RL) (hN : xN X = 8) (hR : xR X = room_1) (hL : L ≤ 3072) (hi : 6 * i + 6 ≤ L) (hcs : cs + 16 ≤ (xR X).cells) (hss : sl + 500 ≤ (xR X).slots) (hSc : ScX X b L xs) (hLI : LI A x m o M)
    (kk : ∀ M', LI A x m o M' → Z X M' (cs + 16) (sl + 500) 2707 [(0, .ref b), (1, .ref x), (2, .ref m), (3, .ref o), (4, .int (nI (6 * i)))] []) : Z X M cs sl 556 [(0, .ref b), (1, .ref x), (2, .ref m), (3, .ref o), (4, .int (nI (6 * i)))] [] := by
  obtain ⟨S, B, hX, hM, hV, sb⟩ := hLI
  refine z_aload_n g dL_law__556 rfl ?_
  refine z_aload_n g dL_law__557 rfl ?_
  refine z_iload g dL_law__558 rfl ?_
  refine z_iconst (v := 1) g dL_law__560 (by decide) ?_
  refine z_iadd g dL_law__561 ?_
  rw [nI_l1]
  refine z_sld g hSc (vp_in_nI (by omega) (by omega)) dL_law__562 ?_
  rw [nI_clamp (show 6 * i + 1 < 2 ^ 31 by omega)]
  refine z_aload_n g dL_law__563 rfl ?_
  refine z_iload g dL_law__564 rfl ?_
  refine z_iconst (v := 2) g dL_law__566 (by decide) ?_
  refine z_iadd g dL_law__567 ?_
  rw [nI_l2]
  refine z_sld g hSc (vp_in_nI (by omega) (by omega)) dL_law__568 ?_
  rw [nI_clamp (show 6 * i + 2 < 2 ^ 31 by omega)]
  refine z_aload_n g dL_law__569 rfl ?_
  refine z_iload g dL_law__570 rfl ?_
  refine z_iconst (v := 3) g dL_law__572 (by decide) ?_
  refine z_iadd g dL_law__573 ?_
  rw [nI_l3]
  refine z_sld g hSc (vp_in_nI (by omega) (by omega)) dL_law__574 ?_
  rw [nI_clamp (show 6 * i + 3 < 2 ^ 31 by omega)]
  refine z_i2l g dL_law__575 ?_
  refine z_bipush (v := 32) g dL_law__576 (by decide) ?_
  refine z_lshl g dL_law__578 ?_
  refine z_aload_n g dL_law__579 rfl ?_
  refine z_iload g dL_law__580 rfl ?_
  refine z_iconst (v := 4) g dL_law__582 (by decide) ?_
  refine z_iadd g dL_law__583 ?_
  rw [nI_l4]
  refine z_sld g hSc (vp_in_nI (by omega) (by omega)) dL_law__584 ?_
  rw [nI_clamp (show 6 * i + 4 < 2 ^ 31 by omega)]
  refine z_i2l g dL_law__585 ?_
  refine z_ldc2 g dL_law__586 kc_L_157 ?_
  refine z_land g dL_law__589 ?_
  refine z_lor g dL_law__590 ?_
  refine z_aload_n g dL_law__591 rfl ?_
  refine z_iload g dL_law__592 rfl ?_
  refine z_iconst (v := 5) g dL_law__594 (by decide) ?_
  refine z_iadd g dL_law__595 ?_
  rw [nI_l5]
  refine z_sld g hSc (vp_in_nI (by omega) (by omega)) dL_law__596 ?_
  rw [nI_clamp (show 6 * i + 5 < 2 ^ 31 by omega)]
  refine z_aload_n g dL_law__597 rfl ?_
  refine z_callSH g _ _ csh_L_name (w_name _ M hX hV o sb.1 sb.2 _ _ _ _) rfl (by rw [hR]; decide) (by exact hcs) (by exact hss) (Nat.le_of_ble_eq_true rfl) rfl dL_law__598 (fun _ _ h => False.elim h) (fun r_1 M1 h_1 => ?_)
  obtain ⟨rfl, hans, g1, B1, hX1⟩ := h_1
  have hM1 := hM.agr g1 (fun c k z => TM_TL z)
  have sb1 := sb.keepL g1
  refine z_istore g dL_law__601 (by rw [hN]; decide) ?_
  refine z_aload_n g dL_law__603 rfl ?_
  refine z_aload_n g dL_law__604 rfl ?_
  refine z_iload g dL_law__605 rfl ?_
  refine z_iconst (v := 1) g dL_law__607 (by decide) ?_
  refine z_iadd g dL_law__608 ?_
  rw [nI_l1]
  refine z_sld g hSc (vp_in_nI (by omega) (by omega)) dL_law__609 ?_
  rw [nI_clamp (show 6 * i + 1 < 2 ^ 31 by omega)]
  refine z_aload_n g dL_law__610 rfl ?_
  refine z_iload g dL_law__611 rfl ?_
  refine z_iconst (v := 2) g dL_law__613 (by decide) ?_
  refine z_iadd g dL_law__614 ?_
  rw [nI_l2]
  refine z_sld g hSc (vp_in_nI (by omega) (by omega)) dL_law__615 ?_
  rw [nI_clamp (show 6 * i + 2 < 2 ^ 31 by omega)]
  refine z_aload_n g dL_law__616 rfl ?_
  refine z_iload g dL_law__617 rfl ?_
  refine z_iconst (v := 3) g dL_law__619 (by decide) ?_
  refine z_iadd g dL_law__620 ?_
  rw [nI_l3]
  refine z_sld g hSc (vp_in_nI (by omega) (by omega)) dL_law__621 ?_
  rw [nI_clamp (show 6 * i + 3 < 2 ^ 31 by omega)]
  refine z_i2l g dL_law__622 ?_
  refine z_bipush (v := 32) g dL_law__623 (by decide) ?_
  refine z_lshl g dL_law__625 ?_
  refine z_aload_n g dL_law__626 rfl ?_
  refine z_iload g dL_law__627 rfl ?_
  refine z_iconst (v := 4) g dL_law__629 (by decide) ?_
  refine z_iadd g dL_law__630 ?_
  rw [nI_l4]
  refine z_sld g hSc (vp_in_nI (by omega) (by omega)) dL_law__631 ?_
  rw [nI_clamp (show 6 * i + 4 < 2 ^ 31 by omega)]
  refine z_i2l g dL_law__632 ?_
  refine z_ldc2 g dL_law__633 kc_L_157 ?_
  refine z_land g dL_law__636 ?_
  refine z_lor g dL_law__637 ?_
  refine z_aload_n g dL_law__638 rfl ?_
  refine z_iload g dL_law__639 rfl ?_
  refine z_iconst (v := 5) g dL_law__641 (by decide) ?_
  refine z_iadd g dL_law__642 ?_
  rw [nI_l5]
  refine z_sld g hSc (vp_in_nI (by omega) (by omega)) dL_law__643 ?_
  rw [nI_clamp (show 6 * i + 5 < 2 ^ 31 by omega)]
  refine z_callV g _ _ cv_L_162 (m_name _ M1 hM1 hV _ _ _ _) hM1.k0 (by decide) rfl (by rw [hR]; decide) (by exact hcs) (by exact hss) (Nat.le_of_ble_eq_true rfl) rfl dL_law__644 (fun _ _ h => False.elim h) (fun r_2 M2 h_2 => ?_)
  obtain ⟨rfl, hM2, g2⟩ := h_2
  obtain ⟨hV2, hX2⟩ := lwstp hX1 hM1 g2 (opS_INV hV (fun h => I_Name hV h))
  obtain ⟨sb2, ho2⟩ := sb1.keepM (g2.agr hM1)
  refine z_istore g dL_law__647 (by rw [hN]; decide) ?_
  refine z_aload_n g dL_law__649 rfl ?_
  refine z_callV g _ _ cv_L_138 (n_thr _ M2 hM2) hM2.k0 (by decide) rfl (by rw [hR]; decide) (by exact hcs) (by exact hss) (Nat.le_of_ble_eq_true rfl) rfl dL_law__650 (fun _ _ h => False.elim h) (fun r_3 M_3 h_3 => ?_)
  obtain ⟨rfl, rfl⟩ := h_3
  rw [gi_opS (fun _ => z_Name)]
  refine z_iload g dL_law__653 rfl ?_
  refine z_icmp_eq (tgt := 660) g dL_law__655 (by decide) (fun _ => ?_) (fun h => absurd rfl h)
  refine z_iload g dL_law__660 rfl ?_
  refine z_if_ne (tgt := 677) g dL_law__662 (by decide) (fun hc_ => ?_) (fun hc_ => ?_)
  · refine z_goto (tgt := 2707) g dL_law__677 (by decide) ?_
    exact z_to (kk _ ⟨_, _, hX2, hM2, hV2, sb2⟩) ⟨rfl, rfl, rfl, rfl, rfl, trivial⟩
  have hv_ := hans hc_
  have hw_ := ho2.trans hv_
  rw [opV_z hc_]
  refine z_aload_n g dL_law__665 rfl ?_
  refine z_iconst (v := 0) g dL_law__666 (by decide) ?_
  refine z_laldk (k := 290) g (by rw [sb2.1]) (by decide) (by rw [sb2.2]; exact in01) dL_law__667 ?_
  rw [show (0 : Int32).toNatClampNeg = 0 from rfl, hw_]
  refine z_iload g dL_law__668 rfl ?_
  refine z_i2l g dL_law__670 ?_
  refine z_lcmp g dL_law__671 ?_
  refine z_if_eq (tgt := 677) g dL_law__672 (by decide) (fun _ => ?_) (fun h => absurd ((lg_cmp_eq _ _).mpr rfl) h)
  refine z_goto (tgt := 2707) g dL_law__677 (by decide) ?_
  exact z_to (kk _ ⟨_, _, hX2, hM2, hV2, sb2⟩) ⟨rfl, rfl, rfl, rfl, rfl, trivial⟩
set_option maxHeartbeats 4000000 in
set_option maxRecDepth 100000 in
theorem lc_6 {X : Cx} {A : Nat → Nat} {b x m o L i cs sl : Nat} {xs : Nat → Int32} {M : Mm} (g : Gd X cL_law_ RL) (hN : xN X = 8) (hR : xR X = room_1) (hL : L ≤ 3072) (hi : 6 * i + 6 ≤ L) (hcs : cs + 16 ≤ (xR X).cells) (hss : sl + 500 ≤ (xR X).slots) (hSc : ScX X b L xs) (hLI : LI A x m o M)
    (kk : ∀ M', LI A x m o M' → Z X M' (cs + 16) (sl + 500) 2707 [(0, .ref b), (1, .ref x), (2, .ref m), (3, .ref o), (4, .int (nI (6 * i)))] []) : Z X M cs sl 680 [(0, .ref b), (1, .ref x), (2, .ref m), (3, .ref o), (4, .int (nI (6 * i)))] [] := by
  obtain ⟨S, B, hX, hM, hV, sb⟩ := hLI
  refine z_aload_n g dL_law__680 rfl ?_
  refine z_aload_n g dL_law__681 rfl ?_
  refine z_iload g dL_law__682 rfl ?_
  refine z_iconst (v := 1) g dL_law__684 (by decide) ?_
  refine z_iadd g dL_law__685 ?_
  rw [nI_l1]
  refine z_sld g hSc (vp_in_nI (by omega) (by omega)) dL_law__686 ?_
  rw [nI_clamp (show 6 * i + 1 < 2 ^ 31 by omega)]
  refine z_aload_n g dL_law__687 rfl ?_
  refine z_iload g dL_law__688 rfl ?_
  refine z_iconst (v := 2) g dL_law__690 (by decide) ?_
  refine z_iadd g dL_law__691 ?_
  rw [nI_l2]
  refine z_sld g hSc (vp_in_nI (by omega) (by omega)) dL_law__692 ?_
  rw [nI_clamp (show 6 * i + 2 < 2 ^ 31 by omega)]
  refine z_aload_n g dL_law__693 rfl ?_
  refine z_iload g dL_law__694 rfl ?_
  refine z_iconst (v := 3) g dL_law__696 (by decide) ?_
  refine z_iadd g dL_law__697 ?_
  rw [nI_l3]
  refine z_sld g hSc (vp_in_nI (by omega) (by omega)) dL_law__698 ?_
  rw [nI_clamp (show 6 * i + 3 < 2 ^ 31 by omega)]
  refine z_aload_n g dL_law__699 rfl ?_
  refine z_iload g dL_law__700 rfl ?_
  refine z_iconst (v := 4) g dL_law__702 (by decide) ?_
  refine z_iadd g dL_law__703 ?_
  rw [nI_l4]
  refine z_sld g hSc (vp_in_nI (by omega) (by omega)) dL_law__704 ?_
  rw [nI_clamp (show 6 * i + 4 < 2 ^ 31 by omega)]
  refine z_aload_n g dL_law__705 rfl ?_
  refine z_iload g dL_law__706 rfl ?_
  refine z_iconst (v := 5) g dL_law__708 (by decide) ?_
  refine z_iadd g dL_law__709 ?_
  rw [nI_l5]
  refine z_sld g hSc (vp_in_nI (by omega) (by omega)) dL_law__710 ?_
  rw [nI_clamp (show 6 * i + 5 < 2 ^ 31 by omega)]
  refine z_aload_n g dL_law__711 rfl ?_
  refine z_callSH g _ _ csh_L_law (w_law _ M hX hV o sb.1 sb.2 _ _ _ _ _) rfl (by rw [hR]; decide) (by exact hcs) (by exact hss) (Nat.le_of_ble_eq_true rfl) rfl dL_law__712 (fun _ _ h => False.elim h) (fun r_1 M1 h_1 => ?_)
  obtain ⟨rfl, hans, g1, B1, hX1⟩ := h_1
  have hM1 := hM.agr g1 (fun c k z => TM_TL z)
  have sb1 := sb.keepL g1
  refine z_istore g dL_law__715 (by rw [hN]; decide) ?_
  refine z_aload_n g dL_law__717 rfl ?_
  refine z_aload_n g dL_law__718 rfl ?_
  refine z_iload g dL_law__719 rfl ?_
  refine z_iconst (v := 1) g dL_law__721 (by decide) ?_
  refine z_iadd g dL_law__722 ?_
  rw [nI_l1]
  refine z_sld g hSc (vp_in_nI (by omega) (by omega)) dL_law__723 ?_
  rw [nI_clamp (show 6 * i + 1 < 2 ^ 31 by omega)]
  refine z_aload_n g dL_law__724 rfl ?_
  refine z_iload g dL_law__725 rfl ?_
  refine z_iconst (v := 2) g dL_law__727 (by decide) ?_
  refine z_iadd g dL_law__728 ?_
  rw [nI_l2]
  refine z_sld g hSc (vp_in_nI (by omega) (by omega)) dL_law__729 ?_
  rw [nI_clamp (show 6 * i + 2 < 2 ^ 31 by omega)]
  refine z_aload_n g dL_law__730 rfl ?_
  refine z_iload g dL_law__731 rfl ?_
  refine z_iconst (v := 3) g dL_law__733 (by decide) ?_
  refine z_iadd g dL_law__734 ?_
  rw [nI_l3]
  refine z_sld g hSc (vp_in_nI (by omega) (by omega)) dL_law__735 ?_
  rw [nI_clamp (show 6 * i + 3 < 2 ^ 31 by omega)]
  refine z_aload_n g dL_law__736 rfl ?_
  refine z_iload g dL_law__737 rfl ?_
  refine z_iconst (v := 4) g dL_law__739 (by decide) ?_
  refine z_iadd g dL_law__740 ?_
  rw [nI_l4]
  refine z_sld g hSc (vp_in_nI (by omega) (by omega)) dL_law__741 ?_
  rw [nI_clamp (show 6 * i + 4 < 2 ^ 31 by omega)]
  refine z_aload_n g dL_law__742 rfl ?_
  refine z_iload g dL_law__743 rfl ?_
  refine z_iconst (v := 5) g dL_law__745 (by decide) ?_
  refine z_iadd g dL_law__746 ?_
  rw [nI_l5]
  refine z_sld g hSc (vp_in_nI (by omega) (by omega)) dL_law__747 ?_
  rw [nI_clamp (show 6 * i + 5 < 2 ^ 31 by omega)]
  refine z_callV g _ _ cv_L_166 (m_law _ M1 hM1 hV _ _ _ _ _) hM1.k0 (by decide) rfl (by rw [hR]; decide) (by exact hcs) (by exact hss) (Nat.le_of_ble_eq_true rfl) rfl dL_law__748 (fun _ _ h => False.elim h) (fun r_2 M2 h_2 => ?_)
  obtain ⟨rfl, hM2, g2⟩ := h_2
  obtain ⟨hV2, hX2⟩ := lwstp hX1 hM1 g2 (opS_INV hV (fun h => I_Lawc hV h))
  obtain ⟨sb2, ho2⟩ := sb1.keepM (g2.agr hM1)
  refine z_istore g dL_law__751 (by rw [hN]; decide) ?_
  refine z_aload_n g dL_law__753 rfl ?_
  refine z_callV g _ _ cv_L_138 (n_thr _ M2 hM2) hM2.k0 (by decide) rfl (by rw [hR]; decide) (by exact hcs) (by exact hss) (Nat.le_of_ble_eq_true rfl) rfl dL_law__754 (fun _ _ h => False.elim h) (fun r_3 M_3 h_3 => ?_)
  obtain ⟨rfl, rfl⟩ := h_3
  rw [gi_opS (fun _ => z_Lawc)]
  refine z_iload g dL_law__757 rfl ?_
  refine z_icmp_eq (tgt := 764) g dL_law__759 (by decide) (fun _ => ?_) (fun h => absurd rfl h)
  refine z_iload g dL_law__764 rfl ?_
  refine z_if_ne (tgt := 781) g dL_law__766 (by decide) (fun hc_ => ?_) (fun hc_ => ?_)
  · refine z_goto (tgt := 2707) g dL_law__781 (by decide) ?_
    exact z_to (kk _ ⟨_, _, hX2, hM2, hV2, sb2⟩) ⟨rfl, rfl, rfl, rfl, rfl, trivial⟩
  have hv_ := hans hc_
  have hw_ := ho2.trans hv_
  rw [opV_z hc_]
  refine z_aload_n g dL_law__769 rfl ?_
  refine z_iconst (v := 0) g dL_law__770 (by decide) ?_
  refine z_laldk (k := 290) g (by rw [sb2.1]) (by decide) (by rw [sb2.2]; exact in01) dL_law__771 ?_
  rw [show (0 : Int32).toNatClampNeg = 0 from rfl, hw_]
  refine z_iload g dL_law__772 rfl ?_
  refine z_i2l g dL_law__774 ?_
  refine z_lcmp g dL_law__775 ?_
  refine z_if_eq (tgt := 781) g dL_law__776 (by decide) (fun _ => ?_) (fun h => absurd ((lg_cmp_eq _ _).mpr rfl) h)
  refine z_goto (tgt := 2707) g dL_law__781 (by decide) ?_
  exact z_to (kk _ ⟨_, _, hX2, hM2, hV2, sb2⟩) ⟨rfl, rfl, rfl, rfl, rfl, trivial⟩
set_option maxHeartbeats 4000000 in
set_option maxRecDepth 100000 in
theorem lc_7 {X : Cx} {A : Nat → Nat} {b x m o L i cs sl : Nat} {xs : Nat → Int32} {M : Mm} (g : Gd X cL_law_ RL) (hN : xN X = 8) (hR : xR X = room_1) (hL : L ≤ 3072) (hi : 6 * i + 6 ≤ L) (hcs : cs + 16 ≤ (xR X).cells) (hss : sl + 500 ≤ (xR X).slots) (hSc : ScX X b L xs) (hLI : LI A x m o M)
    (kk : ∀ M', LI A x m o M' → Z X M' (cs + 16) (sl + 500) 2707 [(0, .ref b), (1, .ref x), (2, .ref m), (3, .ref o), (4, .int (nI (6 * i)))] []) : Z X M cs sl 784 [(0, .ref b), (1, .ref x), (2, .ref m), (3, .ref o), (4, .int (nI (6 * i)))] [] := by
  obtain ⟨S, B, hX, hM, hV, sb⟩ := hLI
  refine z_aload_n g dL_law__784 rfl ?_
  refine z_aload_n g dL_law__785 rfl ?_
  refine z_iload g dL_law__786 rfl ?_
  refine z_iconst (v := 1) g dL_law__788 (by decide) ?_
  refine z_iadd g dL_law__789 ?_
  rw [nI_l1]
  refine z_sld g hSc (vp_in_nI (by omega) (by omega)) dL_law__790 ?_
  rw [nI_clamp (show 6 * i + 1 < 2 ^ 31 by omega)]
  refine z_aload_n g dL_law__791 rfl ?_
  refine z_iload g dL_law__792 rfl ?_
  refine z_iconst (v := 2) g dL_law__794 (by decide) ?_
  refine z_iadd g dL_law__795 ?_
  rw [nI_l2]
  refine z_sld g hSc (vp_in_nI (by omega) (by omega)) dL_law__796 ?_
  rw [nI_clamp (show 6 * i + 2 < 2 ^ 31 by omega)]
  refine z_aload_n g dL_law__797 rfl ?_
  refine z_iload g dL_law__798 rfl ?_
  refine z_iconst (v := 3) g dL_law__800 (by decide) ?_
  refine z_iadd g dL_law__801 ?_
  rw [nI_l3]
  refine z_sld g hSc (vp_in_nI (by omega) (by omega)) dL_law__802 ?_
  rw [nI_clamp (show 6 * i + 3 < 2 ^ 31 by omega)]
  refine z_callSH g _ _ csh_L_except (w_except _ M hX hV _ _ _) rfl (by rw [hR]; decide) (by exact hcs) (by exact hss) (Nat.le_of_ble_eq_true rfl) rfl dL_law__803 (fun _ _ h => False.elim h) (fun r_1 M1 h_1 => ?_)
  obtain ⟨rfl, g1, B1, hX1⟩ := h_1
  have hM1 := hM.agr g1 (fun c k z => TM_TL z)
  have sb1 := sb.keepL g1
  refine z_istore g dL_law__806 (by rw [hN]; decide) ?_
  refine z_aload_n g dL_law__808 rfl ?_
  refine z_aload_n g dL_law__809 rfl ?_
  refine z_iload g dL_law__810 rfl ?_
  refine z_iconst (v := 1) g dL_law__812 (by decide) ?_
  refine z_iadd g dL_law__813 ?_
  rw [nI_l1]
  refine z_sld g hSc (vp_in_nI (by omega) (by omega)) dL_law__814 ?_
  rw [nI_clamp (show 6 * i + 1 < 2 ^ 31 by omega)]
  refine z_aload_n g dL_law__815 rfl ?_
  refine z_iload g dL_law__816 rfl ?_
  refine z_iconst (v := 2) g dL_law__818 (by decide) ?_
  refine z_iadd g dL_law__819 ?_
  rw [nI_l2]
  refine z_sld g hSc (vp_in_nI (by omega) (by omega)) dL_law__820 ?_
  rw [nI_clamp (show 6 * i + 2 < 2 ^ 31 by omega)]
  refine z_aload_n g dL_law__821 rfl ?_
  refine z_iload g dL_law__822 rfl ?_
  refine z_iconst (v := 3) g dL_law__824 (by decide) ?_
  refine z_iadd g dL_law__825 ?_
  rw [nI_l3]
  refine z_sld g hSc (vp_in_nI (by omega) (by omega)) dL_law__826 ?_
  rw [nI_clamp (show 6 * i + 3 < 2 ^ 31 by omega)]
  refine z_callV g _ _ cv_L_169 (m_except _ M1 hM1 hV _ _ _) hM1.k0 (by decide) rfl (by rw [hR]; decide) (by exact hcs) (by exact hss) (Nat.le_of_ble_eq_true rfl) rfl dL_law__827 (fun _ _ h => False.elim h) (fun r_2 M2 h_2 => ?_)
  obtain ⟨rfl, hM2, g2⟩ := h_2
  obtain ⟨hV2, hX2⟩ := lwstp hX1 hM1 g2 (opS_INV hV (fun h => I_Except hV h))
  obtain ⟨sb2, ho2⟩ := sb1.keepM (g2.agr hM1)
  refine z_aload_n g dL_law__830 rfl ?_
  refine z_callV g _ _ cv_L_138 (n_thr _ M2 hM2) hM2.k0 (by decide) rfl (by rw [hR]; decide) (by exact hcs) (by exact hss) (Nat.le_of_ble_eq_true rfl) rfl dL_law__831 (fun _ _ h => False.elim h) (fun r_3 M_3 h_3 => ?_)
  obtain ⟨rfl, rfl⟩ := h_3
  rw [gi_opS (fun _ => z_Except)]
  refine z_iload g dL_law__834 rfl ?_
  refine z_icmp_eq (tgt := 841) g dL_law__836 (by decide) (fun _ => ?_) (fun h => absurd rfl h)
  refine z_goto (tgt := 2707) g dL_law__841 (by decide) ?_
  exact z_to (kk _ ⟨_, _, hX2, hM2, hV2, sb2⟩) ⟨rfl, rfl, rfl, rfl, rfl, trivial⟩
set_option maxHeartbeats 4000000 in
set_option maxRecDepth 100000 in
theorem lc_8 {X : Cx} {A : Nat → Nat} {b x m o L i cs sl : Nat} {xs : Nat → Int32} {M : Mm} (g : Gd X cL_law_ RL) (hN : xN X = 8) (hR : xR X = room_1) (hL : L ≤ 3072) (hi : 6 * i + 6 ≤ L) (hcs : cs + 16 ≤ (xR X).cells) (hss : sl + 500 ≤ (xR X).slots) (hSc : ScX X b L xs) (hLI : LI A x m o M)
    (kk : ∀ M', LI A x m o M' → Z X M' (cs + 16) (sl + 500) 2707 [(0, .ref b), (1, .ref x), (2, .ref m), (3, .ref o), (4, .int (nI (6 * i)))] []) : Z X M cs sl 844 [(0, .ref b), (1, .ref x), (2, .ref m), (3, .ref o), (4, .int (nI (6 * i)))] [] := by
  obtain ⟨S, B, hX, hM, hV, sb⟩ := hLI
  refine z_aload_n g dL_law__844 rfl ?_
  refine z_aload_n g dL_law__845 rfl ?_
  refine z_iload g dL_law__846 rfl ?_
  refine z_iconst (v := 1) g dL_law__848 (by decide) ?_
  refine z_iadd g dL_law__849 ?_
  rw [nI_l1]
  refine z_sld g hSc (vp_in_nI (by omega) (by omega)) dL_law__850 ?_
  rw [nI_clamp (show 6 * i + 1 < 2 ^ 31 by omega)]
  refine z_aload_n g dL_law__851 rfl ?_
  refine z_iload g dL_law__852 rfl ?_
  refine z_iconst (v := 2) g dL_law__854 (by decide) ?_
  refine z_iadd g dL_law__855 ?_
  rw [nI_l2]
  refine z_sld g hSc (vp_in_nI (by omega) (by omega)) dL_law__856 ?_
  rw [nI_clamp (show 6 * i + 2 < 2 ^ 31 by omega)]
  refine z_aload_n g dL_law__857 rfl ?_
  refine z_iload g dL_law__858 rfl ?_
  refine z_iconst (v := 3) g dL_law__860 (by decide) ?_
  refine z_iadd g dL_law__861 ?_
  rw [nI_l3]
  refine z_sld g hSc (vp_in_nI (by omega) (by omega)) dL_law__862 ?_
  rw [nI_clamp (show 6 * i + 3 < 2 ^ 31 by omega)]
  refine z_aload_n g dL_law__863 rfl ?_
  refine z_iload g dL_law__864 rfl ?_
  refine z_iconst (v := 4) g dL_law__866 (by decide) ?_
  refine z_iadd g dL_law__867 ?_
  rw [nI_l4]
  refine z_sld g hSc (vp_in_nI (by omega) (by omega)) dL_law__868 ?_
  rw [nI_clamp (show 6 * i + 4 < 2 ^ 31 by omega)]
  refine z_aload_n g dL_law__869 rfl ?_
  refine z_callSH g _ _ csh_L_form (w_form _ M hX hV o sb.1 sb.2 _ _ _ _) rfl (by rw [hR]; decide) (by exact hcs) (by exact hss) (Nat.le_of_ble_eq_true rfl) rfl dL_law__870 (fun _ _ h => False.elim h) (fun r_1 M1 h_1 => ?_)
  obtain ⟨rfl, hans, g1, B1, hX1⟩ := h_1
  have hM1 := hM.agr g1 (fun c k z => TM_TL z)
  have sb1 := sb.keepL g1
  refine z_istore g dL_law__873 (by rw [hN]; decide) ?_
  refine z_aload_n g dL_law__875 rfl ?_
  refine z_aload_n g dL_law__876 rfl ?_
  refine z_iload g dL_law__877 rfl ?_
  refine z_iconst (v := 1) g dL_law__879 (by decide) ?_
  refine z_iadd g dL_law__880 ?_
  rw [nI_l1]
  refine z_sld g hSc (vp_in_nI (by omega) (by omega)) dL_law__881 ?_
  rw [nI_clamp (show 6 * i + 1 < 2 ^ 31 by omega)]
  refine z_aload_n g dL_law__882 rfl ?_
  refine z_iload g dL_law__883 rfl ?_
  refine z_iconst (v := 2) g dL_law__885 (by decide) ?_
  refine z_iadd g dL_law__886 ?_
  rw [nI_l2]
  refine z_sld g hSc (vp_in_nI (by omega) (by omega)) dL_law__887 ?_
  rw [nI_clamp (show 6 * i + 2 < 2 ^ 31 by omega)]
  refine z_aload_n g dL_law__888 rfl ?_
  refine z_iload g dL_law__889 rfl ?_
  refine z_iconst (v := 3) g dL_law__891 (by decide) ?_
  refine z_iadd g dL_law__892 ?_
  rw [nI_l3]
  refine z_sld g hSc (vp_in_nI (by omega) (by omega)) dL_law__893 ?_
  rw [nI_clamp (show 6 * i + 3 < 2 ^ 31 by omega)]
  refine z_aload_n g dL_law__894 rfl ?_
  refine z_iload g dL_law__895 rfl ?_
  refine z_iconst (v := 4) g dL_law__897 (by decide) ?_
  refine z_iadd g dL_law__898 ?_
  rw [nI_l4]
  refine z_sld g hSc (vp_in_nI (by omega) (by omega)) dL_law__899 ?_
  rw [nI_clamp (show 6 * i + 4 < 2 ^ 31 by omega)]
  refine z_callV g _ _ cv_L_172 (m_form _ M1 hM1 hV _ _ _ _) hM1.k0 (by decide) rfl (by rw [hR]; decide) (by exact hcs) (by exact hss) (Nat.le_of_ble_eq_true rfl) rfl dL_law__900 (fun _ _ h => False.elim h) (fun r_2 M2 h_2 => ?_)
  obtain ⟨rfl, hM2, g2⟩ := h_2
  obtain ⟨hV2, hX2⟩ := lwstp hX1 hM1 g2 (opS_INV hV (fun h => I_Form hV h))
  obtain ⟨sb2, ho2⟩ := sb1.keepM (g2.agr hM1)
  refine z_lstore g dL_law__903 (by rw [hN]; decide) ?_
  refine z_aload_n g dL_law__905 rfl ?_
  refine z_callV g _ _ cv_L_138 (n_thr _ M2 hM2) hM2.k0 (by decide) rfl (by rw [hR]; decide) (by exact hcs) (by exact hss) (Nat.le_of_ble_eq_true rfl) rfl dL_law__906 (fun _ _ h => False.elim h) (fun r_3 M_3 h_3 => ?_)
  obtain ⟨rfl, rfl⟩ := h_3
  rw [gi_opS (fun _ => z_Form)]
  refine z_iload g dL_law__909 rfl ?_
  refine z_icmp_eq (tgt := 916) g dL_law__911 (by decide) (fun _ => ?_) (fun h => absurd rfl h)
  refine z_iload g dL_law__916 rfl ?_
  refine z_if_ne (tgt := 932) g dL_law__918 (by decide) (fun hc_ => ?_) (fun hc_ => ?_)
  · refine z_goto (tgt := 2707) g dL_law__932 (by decide) ?_
    exact z_to (kk _ ⟨_, _, hX2, hM2, hV2, sb2⟩) ⟨rfl, rfl, rfl, rfl, rfl, trivial⟩
  have hv_ := hans hc_
  have hw_ := ho2.trans hv_
  rw [opV_z hc_]
  refine z_aload_n g dL_law__921 rfl ?_
  refine z_iconst (v := 0) g dL_law__922 (by decide) ?_
  refine z_laldk (k := 290) g (by rw [sb2.1]) (by decide) (by rw [sb2.2]; exact in01) dL_law__923 ?_
  rw [show (0 : Int32).toNatClampNeg = 0 from rfl, hw_]
  refine z_lload g dL_law__924 rfl ?_
  refine z_lcmp g dL_law__926 ?_
  refine z_if_eq (tgt := 932) g dL_law__927 (by decide) (fun _ => ?_) (fun h => absurd ((lg_cmp_eq _ _).mpr rfl) h)
  refine z_goto (tgt := 2707) g dL_law__932 (by decide) ?_
  exact z_to (kk _ ⟨_, _, hX2, hM2, hV2, sb2⟩) ⟨rfl, rfl, rfl, rfl, rfl, trivial⟩
set_option maxHeartbeats 4000000 in
set_option maxRecDepth 100000 in
theorem lc_9 {X : Cx} {A : Nat → Nat} {b x m o L i cs sl : Nat} {xs : Nat → Int32} {M : Mm} (g : Gd X cL_law_ RL) (hN : xN X = 8) (hR : xR X = room_1) (hL : L ≤ 3072) (hi : 6 * i + 6 ≤ L) (hcs : cs + 16 ≤ (xR X).cells) (hss : sl + 500 ≤ (xR X).slots) (hSc : ScX X b L xs) (hLI : LI A x m o M)
    (kk : ∀ M', LI A x m o M' → Z X M' (cs + 16) (sl + 500) 2707 [(0, .ref b), (1, .ref x), (2, .ref m), (3, .ref o), (4, .int (nI (6 * i)))] []) : Z X M cs sl 935 [(0, .ref b), (1, .ref x), (2, .ref m), (3, .ref o), (4, .int (nI (6 * i)))] [] := by
  obtain ⟨S, B, hX, hM, hV, sb⟩ := hLI
  refine z_aload_n g dL_law__935 rfl ?_
  refine z_aload_n g dL_law__936 rfl ?_
  refine z_iload g dL_law__937 rfl ?_
  refine z_iconst (v := 1) g dL_law__939 (by decide) ?_
  refine z_iadd g dL_law__940 ?_
  rw [nI_l1]
  refine z_sld g hSc (vp_in_nI (by omega) (by omega)) dL_law__941 ?_
  rw [nI_clamp (show 6 * i + 1 < 2 ^ 31 by omega)]
  refine z_aload_n g dL_law__942 rfl ?_
  refine z_iload g dL_law__943 rfl ?_
  refine z_iconst (v := 2) g dL_law__945 (by decide) ?_
  refine z_iadd g dL_law__946 ?_
  rw [nI_l2]
  refine z_sld g hSc (vp_in_nI (by omega) (by omega)) dL_law__947 ?_
  rw [nI_clamp (show 6 * i + 2 < 2 ^ 31 by omega)]
  refine z_aload_n g dL_law__948 rfl ?_
  refine z_iload g dL_law__949 rfl ?_
  refine z_iconst (v := 3) g dL_law__951 (by decide) ?_
  refine z_iadd g dL_law__952 ?_
  rw [nI_l3]
  refine z_sld g hSc (vp_in_nI (by omega) (by omega)) dL_law__953 ?_
  rw [nI_clamp (show 6 * i + 3 < 2 ^ 31 by omega)]
  refine z_i2l g dL_law__954 ?_
  refine z_bipush (v := 32) g dL_law__955 (by decide) ?_
  refine z_lshl g dL_law__957 ?_
  refine z_aload_n g dL_law__958 rfl ?_
  refine z_iload g dL_law__959 rfl ?_
  refine z_iconst (v := 4) g dL_law__961 (by decide) ?_
  refine z_iadd g dL_law__962 ?_
  rw [nI_l4]
  refine z_sld g hSc (vp_in_nI (by omega) (by omega)) dL_law__963 ?_
  rw [nI_clamp (show 6 * i + 4 < 2 ^ 31 by omega)]
  refine z_i2l g dL_law__964 ?_
  refine z_ldc2 g dL_law__965 kc_L_157 ?_
  refine z_land g dL_law__968 ?_
  refine z_lor g dL_law__969 ?_
  refine z_aload_n g dL_law__970 rfl ?_
  refine z_iload g dL_law__971 rfl ?_
  refine z_iconst (v := 5) g dL_law__973 (by decide) ?_
  refine z_iadd g dL_law__974 ?_
  rw [nI_l5]
  refine z_sld g hSc (vp_in_nI (by omega) (by omega)) dL_law__975 ?_
  rw [nI_clamp (show 6 * i + 5 < 2 ^ 31 by omega)]
  refine z_aload_n g dL_law__976 rfl ?_
  refine z_callSH g _ _ csh_L_petition (w_petition _ M hX hV o sb.1 sb.2 _ _ _ _) rfl (by rw [hR]; decide) (by exact hcs) (by exact hss) (Nat.le_of_ble_eq_true rfl) rfl dL_law__977 (fun _ _ h => False.elim h) (fun r_1 M1 h_1 => ?_)
  obtain ⟨rfl, hans, g1, B1, hX1⟩ := h_1
  have hM1 := hM.agr g1 (fun c k z => TM_TL z)
  have sb1 := sb.keepL g1
  refine z_istore g dL_law__980 (by rw [hN]; decide) ?_
  refine z_aload_n g dL_law__982 rfl ?_
  refine z_aload_n g dL_law__983 rfl ?_
  refine z_iload g dL_law__984 rfl ?_
  refine z_iconst (v := 1) g dL_law__986 (by decide) ?_
  refine z_iadd g dL_law__987 ?_
  rw [nI_l1]
  refine z_sld g hSc (vp_in_nI (by omega) (by omega)) dL_law__988 ?_
  rw [nI_clamp (show 6 * i + 1 < 2 ^ 31 by omega)]
  refine z_aload_n g dL_law__989 rfl ?_
  refine z_iload g dL_law__990 rfl ?_
  refine z_iconst (v := 2) g dL_law__992 (by decide) ?_
  refine z_iadd g dL_law__993 ?_
  rw [nI_l2]
  refine z_sld g hSc (vp_in_nI (by omega) (by omega)) dL_law__994 ?_
  rw [nI_clamp (show 6 * i + 2 < 2 ^ 31 by omega)]
  refine z_aload_n g dL_law__995 rfl ?_
  refine z_iload g dL_law__996 rfl ?_
  refine z_iconst (v := 3) g dL_law__998 (by decide) ?_
  refine z_iadd g dL_law__999 ?_
  rw [nI_l3]
  refine z_sld g hSc (vp_in_nI (by omega) (by omega)) dL_law__1000 ?_
  rw [nI_clamp (show 6 * i + 3 < 2 ^ 31 by omega)]
  refine z_i2l g dL_law__1001 ?_
  refine z_bipush (v := 32) g dL_law__1002 (by decide) ?_
  refine z_lshl g dL_law__1004 ?_
  refine z_aload_n g dL_law__1005 rfl ?_
  refine z_iload g dL_law__1006 rfl ?_
  refine z_iconst (v := 4) g dL_law__1008 (by decide) ?_
  refine z_iadd g dL_law__1009 ?_
  rw [nI_l4]
  refine z_sld g hSc (vp_in_nI (by omega) (by omega)) dL_law__1010 ?_
  rw [nI_clamp (show 6 * i + 4 < 2 ^ 31 by omega)]
  refine z_i2l g dL_law__1011 ?_
  refine z_ldc2 g dL_law__1012 kc_L_157 ?_
  refine z_land g dL_law__1015 ?_
  refine z_lor g dL_law__1016 ?_
  refine z_aload_n g dL_law__1017 rfl ?_
  refine z_iload g dL_law__1018 rfl ?_
  refine z_iconst (v := 5) g dL_law__1020 (by decide) ?_
  refine z_iadd g dL_law__1021 ?_
  rw [nI_l5]
  refine z_sld g hSc (vp_in_nI (by omega) (by omega)) dL_law__1022 ?_
  rw [nI_clamp (show 6 * i + 5 < 2 ^ 31 by omega)]
  refine z_callV g _ _ cv_L_175 (m_petition _ M1 hM1 hV _ _ _ _) hM1.k0 (by decide) rfl (by rw [hR]; decide) (by exact hcs) (by exact hss) (Nat.le_of_ble_eq_true rfl) rfl dL_law__1023 (fun _ _ h => False.elim h) (fun r_2 M2 h_2 => ?_)
  obtain ⟨rfl, hM2, g2⟩ := h_2
  obtain ⟨hV2, hX2⟩ := lwstp hX1 hM1 g2 (opS_INV hV (fun h => I_Petition hV h))
  obtain ⟨sb2, ho2⟩ := sb1.keepM (g2.agr hM1)
  refine z_istore g dL_law__1026 (by rw [hN]; decide) ?_
  refine z_aload_n g dL_law__1028 rfl ?_
  refine z_callV g _ _ cv_L_138 (n_thr _ M2 hM2) hM2.k0 (by decide) rfl (by rw [hR]; decide) (by exact hcs) (by exact hss) (Nat.le_of_ble_eq_true rfl) rfl dL_law__1029 (fun _ _ h => False.elim h) (fun r_3 M_3 h_3 => ?_)
  obtain ⟨rfl, rfl⟩ := h_3
  rw [gi_opS (fun _ => z_Petition)]
  refine z_iload g dL_law__1032 rfl ?_
  refine z_icmp_eq (tgt := 1039) g dL_law__1034 (by decide) (fun _ => ?_) (fun h => absurd rfl h)
  refine z_iload g dL_law__1039 rfl ?_
  refine z_if_ne (tgt := 1056) g dL_law__1041 (by decide) (fun hc_ => ?_) (fun hc_ => ?_)
  · refine z_goto (tgt := 2707) g dL_law__1056 (by decide) ?_
    exact z_to (kk _ ⟨_, _, hX2, hM2, hV2, sb2⟩) ⟨rfl, rfl, rfl, rfl, rfl, trivial⟩
  have hv_ := hans hc_
  have hw_ := ho2.trans hv_
  rw [opV_z hc_]
  refine z_aload_n g dL_law__1044 rfl ?_
  refine z_iconst (v := 0) g dL_law__1045 (by decide) ?_
  refine z_laldk (k := 290) g (by rw [sb2.1]) (by decide) (by rw [sb2.2]; exact in01) dL_law__1046 ?_
  rw [show (0 : Int32).toNatClampNeg = 0 from rfl, hw_]
  refine z_iload g dL_law__1047 rfl ?_
  refine z_i2l g dL_law__1049 ?_
  refine z_lcmp g dL_law__1050 ?_
  refine z_if_eq (tgt := 1056) g dL_law__1051 (by decide) (fun _ => ?_) (fun h => absurd ((lg_cmp_eq _ _).mpr rfl) h)
  refine z_goto (tgt := 2707) g dL_law__1056 (by decide) ?_
  exact z_to (kk _ ⟨_, _, hX2, hM2, hV2, sb2⟩) ⟨rfl, rfl, rfl, rfl, rfl, trivial⟩
set_option maxHeartbeats 4000000 in
set_option maxRecDepth 100000 in
theorem lc_10 {X : Cx} {A : Nat → Nat} {b x m o L i cs sl : Nat} {xs : Nat → Int32} {M : Mm} (g : Gd X cL_law_ RL) (hN : xN X = 8) (hR : xR X = room_1) (hL : L ≤ 3072) (hi : 6 * i + 6 ≤ L) (hcs : cs + 16 ≤ (xR X).cells) (hss : sl + 500 ≤ (xR X).slots) (hSc : ScX X b L xs) (hLI : LI A x m o M)
    (kk : ∀ M', LI A x m o M' → Z X M' (cs + 16) (sl + 500) 2707 [(0, .ref b), (1, .ref x), (2, .ref m), (3, .ref o), (4, .int (nI (6 * i)))] []) : Z X M cs sl 1059 [(0, .ref b), (1, .ref x), (2, .ref m), (3, .ref o), (4, .int (nI (6 * i)))] [] := by
  obtain ⟨S, B, hX, hM, hV, sb⟩ := hLI
  refine z_aload_n g dL_law__1059 rfl ?_
  refine z_aload_n g dL_law__1060 rfl ?_
  refine z_iload g dL_law__1061 rfl ?_
  refine z_iconst (v := 1) g dL_law__1063 (by decide) ?_
  refine z_iadd g dL_law__1064 ?_
  rw [nI_l1]
  refine z_sld g hSc (vp_in_nI (by omega) (by omega)) dL_law__1065 ?_
  rw [nI_clamp (show 6 * i + 1 < 2 ^ 31 by omega)]
  refine z_aload_n g dL_law__1066 rfl ?_
  refine z_iload g dL_law__1067 rfl ?_
  refine z_iconst (v := 2) g dL_law__1069 (by decide) ?_
  refine z_iadd g dL_law__1070 ?_
  rw [nI_l2]
  refine z_sld g hSc (vp_in_nI (by omega) (by omega)) dL_law__1071 ?_
  rw [nI_clamp (show 6 * i + 2 < 2 ^ 31 by omega)]
  refine z_aload_n g dL_law__1072 rfl ?_
  refine z_iload g dL_law__1073 rfl ?_
  refine z_iconst (v := 3) g dL_law__1075 (by decide) ?_
  refine z_iadd g dL_law__1076 ?_
  rw [nI_l3]
  refine z_sld g hSc (vp_in_nI (by omega) (by omega)) dL_law__1077 ?_
  rw [nI_clamp (show 6 * i + 3 < 2 ^ 31 by omega)]
  refine z_if_eq (tgt := 1085) g dL_law__1078 (by decide) (fun cb => ?_) (fun cb => ?_)
  · refine z_iconst (v := 0) g dL_law__1085 (by decide) ?_
    refine z_aload_n g dL_law__1086 rfl ?_
    refine z_callSH g _ _ csh_L_vote (w_vote _ M hX hV o sb.1 sb.2 _ _ _) rfl (by rw [hR]; decide) (by exact hcs) (by exact hss) (Nat.le_of_ble_eq_true rfl) rfl dL_law__1087 (fun _ _ h => False.elim h) (fun r_1 M1 h_1 => ?_)
    obtain ⟨rfl, hans, g1, B1, hX1⟩ := h_1
    have hM1 := hM.agr g1 (fun c k z => TM_TL z)
    have sb1 := sb.keepL g1
    refine z_istore g dL_law__1090 (by rw [hN]; decide) ?_
    refine z_aload_n g dL_law__1092 rfl ?_
    refine z_aload_n g dL_law__1093 rfl ?_
    refine z_iload g dL_law__1094 rfl ?_
    refine z_iconst (v := 1) g dL_law__1096 (by decide) ?_
    refine z_iadd g dL_law__1097 ?_
    rw [nI_l1]
    refine z_sld g hSc (vp_in_nI (by omega) (by omega)) dL_law__1098 ?_
    rw [nI_clamp (show 6 * i + 1 < 2 ^ 31 by omega)]
    refine z_aload_n g dL_law__1099 rfl ?_
    refine z_iload g dL_law__1100 rfl ?_
    refine z_iconst (v := 2) g dL_law__1102 (by decide) ?_
    refine z_iadd g dL_law__1103 ?_
    rw [nI_l2]
    refine z_sld g hSc (vp_in_nI (by omega) (by omega)) dL_law__1104 ?_
    rw [nI_clamp (show 6 * i + 2 < 2 ^ 31 by omega)]
    refine z_aload_n g dL_law__1105 rfl ?_
    refine z_iload g dL_law__1106 rfl ?_
    refine z_iconst (v := 3) g dL_law__1108 (by decide) ?_
    refine z_iadd g dL_law__1109 ?_
    rw [nI_l3]
    refine z_sld g hSc (vp_in_nI (by omega) (by omega)) dL_law__1110 ?_
    rw [nI_clamp (show 6 * i + 3 < 2 ^ 31 by omega)]
    refine z_if_eq (tgt := 1118) g dL_law__1111 (by decide) (fun _ => ?_) (fun h => absurd cb h)
    refine z_iconst (v := 0) g dL_law__1118 (by decide) ?_
    refine z_callV g _ _ cv_L_179 (m_vote _ M1 hM1 hV _ _ _) hM1.k0 (by decide) rfl (by rw [hR]; decide) (by exact hcs) (by exact hss) (Nat.le_of_ble_eq_true rfl) rfl dL_law__1119 (fun _ _ h => False.elim h) (fun r_2 M2 h_2 => ?_)
    obtain ⟨rfl, hM2, g2⟩ := h_2
    obtain ⟨hV2, hX2⟩ := lwstp hX1 hM1 g2 (opS_INV hV (fun h => I_Vote hV h))
    obtain ⟨sb2, ho2⟩ := sb1.keepM (g2.agr hM1)
    refine z_istore g dL_law__1122 (by rw [hN]; decide) ?_
    refine z_aload_n g dL_law__1124 rfl ?_
    refine z_callV g _ _ cv_L_138 (n_thr _ M2 hM2) hM2.k0 (by decide) rfl (by rw [hR]; decide) (by exact hcs) (by exact hss) (Nat.le_of_ble_eq_true rfl) rfl dL_law__1125 (fun _ _ h => False.elim h) (fun r_3 M_3 h_3 => ?_)
    obtain ⟨rfl, rfl⟩ := h_3
    rw [gi_opS (fun _ => z_Vote)]
    refine z_iload g dL_law__1128 rfl ?_
    refine z_icmp_eq (tgt := 1135) g dL_law__1130 (by decide) (fun _ => ?_) (fun h => absurd rfl h)
    refine z_iload g dL_law__1135 rfl ?_
    refine z_if_ne (tgt := 1152) g dL_law__1137 (by decide) (fun hc_ => ?_) (fun hc_ => ?_)
    · refine z_goto (tgt := 2707) g dL_law__1152 (by decide) ?_
      exact z_to (kk _ ⟨_, _, hX2, hM2, hV2, sb2⟩) ⟨rfl, rfl, rfl, rfl, rfl, trivial⟩
    have hv_ := hans hc_
    have hw_ := ho2.trans hv_
    rw [opV_z hc_]
    refine z_aload_n g dL_law__1140 rfl ?_
    refine z_iconst (v := 0) g dL_law__1141 (by decide) ?_
    refine z_laldk (k := 290) g (by rw [sb2.1]) (by decide) (by rw [sb2.2]; exact in01) dL_law__1142 ?_
    rw [show (0 : Int32).toNatClampNeg = 0 from rfl, hw_]
    refine z_iload g dL_law__1143 rfl ?_
    refine z_i2l g dL_law__1145 ?_
    refine z_lcmp g dL_law__1146 ?_
    refine z_if_eq (tgt := 1152) g dL_law__1147 (by decide) (fun _ => ?_) (fun h => absurd ((lg_cmp_eq _ _).mpr rfl) h)
    refine z_goto (tgt := 2707) g dL_law__1152 (by decide) ?_
    exact z_to (kk _ ⟨_, _, hX2, hM2, hV2, sb2⟩) ⟨rfl, rfl, rfl, rfl, rfl, trivial⟩
  · refine z_iconst (v := 1) g dL_law__1081 (by decide) ?_
    refine z_goto (tgt := 1086) g dL_law__1082 (by decide) ?_
    refine z_aload_n g dL_law__1086 rfl ?_
    refine z_callSH g _ _ csh_L_vote (w_vote _ M hX hV o sb.1 sb.2 _ _ _) rfl (by rw [hR]; decide) (by exact hcs) (by exact hss) (Nat.le_of_ble_eq_true rfl) rfl dL_law__1087 (fun _ _ h => False.elim h) (fun r_1 M1 h_1 => ?_)
    obtain ⟨rfl, hans, g1, B1, hX1⟩ := h_1
    have hM1 := hM.agr g1 (fun c k z => TM_TL z)
    have sb1 := sb.keepL g1
    refine z_istore g dL_law__1090 (by rw [hN]; decide) ?_
    refine z_aload_n g dL_law__1092 rfl ?_
    refine z_aload_n g dL_law__1093 rfl ?_
    refine z_iload g dL_law__1094 rfl ?_
    refine z_iconst (v := 1) g dL_law__1096 (by decide) ?_
    refine z_iadd g dL_law__1097 ?_
    rw [nI_l1]
    refine z_sld g hSc (vp_in_nI (by omega) (by omega)) dL_law__1098 ?_
    rw [nI_clamp (show 6 * i + 1 < 2 ^ 31 by omega)]
    refine z_aload_n g dL_law__1099 rfl ?_
    refine z_iload g dL_law__1100 rfl ?_
    refine z_iconst (v := 2) g dL_law__1102 (by decide) ?_
    refine z_iadd g dL_law__1103 ?_
    rw [nI_l2]
    refine z_sld g hSc (vp_in_nI (by omega) (by omega)) dL_law__1104 ?_
    rw [nI_clamp (show 6 * i + 2 < 2 ^ 31 by omega)]
    refine z_aload_n g dL_law__1105 rfl ?_
    refine z_iload g dL_law__1106 rfl ?_
    refine z_iconst (v := 3) g dL_law__1108 (by decide) ?_
    refine z_iadd g dL_law__1109 ?_
    rw [nI_l3]
    refine z_sld g hSc (vp_in_nI (by omega) (by omega)) dL_law__1110 ?_
    rw [nI_clamp (show 6 * i + 3 < 2 ^ 31 by omega)]
    refine z_if_eq (tgt := 1118) g dL_law__1111 (by decide) (fun h => absurd h cb) (fun _ => ?_)
    refine z_iconst (v := 1) g dL_law__1114 (by decide) ?_
    refine z_goto (tgt := 1119) g dL_law__1115 (by decide) ?_
    refine z_callV g _ _ cv_L_179 (m_vote _ M1 hM1 hV _ _ _) hM1.k0 (by decide) rfl (by rw [hR]; decide) (by exact hcs) (by exact hss) (Nat.le_of_ble_eq_true rfl) rfl dL_law__1119 (fun _ _ h => False.elim h) (fun r_2 M2 h_2 => ?_)
    obtain ⟨rfl, hM2, g2⟩ := h_2
    obtain ⟨hV2, hX2⟩ := lwstp hX1 hM1 g2 (opS_INV hV (fun h => I_Vote hV h))
    obtain ⟨sb2, ho2⟩ := sb1.keepM (g2.agr hM1)
    refine z_istore g dL_law__1122 (by rw [hN]; decide) ?_
    refine z_aload_n g dL_law__1124 rfl ?_
    refine z_callV g _ _ cv_L_138 (n_thr _ M2 hM2) hM2.k0 (by decide) rfl (by rw [hR]; decide) (by exact hcs) (by exact hss) (Nat.le_of_ble_eq_true rfl) rfl dL_law__1125 (fun _ _ h => False.elim h) (fun r_3 M_3 h_3 => ?_)
    obtain ⟨rfl, rfl⟩ := h_3
    rw [gi_opS (fun _ => z_Vote)]
    refine z_iload g dL_law__1128 rfl ?_
    refine z_icmp_eq (tgt := 1135) g dL_law__1130 (by decide) (fun _ => ?_) (fun h => absurd rfl h)
    refine z_iload g dL_law__1135 rfl ?_
    refine z_if_ne (tgt := 1152) g dL_law__1137 (by decide) (fun hc_ => ?_) (fun hc_ => ?_)
    · refine z_goto (tgt := 2707) g dL_law__1152 (by decide) ?_
      exact z_to (kk _ ⟨_, _, hX2, hM2, hV2, sb2⟩) ⟨rfl, rfl, rfl, rfl, rfl, trivial⟩
    have hv_ := hans hc_
    have hw_ := ho2.trans hv_
    rw [opV_z hc_]
    refine z_aload_n g dL_law__1140 rfl ?_
    refine z_iconst (v := 0) g dL_law__1141 (by decide) ?_
    refine z_laldk (k := 290) g (by rw [sb2.1]) (by decide) (by rw [sb2.2]; exact in01) dL_law__1142 ?_
    rw [show (0 : Int32).toNatClampNeg = 0 from rfl, hw_]
    refine z_iload g dL_law__1143 rfl ?_
    refine z_i2l g dL_law__1145 ?_
    refine z_lcmp g dL_law__1146 ?_
    refine z_if_eq (tgt := 1152) g dL_law__1147 (by decide) (fun _ => ?_) (fun h => absurd ((lg_cmp_eq _ _).mpr rfl) h)
    refine z_goto (tgt := 2707) g dL_law__1152 (by decide) ?_
    exact z_to (kk _ ⟨_, _, hX2, hM2, hV2, sb2⟩) ⟨rfl, rfl, rfl, rfl, rfl, trivial⟩
set_option maxHeartbeats 4000000 in
set_option maxRecDepth 100000 in
theorem lc_11 {X : Cx} {A : Nat → Nat} {b x m o L i cs sl : Nat} {xs : Nat → Int32} {M : Mm} (g : Gd X cL_law_ RL) (hN : xN X = 8) (hR : xR X = room_1) (hL : L ≤ 3072) (hi : 6 * i + 6 ≤ L) (hcs : cs + 16 ≤ (xR X).cells) (hss : sl + 500 ≤ (xR X).slots) (hSc : ScX X b L xs) (hLI : LI A x m o M)
    (kk : ∀ M', LI A x m o M' → Z X M' (cs + 16) (sl + 500) 2707 [(0, .ref b), (1, .ref x), (2, .ref m), (3, .ref o), (4, .int (nI (6 * i)))] []) : Z X M cs sl 1155 [(0, .ref b), (1, .ref x), (2, .ref m), (3, .ref o), (4, .int (nI (6 * i)))] [] := by
  obtain ⟨S, B, hX, hM, hV, sb⟩ := hLI
  refine z_aload_n g dL_law__1155 rfl ?_
  refine z_aload_n g dL_law__1156 rfl ?_
  refine z_iload g dL_law__1157 rfl ?_
  refine z_iconst (v := 1) g dL_law__1159 (by decide) ?_
  refine z_iadd g dL_law__1160 ?_
  rw [nI_l1]
  refine z_sld g hSc (vp_in_nI (by omega) (by omega)) dL_law__1161 ?_
  rw [nI_clamp (show 6 * i + 1 < 2 ^ 31 by omega)]
  refine z_aload_n g dL_law__1162 rfl ?_
  refine z_iload g dL_law__1163 rfl ?_
  refine z_iconst (v := 2) g dL_law__1165 (by decide) ?_
  refine z_iadd g dL_law__1166 ?_
  rw [nI_l2]
  refine z_sld g hSc (vp_in_nI (by omega) (by omega)) dL_law__1167 ?_
  rw [nI_clamp (show 6 * i + 2 < 2 ^ 31 by omega)]
  refine z_aload_n g dL_law__1168 rfl ?_
  refine z_callSH g _ _ csh_L_protest (w_protest _ M hX hV o sb.1 sb.2 _ _) rfl (by rw [hR]; decide) (by exact hcs) (by exact hss) (Nat.le_of_ble_eq_true rfl) rfl dL_law__1169 (fun _ _ h => False.elim h) (fun r_1 M1 h_1 => ?_)
  obtain ⟨rfl, hans, g1, B1, hX1⟩ := h_1
  have hM1 := hM.agr g1 (fun c k z => TM_TL z)
  have sb1 := sb.keepL g1
  refine z_istore g dL_law__1172 (by rw [hN]; decide) ?_
  refine z_aload_n g dL_law__1174 rfl ?_
  refine z_aload_n g dL_law__1175 rfl ?_
  refine z_iload g dL_law__1176 rfl ?_
  refine z_iconst (v := 1) g dL_law__1178 (by decide) ?_
  refine z_iadd g dL_law__1179 ?_
  rw [nI_l1]
  refine z_sld g hSc (vp_in_nI (by omega) (by omega)) dL_law__1180 ?_
  rw [nI_clamp (show 6 * i + 1 < 2 ^ 31 by omega)]
  refine z_aload_n g dL_law__1181 rfl ?_
  refine z_iload g dL_law__1182 rfl ?_
  refine z_iconst (v := 2) g dL_law__1184 (by decide) ?_
  refine z_iadd g dL_law__1185 ?_
  rw [nI_l2]
  refine z_sld g hSc (vp_in_nI (by omega) (by omega)) dL_law__1186 ?_
  rw [nI_clamp (show 6 * i + 2 < 2 ^ 31 by omega)]
  refine z_callV g _ _ cv_L_183 (m_protest _ M1 hM1 hV _ _) hM1.k0 (by decide) rfl (by rw [hR]; decide) (by exact hcs) (by exact hss) (Nat.le_of_ble_eq_true rfl) rfl dL_law__1187 (fun _ _ h => False.elim h) (fun r_2 M2 h_2 => ?_)
  obtain ⟨rfl, hM2, g2⟩ := h_2
  obtain ⟨hV2, hX2⟩ := lwstp hX1 hM1 g2 (opS_INV hV (fun h => I_Protest hV h))
  obtain ⟨sb2, ho2⟩ := sb1.keepM (g2.agr hM1)
  refine z_istore g dL_law__1190 (by rw [hN]; decide) ?_
  refine z_aload_n g dL_law__1192 rfl ?_
  refine z_callV g _ _ cv_L_138 (n_thr _ M2 hM2) hM2.k0 (by decide) rfl (by rw [hR]; decide) (by exact hcs) (by exact hss) (Nat.le_of_ble_eq_true rfl) rfl dL_law__1193 (fun _ _ h => False.elim h) (fun r_3 M_3 h_3 => ?_)
  obtain ⟨rfl, rfl⟩ := h_3
  rw [gi_opS (fun _ => z_Protest)]
  refine z_iload g dL_law__1196 rfl ?_
  refine z_icmp_eq (tgt := 1203) g dL_law__1198 (by decide) (fun _ => ?_) (fun h => absurd rfl h)
  refine z_iload g dL_law__1203 rfl ?_
  refine z_if_ne (tgt := 1227) g dL_law__1205 (by decide) (fun hc_ => ?_) (fun hc_ => ?_)
  · refine z_goto (tgt := 2707) g dL_law__1227 (by decide) ?_
    exact z_to (kk _ ⟨_, _, hX2, hM2, hV2, sb2⟩) ⟨rfl, rfl, rfl, rfl, rfl, trivial⟩
  have hv_ := hans hc_
  have hw_ := ho2.trans hv_
  rw [opV_z hc_]
  refine z_aload_n g dL_law__1208 rfl ?_
  refine z_iconst (v := 0) g dL_law__1209 (by decide) ?_
  refine z_laldk (k := 290) g (by rw [sb2.1]) (by decide) (by rw [sb2.2]; exact in01) dL_law__1210 ?_
  rw [show (0 : Int32).toNatClampNeg = 0 from rfl, hw_]
  refine z_iload g dL_law__1211 rfl ?_
  refine z_if_eq (tgt := 1220) g dL_law__1213 (by decide) (fun cb_ => ?_) (fun cb_ => ?_)
  · have hb_ := b2i_0.mp cb_
    rw [hb_]
    refine z_lconst (v := 0) g dL_law__1220 (by decide) ?_
    refine z_lcmp g dL_law__1221 ?_
    refine z_if_eq (tgt := 1227) g dL_law__1222 (by decide) (fun _ => ?_) (fun h => absurd ((lg_cmp_eq _ _).mpr rfl) h)
    refine z_goto (tgt := 2707) g dL_law__1227 (by decide) ?_
    exact z_to (kk _ ⟨_, _, hX2, hM2, hV2, sb2⟩) ⟨rfl, rfl, rfl, rfl, rfl, trivial⟩
  · have hb_ := b2i_n0.mp cb_
    rw [hb_]
    refine z_lconst (v := 1) g dL_law__1216 (by decide) ?_
    refine z_goto (tgt := 1221) g dL_law__1217 (by decide) ?_
    refine z_lcmp g dL_law__1221 ?_
    refine z_if_eq (tgt := 1227) g dL_law__1222 (by decide) (fun _ => ?_) (fun h => absurd ((lg_cmp_eq _ _).mpr rfl) h)
    refine z_goto (tgt := 2707) g dL_law__1227 (by decide) ?_
    exact z_to (kk _ ⟨_, _, hX2, hM2, hV2, sb2⟩) ⟨rfl, rfl, rfl, rfl, rfl, trivial⟩
set_option maxHeartbeats 4000000 in
set_option maxRecDepth 100000 in
theorem lc_12 {X : Cx} {A : Nat → Nat} {b x m o L i cs sl : Nat} {xs : Nat → Int32} {M : Mm} (g : Gd X cL_law_ RL) (hN : xN X = 8) (hR : xR X = room_1) (hL : L ≤ 3072) (hi : 6 * i + 6 ≤ L) (hcs : cs + 16 ≤ (xR X).cells) (hss : sl + 500 ≤ (xR X).slots) (hSc : ScX X b L xs) (hLI : LI A x m o M)
    (kk : ∀ M', LI A x m o M' → Z X M' (cs + 16) (sl + 500) 2707 [(0, .ref b), (1, .ref x), (2, .ref m), (3, .ref o), (4, .int (nI (6 * i)))] []) : Z X M cs sl 1230 [(0, .ref b), (1, .ref x), (2, .ref m), (3, .ref o), (4, .int (nI (6 * i)))] [] := by
  obtain ⟨S, B, hX, hM, hV, sb⟩ := hLI
  refine z_aload_n g dL_law__1230 rfl ?_
  refine z_aload_n g dL_law__1231 rfl ?_
  refine z_iload g dL_law__1232 rfl ?_
  refine z_iconst (v := 1) g dL_law__1234 (by decide) ?_
  refine z_iadd g dL_law__1235 ?_
  rw [nI_l1]
  refine z_sld g hSc (vp_in_nI (by omega) (by omega)) dL_law__1236 ?_
  rw [nI_clamp (show 6 * i + 1 < 2 ^ 31 by omega)]
  refine z_aload_n g dL_law__1237 rfl ?_
  refine z_callSH g _ _ csh_L_decide (w_decide _ M hX hV o sb.1 sb.2 _) rfl (by rw [hR]; decide) (by exact hcs) (by exact hss) (Nat.le_of_ble_eq_true rfl) rfl dL_law__1238 (fun _ _ h => False.elim h) (fun r_1 M1 h_1 => ?_)
  obtain ⟨rfl, hans, g1, B1, hX1⟩ := h_1
  have hM1 := hM.agr g1 (fun c k z => TM_TL z)
  have sb1 := sb.keepL g1
  refine z_istore g dL_law__1241 (by rw [hN]; decide) ?_
  refine z_aload_n g dL_law__1243 rfl ?_
  refine z_aload_n g dL_law__1244 rfl ?_
  refine z_iload g dL_law__1245 rfl ?_
  refine z_iconst (v := 1) g dL_law__1247 (by decide) ?_
  refine z_iadd g dL_law__1248 ?_
  rw [nI_l1]
  refine z_sld g hSc (vp_in_nI (by omega) (by omega)) dL_law__1249 ?_
  rw [nI_clamp (show 6 * i + 1 < 2 ^ 31 by omega)]
  refine z_callV g _ _ cv_L_187 (m_decide _ M1 hM1 hV _) hM1.k0 (by decide) rfl (by rw [hR]; decide) (by exact hcs) (by exact hss) (Nat.le_of_ble_eq_true rfl) rfl dL_law__1250 (fun _ _ h => False.elim h) (fun r_2 M2 h_2 => ?_)
  obtain ⟨rfl, hM2, g2⟩ := h_2
  obtain ⟨hV2, hX2⟩ := lwstp hX1 hM1 g2 (opS_INV hV (fun h => I_Decide hV h))
  obtain ⟨sb2, ho2⟩ := sb1.keepM (g2.agr hM1)
  refine z_istore g dL_law__1253 (by rw [hN]; decide) ?_
  refine z_aload_n g dL_law__1255 rfl ?_
  refine z_callV g _ _ cv_L_138 (n_thr _ M2 hM2) hM2.k0 (by decide) rfl (by rw [hR]; decide) (by exact hcs) (by exact hss) (Nat.le_of_ble_eq_true rfl) rfl dL_law__1256 (fun _ _ h => False.elim h) (fun r_3 M_3 h_3 => ?_)
  obtain ⟨rfl, rfl⟩ := h_3
  rw [gi_opS (fun _ => z_Decide)]
  refine z_iload g dL_law__1259 rfl ?_
  refine z_icmp_eq (tgt := 1266) g dL_law__1261 (by decide) (fun _ => ?_) (fun h => absurd rfl h)
  refine z_iload g dL_law__1266 rfl ?_
  refine z_if_ne (tgt := 1283) g dL_law__1268 (by decide) (fun hc_ => ?_) (fun hc_ => ?_)
  · refine z_goto (tgt := 2707) g dL_law__1283 (by decide) ?_
    exact z_to (kk _ ⟨_, _, hX2, hM2, hV2, sb2⟩) ⟨rfl, rfl, rfl, rfl, rfl, trivial⟩
  have hv_ := hans hc_
  have hw_ := ho2.trans hv_
  rw [opV_z hc_]
  refine z_aload_n g dL_law__1271 rfl ?_
  refine z_iconst (v := 0) g dL_law__1272 (by decide) ?_
  refine z_laldk (k := 290) g (by rw [sb2.1]) (by decide) (by rw [sb2.2]; exact in01) dL_law__1273 ?_
  rw [show (0 : Int32).toNatClampNeg = 0 from rfl, hw_]
  refine z_iload g dL_law__1274 rfl ?_
  refine z_i2l g dL_law__1276 ?_
  refine z_lcmp g dL_law__1277 ?_
  refine z_if_eq (tgt := 1283) g dL_law__1278 (by decide) (fun _ => ?_) (fun h => absurd ((lg_cmp_eq _ _).mpr rfl) h)
  refine z_goto (tgt := 2707) g dL_law__1283 (by decide) ?_
  exact z_to (kk _ ⟨_, _, hX2, hM2, hV2, sb2⟩) ⟨rfl, rfl, rfl, rfl, rfl, trivial⟩
set_option maxHeartbeats 4000000 in
set_option maxRecDepth 100000 in
theorem lc_13 {X : Cx} {A : Nat → Nat} {b x m o L i cs sl : Nat} {xs : Nat → Int32} {M : Mm} (g : Gd X cL_law_ RL) (hN : xN X = 8) (hR : xR X = room_1) (hL : L ≤ 3072) (hi : 6 * i + 6 ≤ L) (hcs : cs + 16 ≤ (xR X).cells) (hss : sl + 500 ≤ (xR X).slots) (hSc : ScX X b L xs) (hLI : LI A x m o M)
    (kk : ∀ M', LI A x m o M' → Z X M' (cs + 16) (sl + 500) 2707 [(0, .ref b), (1, .ref x), (2, .ref m), (3, .ref o), (4, .int (nI (6 * i)))] []) : Z X M cs sl 1286 [(0, .ref b), (1, .ref x), (2, .ref m), (3, .ref o), (4, .int (nI (6 * i)))] [] := by
  obtain ⟨S, B, hX, hM, hV, sb⟩ := hLI
  refine z_aload_n g dL_law__1286 rfl ?_
  refine z_aload_n g dL_law__1287 rfl ?_
  refine z_iload g dL_law__1288 rfl ?_
  refine z_iconst (v := 1) g dL_law__1290 (by decide) ?_
  refine z_iadd g dL_law__1291 ?_
  rw [nI_l1]
  refine z_sld g hSc (vp_in_nI (by omega) (by omega)) dL_law__1292 ?_
  rw [nI_clamp (show 6 * i + 1 < 2 ^ 31 by omega)]
  refine z_aload_n g dL_law__1293 rfl ?_
  refine z_callSH g _ _ csh_L_appeal (w_appeal _ M hX hV o sb.1 sb.2 _) rfl (by rw [hR]; decide) (by exact hcs) (by exact hss) (Nat.le_of_ble_eq_true rfl) rfl dL_law__1294 (fun _ _ h => False.elim h) (fun r_1 M1 h_1 => ?_)
  obtain ⟨rfl, hans, g1, B1, hX1⟩ := h_1
  have hM1 := hM.agr g1 (fun c k z => TM_TL z)
  have sb1 := sb.keepL g1
  refine z_istore g dL_law__1297 (by rw [hN]; decide) ?_
  refine z_aload_n g dL_law__1299 rfl ?_
  refine z_aload_n g dL_law__1300 rfl ?_
  refine z_iload g dL_law__1301 rfl ?_
  refine z_iconst (v := 1) g dL_law__1303 (by decide) ?_
  refine z_iadd g dL_law__1304 ?_
  rw [nI_l1]
  refine z_sld g hSc (vp_in_nI (by omega) (by omega)) dL_law__1305 ?_
  rw [nI_clamp (show 6 * i + 1 < 2 ^ 31 by omega)]
  refine z_callV g _ _ cv_L_190 (m_appeal _ M1 hM1 hV _) hM1.k0 (by decide) rfl (by rw [hR]; decide) (by exact hcs) (by exact hss) (Nat.le_of_ble_eq_true rfl) rfl dL_law__1306 (fun _ _ h => False.elim h) (fun r_2 M2 h_2 => ?_)
  obtain ⟨rfl, hM2, g2⟩ := h_2
  obtain ⟨hV2, hX2⟩ := lwstp hX1 hM1 g2 (opS_INV hV (fun h => I_Appeal hV h))
  obtain ⟨sb2, ho2⟩ := sb1.keepM (g2.agr hM1)
  refine z_istore g dL_law__1309 (by rw [hN]; decide) ?_
  refine z_aload_n g dL_law__1311 rfl ?_
  refine z_callV g _ _ cv_L_138 (n_thr _ M2 hM2) hM2.k0 (by decide) rfl (by rw [hR]; decide) (by exact hcs) (by exact hss) (Nat.le_of_ble_eq_true rfl) rfl dL_law__1312 (fun _ _ h => False.elim h) (fun r_3 M_3 h_3 => ?_)
  obtain ⟨rfl, rfl⟩ := h_3
  rw [gi_opS (fun _ => z_Appeal)]
  refine z_iload g dL_law__1315 rfl ?_
  refine z_icmp_eq (tgt := 1322) g dL_law__1317 (by decide) (fun _ => ?_) (fun h => absurd rfl h)
  refine z_iload g dL_law__1322 rfl ?_
  refine z_if_ne (tgt := 1339) g dL_law__1324 (by decide) (fun hc_ => ?_) (fun hc_ => ?_)
  · refine z_goto (tgt := 2707) g dL_law__1339 (by decide) ?_
    exact z_to (kk _ ⟨_, _, hX2, hM2, hV2, sb2⟩) ⟨rfl, rfl, rfl, rfl, rfl, trivial⟩
  have hv_ := hans hc_
  have hw_ := ho2.trans hv_
  rw [opV_z hc_]
  refine z_aload_n g dL_law__1327 rfl ?_
  refine z_iconst (v := 0) g dL_law__1328 (by decide) ?_
  refine z_laldk (k := 290) g (by rw [sb2.1]) (by decide) (by rw [sb2.2]; exact in01) dL_law__1329 ?_
  rw [show (0 : Int32).toNatClampNeg = 0 from rfl, hw_]
  refine z_iload g dL_law__1330 rfl ?_
  refine z_i2l g dL_law__1332 ?_
  refine z_lcmp g dL_law__1333 ?_
  refine z_if_eq (tgt := 1339) g dL_law__1334 (by decide) (fun _ => ?_) (fun h => absurd ((lg_cmp_eq _ _).mpr rfl) h)
  refine z_goto (tgt := 2707) g dL_law__1339 (by decide) ?_
  exact z_to (kk _ ⟨_, _, hX2, hM2, hV2, sb2⟩) ⟨rfl, rfl, rfl, rfl, rfl, trivial⟩
set_option maxHeartbeats 4000000 in
set_option maxRecDepth 100000 in
theorem lc_14 {X : Cx} {A : Nat → Nat} {b x m o L i cs sl : Nat} {xs : Nat → Int32} {M : Mm} (g : Gd X cL_law_ RL) (hN : xN X = 8) (hR : xR X = room_1) (hL : L ≤ 3072) (hi : 6 * i + 6 ≤ L) (hcs : cs + 16 ≤ (xR X).cells) (hss : sl + 500 ≤ (xR X).slots) (hSc : ScX X b L xs) (hLI : LI A x m o M)
    (kk : ∀ M', LI A x m o M' → Z X M' (cs + 16) (sl + 500) 2707 [(0, .ref b), (1, .ref x), (2, .ref m), (3, .ref o), (4, .int (nI (6 * i)))] []) : Z X M cs sl 1342 [(0, .ref b), (1, .ref x), (2, .ref m), (3, .ref o), (4, .int (nI (6 * i)))] [] := by
  obtain ⟨S, B, hX, hM, hV, sb⟩ := hLI
  refine z_aload_n g dL_law__1342 rfl ?_
  refine z_aload_n g dL_law__1343 rfl ?_
  refine z_iload g dL_law__1344 rfl ?_
  refine z_iconst (v := 1) g dL_law__1346 (by decide) ?_
  refine z_iadd g dL_law__1347 ?_
  rw [nI_l1]
  refine z_sld g hSc (vp_in_nI (by omega) (by omega)) dL_law__1348 ?_
  rw [nI_clamp (show 6 * i + 1 < 2 ^ 31 by omega)]
  refine z_aload_n g dL_law__1349 rfl ?_
  refine z_iload g dL_law__1350 rfl ?_
  refine z_iconst (v := 2) g dL_law__1352 (by decide) ?_
  refine z_iadd g dL_law__1353 ?_
  rw [nI_l2]
  refine z_sld g hSc (vp_in_nI (by omega) (by omega)) dL_law__1354 ?_
  rw [nI_clamp (show 6 * i + 2 < 2 ^ 31 by omega)]
  refine z_aload_n g dL_law__1355 rfl ?_
  refine z_callSH g _ _ csh_L_petitionOf (w_petitionOf _ M hX hV o sb.1 sb.2 _ _) rfl (by rw [hR]; decide) (by exact hcs) (by exact hss) (Nat.le_of_ble_eq_true rfl) rfl dL_law__1356 (fun _ _ h => False.elim h) (fun r_1 M1 h_1 => ?_)
  obtain ⟨rfl, hans, g1, B1, hX1⟩ := h_1
  have hM1 := hM.agr g1 (fun c k z => TM_TL z)
  have sb1 := sb.keepL g1
  refine z_istore g dL_law__1359 (by rw [hN]; decide) ?_
  refine z_aload_n g dL_law__1361 rfl ?_
  refine z_aload_n g dL_law__1362 rfl ?_
  refine z_iload g dL_law__1363 rfl ?_
  refine z_iconst (v := 1) g dL_law__1365 (by decide) ?_
  refine z_iadd g dL_law__1366 ?_
  rw [nI_l1]
  refine z_sld g hSc (vp_in_nI (by omega) (by omega)) dL_law__1367 ?_
  rw [nI_clamp (show 6 * i + 1 < 2 ^ 31 by omega)]
  refine z_aload_n g dL_law__1368 rfl ?_
  refine z_iload g dL_law__1369 rfl ?_
  refine z_iconst (v := 2) g dL_law__1371 (by decide) ?_
  refine z_iadd g dL_law__1372 ?_
  rw [nI_l2]
  refine z_sld g hSc (vp_in_nI (by omega) (by omega)) dL_law__1373 ?_
  rw [nI_clamp (show 6 * i + 2 < 2 ^ 31 by omega)]
  refine z_callV g _ _ cv_L_193 (m_petOf _ M1 hM1 hV _ _) hM1.k0 (by decide) rfl (by rw [hR]; decide) (by exact hcs) (by exact hss) (Nat.le_of_ble_eq_true rfl) rfl dL_law__1374 (fun _ _ h => False.elim h) (fun r_2 M2 h_2 => ?_)
  obtain ⟨rfl, hM2, g2⟩ := h_2
  obtain ⟨hV2, hX2⟩ := lwstp hX1 hM1 g2 (opS_INV hV (fun h => I_PetOf hV h))
  obtain ⟨sb2, ho2⟩ := sb1.keepM (g2.agr hM1)
  refine z_istore g dL_law__1377 (by rw [hN]; decide) ?_
  refine z_aload_n g dL_law__1379 rfl ?_
  refine z_callV g _ _ cv_L_138 (n_thr _ M2 hM2) hM2.k0 (by decide) rfl (by rw [hR]; decide) (by exact hcs) (by exact hss) (Nat.le_of_ble_eq_true rfl) rfl dL_law__1380 (fun _ _ h => False.elim h) (fun r_3 M_3 h_3 => ?_)
  obtain ⟨rfl, rfl⟩ := h_3
  rw [gi_opS (fun _ => z_PetOf)]
  refine z_iload g dL_law__1383 rfl ?_
  refine z_icmp_eq (tgt := 1390) g dL_law__1385 (by decide) (fun _ => ?_) (fun h => absurd rfl h)
  refine z_iload g dL_law__1390 rfl ?_
  refine z_if_ne (tgt := 1407) g dL_law__1392 (by decide) (fun hc_ => ?_) (fun hc_ => ?_)
  · refine z_goto (tgt := 2707) g dL_law__1407 (by decide) ?_
    exact z_to (kk _ ⟨_, _, hX2, hM2, hV2, sb2⟩) ⟨rfl, rfl, rfl, rfl, rfl, trivial⟩
  have hv_ := hans hc_
  have hw_ := ho2.trans hv_
  rw [opV_z hc_]
  refine z_aload_n g dL_law__1395 rfl ?_
  refine z_iconst (v := 0) g dL_law__1396 (by decide) ?_
  refine z_laldk (k := 290) g (by rw [sb2.1]) (by decide) (by rw [sb2.2]; exact in01) dL_law__1397 ?_
  rw [show (0 : Int32).toNatClampNeg = 0 from rfl, hw_]
  refine z_iload g dL_law__1398 rfl ?_
  refine z_i2l g dL_law__1400 ?_
  refine z_lcmp g dL_law__1401 ?_
  refine z_if_eq (tgt := 1407) g dL_law__1402 (by decide) (fun _ => ?_) (fun h => absurd ((lg_cmp_eq _ _).mpr rfl) h)
  refine z_goto (tgt := 2707) g dL_law__1407 (by decide) ?_
  exact z_to (kk _ ⟨_, _, hX2, hM2, hV2, sb2⟩) ⟨rfl, rfl, rfl, rfl, rfl, trivial⟩
set_option maxHeartbeats 4000000 in
set_option maxRecDepth 100000 in
theorem lc_15 {X : Cx} {A : Nat → Nat} {b x m o L i cs sl : Nat} {xs : Nat → Int32} {M : Mm} (g : Gd X cL_law_ RL) (hN : xN X = 8) (hR : xR X = room_1) (hL : L ≤ 3072) (hi : 6 * i + 6 ≤ L) (hcs : cs + 16 ≤ (xR X).cells) (hss : sl + 500 ≤ (xR X).slots) (hSc : ScX X b L xs) (hLI : LI A x m o M)
    (kk : ∀ M', LI A x m o M' → Z X M' (cs + 16) (sl + 500) 2707 [(0, .ref b), (1, .ref x), (2, .ref m), (3, .ref o), (4, .int (nI (6 * i)))] []) : Z X M cs sl 1410 [(0, .ref b), (1, .ref x), (2, .ref m), (3, .ref o), (4, .int (nI (6 * i)))] [] := by
  obtain ⟨S, B, hX, hM, hV, sb⟩ := hLI
  refine z_aload_n g dL_law__1410 rfl ?_
  refine z_aload_n g dL_law__1411 rfl ?_
  refine z_iload g dL_law__1412 rfl ?_
  refine z_iconst (v := 1) g dL_law__1414 (by decide) ?_
  refine z_iadd g dL_law__1415 ?_
  rw [nI_l1]
  refine z_sld g hSc (vp_in_nI (by omega) (by omega)) dL_law__1416 ?_
  rw [nI_clamp (show 6 * i + 1 < 2 ^ 31 by omega)]
  refine z_aload_n g dL_law__1417 rfl ?_
  refine z_iload g dL_law__1418 rfl ?_
  refine z_iconst (v := 2) g dL_law__1420 (by decide) ?_
  refine z_iadd g dL_law__1421 ?_
  rw [nI_l2]
  refine z_sld g hSc (vp_in_nI (by omega) (by omega)) dL_law__1422 ?_
  rw [nI_clamp (show 6 * i + 2 < 2 ^ 31 by omega)]
  refine z_aload_n g dL_law__1423 rfl ?_
  refine z_iload g dL_law__1424 rfl ?_
  refine z_iconst (v := 3) g dL_law__1426 (by decide) ?_
  refine z_iadd g dL_law__1427 ?_
  rw [nI_l3]
  refine z_sld g hSc (vp_in_nI (by omega) (by omega)) dL_law__1428 ?_
  rw [nI_clamp (show 6 * i + 3 < 2 ^ 31 by omega)]
  refine z_aload_n g dL_law__1429 rfl ?_
  refine z_callSH g _ _ csh_L_census (w_census _ M hX hV o sb.1 sb.2 _ _ _) rfl (by rw [hR]; decide) (by exact hcs) (by exact hss) (Nat.le_of_ble_eq_true rfl) rfl dL_law__1430 (fun _ _ h => False.elim h) (fun r_1 M1 h_1 => ?_)
  obtain ⟨rfl, hans, g1, B1, hX1⟩ := h_1
  have hM1 := hM.agr g1 (fun c k z => TM_TL z)
  have sb1 := sb.keepL g1
  refine z_istore g dL_law__1433 (by rw [hN]; decide) ?_
  refine z_aload_n g dL_law__1435 rfl ?_
  refine z_aload_n g dL_law__1436 rfl ?_
  refine z_iload g dL_law__1437 rfl ?_
  refine z_iconst (v := 1) g dL_law__1439 (by decide) ?_
  refine z_iadd g dL_law__1440 ?_
  rw [nI_l1]
  refine z_sld g hSc (vp_in_nI (by omega) (by omega)) dL_law__1441 ?_
  rw [nI_clamp (show 6 * i + 1 < 2 ^ 31 by omega)]
  refine z_aload_n g dL_law__1442 rfl ?_
  refine z_iload g dL_law__1443 rfl ?_
  refine z_iconst (v := 2) g dL_law__1445 (by decide) ?_
  refine z_iadd g dL_law__1446 ?_
  rw [nI_l2]
  refine z_sld g hSc (vp_in_nI (by omega) (by omega)) dL_law__1447 ?_
  rw [nI_clamp (show 6 * i + 2 < 2 ^ 31 by omega)]
  refine z_aload_n g dL_law__1448 rfl ?_
  refine z_iload g dL_law__1449 rfl ?_
  refine z_iconst (v := 3) g dL_law__1451 (by decide) ?_
  refine z_iadd g dL_law__1452 ?_
  rw [nI_l3]
  refine z_sld g hSc (vp_in_nI (by omega) (by omega)) dL_law__1453 ?_
  rw [nI_clamp (show 6 * i + 3 < 2 ^ 31 by omega)]
  refine z_callV g _ _ cv_L_196 (m_census _ M1 hM1 hV _ _ _) hM1.k0 (by decide) rfl (by rw [hR]; decide) (by exact hcs) (by exact hss) (Nat.le_of_ble_eq_true rfl) rfl dL_law__1454 (fun _ _ h => False.elim h) (fun r_2 M2 h_2 => ?_)
  obtain ⟨rfl, hM2, g2⟩ := h_2
  obtain ⟨hV2, hX2⟩ := lwstp hX1 hM1 g2 (opS_INV hV (fun h => I_Census hV h))
  obtain ⟨sb2, ho2⟩ := sb1.keepM (g2.agr hM1)
  refine z_istore g dL_law__1457 (by rw [hN]; decide) ?_
  refine z_aload_n g dL_law__1459 rfl ?_
  refine z_callV g _ _ cv_L_138 (n_thr _ M2 hM2) hM2.k0 (by decide) rfl (by rw [hR]; decide) (by exact hcs) (by exact hss) (Nat.le_of_ble_eq_true rfl) rfl dL_law__1460 (fun _ _ h => False.elim h) (fun r_3 M_3 h_3 => ?_)
  obtain ⟨rfl, rfl⟩ := h_3
  rw [gi_opS (fun _ => z_Census)]
  refine z_iload g dL_law__1463 rfl ?_
  refine z_icmp_eq (tgt := 1470) g dL_law__1465 (by decide) (fun _ => ?_) (fun h => absurd rfl h)
  refine z_iload g dL_law__1470 rfl ?_
  refine z_if_ne (tgt := 1487) g dL_law__1472 (by decide) (fun hc_ => ?_) (fun hc_ => ?_)
  · refine z_goto (tgt := 2707) g dL_law__1487 (by decide) ?_
    exact z_to (kk _ ⟨_, _, hX2, hM2, hV2, sb2⟩) ⟨rfl, rfl, rfl, rfl, rfl, trivial⟩
  have hv_ := hans hc_
  have hw_ := ho2.trans hv_
  rw [opV_z hc_]
  refine z_aload_n g dL_law__1475 rfl ?_
  refine z_iconst (v := 0) g dL_law__1476 (by decide) ?_
  refine z_laldk (k := 290) g (by rw [sb2.1]) (by decide) (by rw [sb2.2]; exact in01) dL_law__1477 ?_
  rw [show (0 : Int32).toNatClampNeg = 0 from rfl, hw_]
  refine z_iload g dL_law__1478 rfl ?_
  refine z_i2l g dL_law__1480 ?_
  refine z_lcmp g dL_law__1481 ?_
  refine z_if_eq (tgt := 1487) g dL_law__1482 (by decide) (fun _ => ?_) (fun h => absurd ((lg_cmp_eq _ _).mpr rfl) h)
  refine z_goto (tgt := 2707) g dL_law__1487 (by decide) ?_
  exact z_to (kk _ ⟨_, _, hX2, hM2, hV2, sb2⟩) ⟨rfl, rfl, rfl, rfl, rfl, trivial⟩
set_option maxHeartbeats 4000000 in
set_option maxRecDepth 100000 in
theorem lc_16 {X : Cx} {A : Nat → Nat} {b x m o L i cs sl : Nat} {xs : Nat → Int32} {M : Mm} (g : Gd X cL_law_ RL) (hN : xN X = 8) (hR : xR X = room_1) (hL : L ≤ 3072) (hi : 6 * i + 6 ≤ L) (hcs : cs + 16 ≤ (xR X).cells) (hss : sl + 500 ≤ (xR X).slots) (hSc : ScX X b L xs) (hLI : LI A x m o M)
    (kk : ∀ M', LI A x m o M' → Z X M' (cs + 16) (sl + 500) 2707 [(0, .ref b), (1, .ref x), (2, .ref m), (3, .ref o), (4, .int (nI (6 * i)))] []) : Z X M cs sl 1490 [(0, .ref b), (1, .ref x), (2, .ref m), (3, .ref o), (4, .int (nI (6 * i)))] [] := by
  obtain ⟨S, B, hX, hM, hV, sb⟩ := hLI
  refine z_aload_n g dL_law__1490 rfl ?_
  refine z_aload_n g dL_law__1491 rfl ?_
  refine z_iload g dL_law__1492 rfl ?_
  refine z_iconst (v := 1) g dL_law__1494 (by decide) ?_
  refine z_iadd g dL_law__1495 ?_
  rw [nI_l1]
  refine z_sld g hSc (vp_in_nI (by omega) (by omega)) dL_law__1496 ?_
  rw [nI_clamp (show 6 * i + 1 < 2 ^ 31 by omega)]
  refine z_aload_n g dL_law__1497 rfl ?_
  refine z_iload g dL_law__1498 rfl ?_
  refine z_iconst (v := 2) g dL_law__1500 (by decide) ?_
  refine z_iadd g dL_law__1501 ?_
  rw [nI_l2]
  refine z_sld g hSc (vp_in_nI (by omega) (by omega)) dL_law__1502 ?_
  rw [nI_clamp (show 6 * i + 2 < 2 ^ 31 by omega)]
  refine z_aload_n g dL_law__1503 rfl ?_
  refine z_iload g dL_law__1504 rfl ?_
  refine z_iconst (v := 3) g dL_law__1506 (by decide) ?_
  refine z_iadd g dL_law__1507 ?_
  rw [nI_l3]
  refine z_sld g hSc (vp_in_nI (by omega) (by omega)) dL_law__1508 ?_
  rw [nI_clamp (show 6 * i + 3 < 2 ^ 31 by omega)]
  refine z_callSH g _ _ csh_L_dispute (w_dispute _ M hX hV _ _ _) rfl (by rw [hR]; decide) (by exact hcs) (by exact hss) (Nat.le_of_ble_eq_true rfl) rfl dL_law__1509 (fun _ _ h => False.elim h) (fun r_1 M1 h_1 => ?_)
  obtain ⟨rfl, g1, B1, hX1⟩ := h_1
  have hM1 := hM.agr g1 (fun c k z => TM_TL z)
  have sb1 := sb.keepL g1
  refine z_istore g dL_law__1512 (by rw [hN]; decide) ?_
  refine z_aload_n g dL_law__1514 rfl ?_
  refine z_aload_n g dL_law__1515 rfl ?_
  refine z_iload g dL_law__1516 rfl ?_
  refine z_iconst (v := 1) g dL_law__1518 (by decide) ?_
  refine z_iadd g dL_law__1519 ?_
  rw [nI_l1]
  refine z_sld g hSc (vp_in_nI (by omega) (by omega)) dL_law__1520 ?_
  rw [nI_clamp (show 6 * i + 1 < 2 ^ 31 by omega)]
  refine z_aload_n g dL_law__1521 rfl ?_
  refine z_iload g dL_law__1522 rfl ?_
  refine z_iconst (v := 2) g dL_law__1524 (by decide) ?_
  refine z_iadd g dL_law__1525 ?_
  rw [nI_l2]
  refine z_sld g hSc (vp_in_nI (by omega) (by omega)) dL_law__1526 ?_
  rw [nI_clamp (show 6 * i + 2 < 2 ^ 31 by omega)]
  refine z_aload_n g dL_law__1527 rfl ?_
  refine z_iload g dL_law__1528 rfl ?_
  refine z_iconst (v := 3) g dL_law__1530 (by decide) ?_
  refine z_iadd g dL_law__1531 ?_
  rw [nI_l3]
  refine z_sld g hSc (vp_in_nI (by omega) (by omega)) dL_law__1532 ?_
  rw [nI_clamp (show 6 * i + 3 < 2 ^ 31 by omega)]
  refine z_callV g _ _ cv_L_199 (m_dispute _ M1 hM1 hV _ _ _) hM1.k0 (by decide) rfl (by rw [hR]; decide) (by exact hcs) (by exact hss) (Nat.le_of_ble_eq_true rfl) rfl dL_law__1533 (fun _ _ h => False.elim h) (fun r_2 M2 h_2 => ?_)
  obtain ⟨rfl, hM2, g2⟩ := h_2
  obtain ⟨hV2, hX2⟩ := lwstp hX1 hM1 g2 (opS_INV hV (fun h => I_Dispute hV h))
  obtain ⟨sb2, ho2⟩ := sb1.keepM (g2.agr hM1)
  refine z_aload_n g dL_law__1536 rfl ?_
  refine z_callV g _ _ cv_L_138 (n_thr _ M2 hM2) hM2.k0 (by decide) rfl (by rw [hR]; decide) (by exact hcs) (by exact hss) (Nat.le_of_ble_eq_true rfl) rfl dL_law__1537 (fun _ _ h => False.elim h) (fun r_3 M_3 h_3 => ?_)
  obtain ⟨rfl, rfl⟩ := h_3
  rw [gi_opS (fun _ => z_Dispute)]
  refine z_iload g dL_law__1540 rfl ?_
  refine z_icmp_eq (tgt := 1547) g dL_law__1542 (by decide) (fun _ => ?_) (fun h => absurd rfl h)
  refine z_goto (tgt := 2707) g dL_law__1547 (by decide) ?_
  exact z_to (kk _ ⟨_, _, hX2, hM2, hV2, sb2⟩) ⟨rfl, rfl, rfl, rfl, rfl, trivial⟩
set_option maxHeartbeats 4000000 in
set_option maxRecDepth 100000 in
theorem lc_17 {X : Cx} {A : Nat → Nat} {b x m o L i cs sl : Nat} {xs : Nat → Int32} {M : Mm} (g : Gd X cL_law_ RL) (hN : xN X = 8) (hR : xR X = room_1) (hL : L ≤ 3072) (hi : 6 * i + 6 ≤ L) (hcs : cs + 16 ≤ (xR X).cells) (hss : sl + 500 ≤ (xR X).slots) (hSc : ScX X b L xs) (hLI : LI A x m o M)
    (kk : ∀ M', LI A x m o M' → Z X M' (cs + 16) (sl + 500) 2707 [(0, .ref b), (1, .ref x), (2, .ref m), (3, .ref o), (4, .int (nI (6 * i)))] []) : Z X M cs sl 1550 [(0, .ref b), (1, .ref x), (2, .ref m), (3, .ref o), (4, .int (nI (6 * i)))] [] := by
  obtain ⟨S, B, hX, hM, hV, sb⟩ := hLI
  refine z_aload_n g dL_law__1550 rfl ?_
  refine z_aload_n g dL_law__1551 rfl ?_
  refine z_iload g dL_law__1552 rfl ?_
  refine z_iconst (v := 1) g dL_law__1554 (by decide) ?_
  refine z_iadd g dL_law__1555 ?_
  rw [nI_l1]
  refine z_sld g hSc (vp_in_nI (by omega) (by omega)) dL_law__1556 ?_
  rw [nI_clamp (show 6 * i + 1 < 2 ^ 31 by omega)]
  refine z_aload_n g dL_law__1557 rfl ?_
  refine z_iload g dL_law__1558 rfl ?_
  refine z_iconst (v := 2) g dL_law__1560 (by decide) ?_
  refine z_iadd g dL_law__1561 ?_
  rw [nI_l2]
  refine z_sld g hSc (vp_in_nI (by omega) (by omega)) dL_law__1562 ?_
  rw [nI_clamp (show 6 * i + 2 < 2 ^ 31 by omega)]
  refine z_aload_n g dL_law__1563 rfl ?_
  refine z_callSH g _ _ csh_L_shown (w_shown _ M hX hV o sb.1 sb.2 _ _) rfl (by rw [hR]; decide) (by exact hcs) (by exact hss) (Nat.le_of_ble_eq_true rfl) rfl dL_law__1564 (fun _ _ h => False.elim h) (fun r_1 M1 h_1 => ?_)
  obtain ⟨rfl, hans, g1, B1, hX1⟩ := h_1
  have hM1 := hM.agr g1 (fun c k z => TM_TL z)
  have sb1 := sb.keepL g1
  refine z_istore g dL_law__1567 (by rw [hN]; decide) ?_
  refine z_aload_n g dL_law__1569 rfl ?_
  refine z_aload_n g dL_law__1570 rfl ?_
  refine z_iload g dL_law__1571 rfl ?_
  refine z_iconst (v := 1) g dL_law__1573 (by decide) ?_
  refine z_iadd g dL_law__1574 ?_
  rw [nI_l1]
  refine z_sld g hSc (vp_in_nI (by omega) (by omega)) dL_law__1575 ?_
  rw [nI_clamp (show 6 * i + 1 < 2 ^ 31 by omega)]
  refine z_aload_n g dL_law__1576 rfl ?_
  refine z_iload g dL_law__1577 rfl ?_
  refine z_iconst (v := 2) g dL_law__1579 (by decide) ?_
  refine z_iadd g dL_law__1580 ?_
  rw [nI_l2]
  refine z_sld g hSc (vp_in_nI (by omega) (by omega)) dL_law__1581 ?_
  rw [nI_clamp (show 6 * i + 2 < 2 ^ 31 by omega)]
  refine z_callV g _ _ cv_L_202 (m_shown _ M1 hM1 hV _ _) hM1.k0 (by decide) rfl (by rw [hR]; decide) (by exact hcs) (by exact hss) (Nat.le_of_ble_eq_true rfl) rfl dL_law__1582 (fun _ _ h => False.elim h) (fun r_2 M2 h_2 => ?_)
  obtain ⟨rfl, hM2, g2⟩ := h_2
  obtain ⟨hV2, hX2⟩ := lwstp hX1 hM1 g2 (opS_INV hV (fun h => I_Shown hV h))
  obtain ⟨sb2, ho2⟩ := sb1.keepM (g2.agr hM1)
  refine z_istore g dL_law__1585 (by rw [hN]; decide) ?_
  refine z_aload_n g dL_law__1587 rfl ?_
  refine z_callV g _ _ cv_L_138 (n_thr _ M2 hM2) hM2.k0 (by decide) rfl (by rw [hR]; decide) (by exact hcs) (by exact hss) (Nat.le_of_ble_eq_true rfl) rfl dL_law__1588 (fun _ _ h => False.elim h) (fun r_3 M_3 h_3 => ?_)
  obtain ⟨rfl, rfl⟩ := h_3
  rw [gi_opS (fun _ => z_Shown)]
  refine z_iload g dL_law__1591 rfl ?_
  refine z_icmp_eq (tgt := 1598) g dL_law__1593 (by decide) (fun _ => ?_) (fun h => absurd rfl h)
  refine z_iload g dL_law__1598 rfl ?_
  refine z_if_ne (tgt := 1615) g dL_law__1600 (by decide) (fun hc_ => ?_) (fun hc_ => ?_)
  · refine z_goto (tgt := 2707) g dL_law__1615 (by decide) ?_
    exact z_to (kk _ ⟨_, _, hX2, hM2, hV2, sb2⟩) ⟨rfl, rfl, rfl, rfl, rfl, trivial⟩
  have hv_ := hans hc_
  have hw_ := ho2.trans hv_
  rw [opV_z hc_]
  refine z_aload_n g dL_law__1603 rfl ?_
  refine z_iconst (v := 0) g dL_law__1604 (by decide) ?_
  refine z_laldk (k := 290) g (by rw [sb2.1]) (by decide) (by rw [sb2.2]; exact in01) dL_law__1605 ?_
  rw [show (0 : Int32).toNatClampNeg = 0 from rfl, hw_]
  refine z_iload g dL_law__1606 rfl ?_
  refine z_i2l g dL_law__1608 ?_
  refine z_lcmp g dL_law__1609 ?_
  refine z_if_eq (tgt := 1615) g dL_law__1610 (by decide) (fun _ => ?_) (fun h => absurd ((lg_cmp_eq _ _).mpr rfl) h)
  refine z_goto (tgt := 2707) g dL_law__1615 (by decide) ?_
  exact z_to (kk _ ⟨_, _, hX2, hM2, hV2, sb2⟩) ⟨rfl, rfl, rfl, rfl, rfl, trivial⟩
set_option maxHeartbeats 4000000 in
set_option maxRecDepth 100000 in
theorem lc_18 {X : Cx} {A : Nat → Nat} {b x m o L i cs sl : Nat} {xs : Nat → Int32} {M : Mm} (g : Gd X cL_law_ RL) (hN : xN X = 8) (hR : xR X = room_1) (hL : L ≤ 3072) (hi : 6 * i + 6 ≤ L) (hcs : cs + 16 ≤ (xR X).cells) (hss : sl + 500 ≤ (xR X).slots) (hSc : ScX X b L xs) (hLI : LI A x m o M)
    (kk : ∀ M', LI A x m o M' → Z X M' (cs + 16) (sl + 500) 2707 [(0, .ref b), (1, .ref x), (2, .ref m), (3, .ref o), (4, .int (nI (6 * i)))] []) : Z X M cs sl 1618 [(0, .ref b), (1, .ref x), (2, .ref m), (3, .ref o), (4, .int (nI (6 * i)))] [] := by
  obtain ⟨S, B, hX, hM, hV, sb⟩ := hLI
  refine z_aload_n g dL_law__1618 rfl ?_
  refine z_aload_n g dL_law__1619 rfl ?_
  refine z_iload g dL_law__1620 rfl ?_
  refine z_iconst (v := 1) g dL_law__1622 (by decide) ?_
  refine z_iadd g dL_law__1623 ?_
  rw [nI_l1]
  refine z_sld g hSc (vp_in_nI (by omega) (by omega)) dL_law__1624 ?_
  rw [nI_clamp (show 6 * i + 1 < 2 ^ 31 by omega)]
  refine z_aload_n g dL_law__1625 rfl ?_
  refine z_iload g dL_law__1626 rfl ?_
  refine z_iconst (v := 2) g dL_law__1628 (by decide) ?_
  refine z_iadd g dL_law__1629 ?_
  rw [nI_l2]
  refine z_sld g hSc (vp_in_nI (by omega) (by omega)) dL_law__1630 ?_
  rw [nI_clamp (show 6 * i + 2 < 2 ^ 31 by omega)]
  refine z_aload_n g dL_law__1631 rfl ?_
  refine z_callSH g _ _ csh_L_display (w_display _ M hX hV o sb.1 sb.2 _ _) rfl (by rw [hR]; decide) (by exact hcs) (by exact hss) (Nat.le_of_ble_eq_true rfl) rfl dL_law__1632 (fun _ _ h => False.elim h) (fun r_1 M1 h_1 => ?_)
  obtain ⟨rfl, hans, g1, B1, hX1⟩ := h_1
  have hM1 := hM.agr g1 (fun c k z => TM_TL z)
  have sb1 := sb.keepL g1
  refine z_istore g dL_law__1635 (by rw [hN]; decide) ?_
  refine z_aload_n g dL_law__1637 rfl ?_
  refine z_aload_n g dL_law__1638 rfl ?_
  refine z_iload g dL_law__1639 rfl ?_
  refine z_iconst (v := 1) g dL_law__1641 (by decide) ?_
  refine z_iadd g dL_law__1642 ?_
  rw [nI_l1]
  refine z_sld g hSc (vp_in_nI (by omega) (by omega)) dL_law__1643 ?_
  rw [nI_clamp (show 6 * i + 1 < 2 ^ 31 by omega)]
  refine z_aload_n g dL_law__1644 rfl ?_
  refine z_iload g dL_law__1645 rfl ?_
  refine z_iconst (v := 2) g dL_law__1647 (by decide) ?_
  refine z_iadd g dL_law__1648 ?_
  rw [nI_l2]
  refine z_sld g hSc (vp_in_nI (by omega) (by omega)) dL_law__1649 ?_
  rw [nI_clamp (show 6 * i + 2 < 2 ^ 31 by omega)]
  refine z_callV g _ _ cv_L_205 (m_display _ M1 hM1 hV _ _) hM1.k0 (by decide) rfl (by rw [hR]; decide) (by exact hcs) (by exact hss) (Nat.le_of_ble_eq_true rfl) rfl dL_law__1650 (fun _ _ h => False.elim h) (fun r_2 M2 h_2 => ?_)
  obtain ⟨rfl, hM2, g2⟩ := h_2
  obtain ⟨hV2, hX2⟩ := lwstp hX1 hM1 g2 (opS_INV hV (fun h => I_Display hV h))
  obtain ⟨sb2, ho2⟩ := sb1.keepM (g2.agr hM1)
  refine z_lstore g dL_law__1653 (by rw [hN]; decide) ?_
  refine z_aload_n g dL_law__1655 rfl ?_
  refine z_callV g _ _ cv_L_138 (n_thr _ M2 hM2) hM2.k0 (by decide) rfl (by rw [hR]; decide) (by exact hcs) (by exact hss) (Nat.le_of_ble_eq_true rfl) rfl dL_law__1656 (fun _ _ h => False.elim h) (fun r_3 M_3 h_3 => ?_)
  obtain ⟨rfl, rfl⟩ := h_3
  rw [gi_opS (fun _ => z_Display)]
  refine z_iload g dL_law__1659 rfl ?_
  refine z_icmp_eq (tgt := 1666) g dL_law__1661 (by decide) (fun _ => ?_) (fun h => absurd rfl h)
  refine z_iload g dL_law__1666 rfl ?_
  refine z_if_ne (tgt := 1682) g dL_law__1668 (by decide) (fun hc_ => ?_) (fun hc_ => ?_)
  · refine z_goto (tgt := 2707) g dL_law__1682 (by decide) ?_
    exact z_to (kk _ ⟨_, _, hX2, hM2, hV2, sb2⟩) ⟨rfl, rfl, rfl, rfl, rfl, trivial⟩
  have hv_ := hans hc_
  have hw_ := ho2.trans hv_
  rw [opV_z hc_]
  refine z_aload_n g dL_law__1671 rfl ?_
  refine z_iconst (v := 0) g dL_law__1672 (by decide) ?_
  refine z_laldk (k := 290) g (by rw [sb2.1]) (by decide) (by rw [sb2.2]; exact in01) dL_law__1673 ?_
  rw [show (0 : Int32).toNatClampNeg = 0 from rfl, hw_]
  refine z_lload g dL_law__1674 rfl ?_
  refine z_lcmp g dL_law__1676 ?_
  refine z_if_eq (tgt := 1682) g dL_law__1677 (by decide) (fun _ => ?_) (fun h => absurd ((lg_cmp_eq _ _).mpr rfl) h)
  refine z_goto (tgt := 2707) g dL_law__1682 (by decide) ?_
  exact z_to (kk _ ⟨_, _, hX2, hM2, hV2, sb2⟩) ⟨rfl, rfl, rfl, rfl, rfl, trivial⟩
set_option maxHeartbeats 4000000 in
set_option maxRecDepth 100000 in
theorem lc_19 {X : Cx} {A : Nat → Nat} {b x m o L i cs sl : Nat} {xs : Nat → Int32} {M : Mm} (g : Gd X cL_law_ RL) (hN : xN X = 8) (hR : xR X = room_1) (hL : L ≤ 3072) (hi : 6 * i + 6 ≤ L) (hcs : cs + 16 ≤ (xR X).cells) (hss : sl + 500 ≤ (xR X).slots) (hSc : ScX X b L xs) (hLI : LI A x m o M)
    (kk : ∀ M', LI A x m o M' → Z X M' (cs + 16) (sl + 500) 2707 [(0, .ref b), (1, .ref x), (2, .ref m), (3, .ref o), (4, .int (nI (6 * i)))] []) : Z X M cs sl 1685 [(0, .ref b), (1, .ref x), (2, .ref m), (3, .ref o), (4, .int (nI (6 * i)))] [] := by
  obtain ⟨S, B, hX, hM, hV, sb⟩ := hLI
  refine z_aload_n g dL_law__1685 rfl ?_
  refine z_aload_n g dL_law__1686 rfl ?_
  refine z_iload g dL_law__1687 rfl ?_
  refine z_iconst (v := 1) g dL_law__1689 (by decide) ?_
  refine z_iadd g dL_law__1690 ?_
  rw [nI_l1]
  refine z_sld g hSc (vp_in_nI (by omega) (by omega)) dL_law__1691 ?_
  rw [nI_clamp (show 6 * i + 1 < 2 ^ 31 by omega)]
  refine z_aload_n g dL_law__1692 rfl ?_
  refine z_iload g dL_law__1693 rfl ?_
  refine z_iconst (v := 2) g dL_law__1695 (by decide) ?_
  refine z_iadd g dL_law__1696 ?_
  rw [nI_l2]
  refine z_sld g hSc (vp_in_nI (by omega) (by omega)) dL_law__1697 ?_
  rw [nI_clamp (show 6 * i + 2 < 2 ^ 31 by omega)]
  refine z_aload_n g dL_law__1698 rfl ?_
  refine z_iload g dL_law__1699 rfl ?_
  refine z_iconst (v := 3) g dL_law__1701 (by decide) ?_
  refine z_iadd g dL_law__1702 ?_
  rw [nI_l3]
  refine z_sld g hSc (vp_in_nI (by omega) (by omega)) dL_law__1703 ?_
  rw [nI_clamp (show 6 * i + 3 < 2 ^ 31 by omega)]
  refine z_aload_n g dL_law__1704 rfl ?_
  refine z_callSH g _ _ csh_L_table (w_table _ M hX hV o sb.1 sb.2 _ _ _) rfl (by rw [hR]; decide) (by exact hcs) (by exact hss) (Nat.le_of_ble_eq_true rfl) rfl dL_law__1705 (fun _ _ h => False.elim h) (fun r_1 M1 h_1 => ?_)
  obtain ⟨rfl, hans, g1, B1, hX1⟩ := h_1
  have hM1 := hM.agr g1 (fun c k z => TM_TL z)
  have sb1 := sb.keepL g1
  refine z_istore g dL_law__1708 (by rw [hN]; decide) ?_
  refine z_aload_n g dL_law__1710 rfl ?_
  refine z_aload_n g dL_law__1711 rfl ?_
  refine z_iload g dL_law__1712 rfl ?_
  refine z_iconst (v := 1) g dL_law__1714 (by decide) ?_
  refine z_iadd g dL_law__1715 ?_
  rw [nI_l1]
  refine z_sld g hSc (vp_in_nI (by omega) (by omega)) dL_law__1716 ?_
  rw [nI_clamp (show 6 * i + 1 < 2 ^ 31 by omega)]
  refine z_aload_n g dL_law__1717 rfl ?_
  refine z_iload g dL_law__1718 rfl ?_
  refine z_iconst (v := 2) g dL_law__1720 (by decide) ?_
  refine z_iadd g dL_law__1721 ?_
  rw [nI_l2]
  refine z_sld g hSc (vp_in_nI (by omega) (by omega)) dL_law__1722 ?_
  rw [nI_clamp (show 6 * i + 2 < 2 ^ 31 by omega)]
  refine z_aload_n g dL_law__1723 rfl ?_
  refine z_iload g dL_law__1724 rfl ?_
  refine z_iconst (v := 3) g dL_law__1726 (by decide) ?_
  refine z_iadd g dL_law__1727 ?_
  rw [nI_l3]
  refine z_sld g hSc (vp_in_nI (by omega) (by omega)) dL_law__1728 ?_
  rw [nI_clamp (show 6 * i + 3 < 2 ^ 31 by omega)]
  refine z_callV g _ _ cv_L_208 (m_table _ M1 hM1 hV _ _ _) hM1.k0 (by decide) rfl (by rw [hR]; decide) (by exact hcs) (by exact hss) (Nat.le_of_ble_eq_true rfl) rfl dL_law__1729 (fun _ _ h => False.elim h) (fun r_2 M2 h_2 => ?_)
  obtain ⟨rfl, hM2, g2⟩ := h_2
  obtain ⟨hV2, hX2⟩ := lwstp hX1 hM1 g2 (opS_INV hV (fun h => I_Table hV h))
  obtain ⟨sb2, ho2⟩ := sb1.keepM (g2.agr hM1)
  refine z_istore g dL_law__1732 (by rw [hN]; decide) ?_
  refine z_aload_n g dL_law__1734 rfl ?_
  refine z_callV g _ _ cv_L_138 (n_thr _ M2 hM2) hM2.k0 (by decide) rfl (by rw [hR]; decide) (by exact hcs) (by exact hss) (Nat.le_of_ble_eq_true rfl) rfl dL_law__1735 (fun _ _ h => False.elim h) (fun r_3 M_3 h_3 => ?_)
  obtain ⟨rfl, rfl⟩ := h_3
  rw [gi_opS (fun _ => z_Table)]
  refine z_iload g dL_law__1738 rfl ?_
  refine z_icmp_eq (tgt := 1745) g dL_law__1740 (by decide) (fun _ => ?_) (fun h => absurd rfl h)
  refine z_iload g dL_law__1745 rfl ?_
  refine z_if_ne (tgt := 1762) g dL_law__1747 (by decide) (fun hc_ => ?_) (fun hc_ => ?_)
  · refine z_goto (tgt := 2707) g dL_law__1762 (by decide) ?_
    exact z_to (kk _ ⟨_, _, hX2, hM2, hV2, sb2⟩) ⟨rfl, rfl, rfl, rfl, rfl, trivial⟩
  have hv_ := hans hc_
  have hw_ := ho2.trans hv_
  rw [opV_z hc_]
  refine z_aload_n g dL_law__1750 rfl ?_
  refine z_iconst (v := 0) g dL_law__1751 (by decide) ?_
  refine z_laldk (k := 290) g (by rw [sb2.1]) (by decide) (by rw [sb2.2]; exact in01) dL_law__1752 ?_
  rw [show (0 : Int32).toNatClampNeg = 0 from rfl, hw_]
  refine z_iload g dL_law__1753 rfl ?_
  refine z_i2l g dL_law__1755 ?_
  refine z_lcmp g dL_law__1756 ?_
  refine z_if_eq (tgt := 1762) g dL_law__1757 (by decide) (fun _ => ?_) (fun h => absurd ((lg_cmp_eq _ _).mpr rfl) h)
  refine z_goto (tgt := 2707) g dL_law__1762 (by decide) ?_
  exact z_to (kk _ ⟨_, _, hX2, hM2, hV2, sb2⟩) ⟨rfl, rfl, rfl, rfl, rfl, trivial⟩
set_option maxHeartbeats 4000000 in
set_option maxRecDepth 100000 in
theorem lc_20 {X : Cx} {A : Nat → Nat} {b x m o L i cs sl : Nat} {xs : Nat → Int32} {M : Mm} (g : Gd X cL_law_ RL) (hN : xN X = 8) (hR : xR X = room_1) (hL : L ≤ 3072) (hi : 6 * i + 6 ≤ L) (hcs : cs + 16 ≤ (xR X).cells) (hss : sl + 500 ≤ (xR X).slots) (hSc : ScX X b L xs) (hLI : LI A x m o M)
    (kk : ∀ M', LI A x m o M' → Z X M' (cs + 16) (sl + 500) 2707 [(0, .ref b), (1, .ref x), (2, .ref m), (3, .ref o), (4, .int (nI (6 * i)))] []) : Z X M cs sl 1765 [(0, .ref b), (1, .ref x), (2, .ref m), (3, .ref o), (4, .int (nI (6 * i)))] [] := by
  obtain ⟨S, B, hX, hM, hV, sb⟩ := hLI
  refine z_aload_n g dL_law__1765 rfl ?_
  refine z_aload_n g dL_law__1766 rfl ?_
  refine z_iload g dL_law__1767 rfl ?_
  refine z_iconst (v := 1) g dL_law__1769 (by decide) ?_
  refine z_iadd g dL_law__1770 ?_
  rw [nI_l1]
  refine z_sld g hSc (vp_in_nI (by omega) (by omega)) dL_law__1771 ?_
  rw [nI_clamp (show 6 * i + 1 < 2 ^ 31 by omega)]
  refine z_i2l g dL_law__1772 ?_
  refine z_bipush (v := 32) g dL_law__1773 (by decide) ?_
  refine z_lshl g dL_law__1775 ?_
  refine z_aload_n g dL_law__1776 rfl ?_
  refine z_iload g dL_law__1777 rfl ?_
  refine z_iconst (v := 2) g dL_law__1779 (by decide) ?_
  refine z_iadd g dL_law__1780 ?_
  rw [nI_l2]
  refine z_sld g hSc (vp_in_nI (by omega) (by omega)) dL_law__1781 ?_
  rw [nI_clamp (show 6 * i + 2 < 2 ^ 31 by omega)]
  refine z_i2l g dL_law__1782 ?_
  refine z_ldc2 g dL_law__1783 kc_L_157 ?_
  refine z_land g dL_law__1786 ?_
  refine z_lor g dL_law__1787 ?_
  refine z_aload_n g dL_law__1788 rfl ?_
  refine z_iload g dL_law__1789 rfl ?_
  refine z_iconst (v := 3) g dL_law__1791 (by decide) ?_
  refine z_iadd g dL_law__1792 ?_
  rw [nI_l3]
  refine z_sld g hSc (vp_in_nI (by omega) (by omega)) dL_law__1793 ?_
  rw [nI_clamp (show 6 * i + 3 < 2 ^ 31 by omega)]
  refine z_aload_n g dL_law__1794 rfl ?_
  refine z_callSH g _ _ csh_L_write (w_write _ M hX hV o sb.1 sb.2 _ _) rfl (by rw [hR]; decide) (by exact hcs) (by exact hss) (Nat.le_of_ble_eq_true rfl) rfl dL_law__1795 (fun _ _ h => False.elim h) (fun r_1 M1 h_1 => ?_)
  obtain ⟨rfl, hans, g1, B1, hX1⟩ := h_1
  have hM1 := hM.agr g1 (fun c k z => TM_TL z)
  have sb1 := sb.keepL g1
  refine z_istore g dL_law__1798 (by rw [hN]; decide) ?_
  refine z_aload_n g dL_law__1800 rfl ?_
  refine z_aload_n g dL_law__1801 rfl ?_
  refine z_iload g dL_law__1802 rfl ?_
  refine z_iconst (v := 1) g dL_law__1804 (by decide) ?_
  refine z_iadd g dL_law__1805 ?_
  rw [nI_l1]
  refine z_sld g hSc (vp_in_nI (by omega) (by omega)) dL_law__1806 ?_
  rw [nI_clamp (show 6 * i + 1 < 2 ^ 31 by omega)]
  refine z_i2l g dL_law__1807 ?_
  refine z_bipush (v := 32) g dL_law__1808 (by decide) ?_
  refine z_lshl g dL_law__1810 ?_
  refine z_aload_n g dL_law__1811 rfl ?_
  refine z_iload g dL_law__1812 rfl ?_
  refine z_iconst (v := 2) g dL_law__1814 (by decide) ?_
  refine z_iadd g dL_law__1815 ?_
  rw [nI_l2]
  refine z_sld g hSc (vp_in_nI (by omega) (by omega)) dL_law__1816 ?_
  rw [nI_clamp (show 6 * i + 2 < 2 ^ 31 by omega)]
  refine z_i2l g dL_law__1817 ?_
  refine z_ldc2 g dL_law__1818 kc_L_157 ?_
  refine z_land g dL_law__1821 ?_
  refine z_lor g dL_law__1822 ?_
  refine z_aload_n g dL_law__1823 rfl ?_
  refine z_iload g dL_law__1824 rfl ?_
  refine z_iconst (v := 3) g dL_law__1826 (by decide) ?_
  refine z_iadd g dL_law__1827 ?_
  rw [nI_l3]
  refine z_sld g hSc (vp_in_nI (by omega) (by omega)) dL_law__1828 ?_
  rw [nI_clamp (show 6 * i + 3 < 2 ^ 31 by omega)]
  refine z_callV g _ _ cv_L_212 (m_write _ M1 hM1 hV _ _) hM1.k0 (by decide) rfl (by rw [hR]; decide) (by exact hcs) (by exact hss) (Nat.le_of_ble_eq_true rfl) rfl dL_law__1829 (fun _ _ h => False.elim h) (fun r_2 M2 h_2 => ?_)
  obtain ⟨rfl, hM2, g2⟩ := h_2
  obtain ⟨hV2, hX2⟩ := lwstp hX1 hM1 g2 (opS_INV hV (fun h => I_Write hV h))
  obtain ⟨sb2, ho2⟩ := sb1.keepM (g2.agr hM1)
  refine z_lstore g dL_law__1832 (by rw [hN]; decide) ?_
  refine z_aload_n g dL_law__1834 rfl ?_
  refine z_callV g _ _ cv_L_138 (n_thr _ M2 hM2) hM2.k0 (by decide) rfl (by rw [hR]; decide) (by exact hcs) (by exact hss) (Nat.le_of_ble_eq_true rfl) rfl dL_law__1835 (fun _ _ h => False.elim h) (fun r_3 M_3 h_3 => ?_)
  obtain ⟨rfl, rfl⟩ := h_3
  rw [gi_opS (fun _ => z_Write)]
  refine z_iload g dL_law__1838 rfl ?_
  refine z_icmp_eq (tgt := 1845) g dL_law__1840 (by decide) (fun _ => ?_) (fun h => absurd rfl h)
  refine z_iload g dL_law__1845 rfl ?_
  refine z_if_ne (tgt := 1861) g dL_law__1847 (by decide) (fun hc_ => ?_) (fun hc_ => ?_)
  · refine z_goto (tgt := 2707) g dL_law__1861 (by decide) ?_
    exact z_to (kk _ ⟨_, _, hX2, hM2, hV2, sb2⟩) ⟨rfl, rfl, rfl, rfl, rfl, trivial⟩
  have hv_ := hans hc_
  have hw_ := ho2.trans hv_
  rw [opV_z hc_]
  refine z_aload_n g dL_law__1850 rfl ?_
  refine z_iconst (v := 0) g dL_law__1851 (by decide) ?_
  refine z_laldk (k := 290) g (by rw [sb2.1]) (by decide) (by rw [sb2.2]; exact in01) dL_law__1852 ?_
  rw [show (0 : Int32).toNatClampNeg = 0 from rfl, hw_]
  refine z_lload g dL_law__1853 rfl ?_
  refine z_lcmp g dL_law__1855 ?_
  refine z_if_eq (tgt := 1861) g dL_law__1856 (by decide) (fun _ => ?_) (fun h => absurd ((lg_cmp_eq _ _).mpr rfl) h)
  refine z_goto (tgt := 2707) g dL_law__1861 (by decide) ?_
  exact z_to (kk _ ⟨_, _, hX2, hM2, hV2, sb2⟩) ⟨rfl, rfl, rfl, rfl, rfl, trivial⟩
set_option maxHeartbeats 4000000 in
set_option maxRecDepth 100000 in
theorem lc_21 {X : Cx} {A : Nat → Nat} {b x m o L i cs sl : Nat} {xs : Nat → Int32} {M : Mm} (g : Gd X cL_law_ RL) (hN : xN X = 8) (hR : xR X = room_1) (hL : L ≤ 3072) (hi : 6 * i + 6 ≤ L) (hcs : cs + 16 ≤ (xR X).cells) (hss : sl + 500 ≤ (xR X).slots) (hSc : ScX X b L xs) (hLI : LI A x m o M)
    (kk : ∀ M', LI A x m o M' → Z X M' (cs + 16) (sl + 500) 2707 [(0, .ref b), (1, .ref x), (2, .ref m), (3, .ref o), (4, .int (nI (6 * i)))] []) : Z X M cs sl 1864 [(0, .ref b), (1, .ref x), (2, .ref m), (3, .ref o), (4, .int (nI (6 * i)))] [] := by
  obtain ⟨S, B, hX, hM, hV, sb⟩ := hLI
  refine z_aload_n g dL_law__1864 rfl ?_
  refine z_aload_n g dL_law__1865 rfl ?_
  refine z_iload g dL_law__1866 rfl ?_
  refine z_iconst (v := 1) g dL_law__1868 (by decide) ?_
  refine z_iadd g dL_law__1869 ?_
  rw [nI_l1]
  refine z_sld g hSc (vp_in_nI (by omega) (by omega)) dL_law__1870 ?_
  rw [nI_clamp (show 6 * i + 1 < 2 ^ 31 by omega)]
  refine z_i2l g dL_law__1871 ?_
  refine z_bipush (v := 32) g dL_law__1872 (by decide) ?_
  refine z_lshl g dL_law__1874 ?_
  refine z_aload_n g dL_law__1875 rfl ?_
  refine z_iload g dL_law__1876 rfl ?_
  refine z_iconst (v := 2) g dL_law__1878 (by decide) ?_
  refine z_iadd g dL_law__1879 ?_
  rw [nI_l2]
  refine z_sld g hSc (vp_in_nI (by omega) (by omega)) dL_law__1880 ?_
  rw [nI_clamp (show 6 * i + 2 < 2 ^ 31 by omega)]
  refine z_i2l g dL_law__1881 ?_
  refine z_ldc2 g dL_law__1882 kc_L_157 ?_
  refine z_land g dL_law__1885 ?_
  refine z_lor g dL_law__1886 ?_
  refine z_aload_n g dL_law__1887 rfl ?_
  refine z_iload g dL_law__1888 rfl ?_
  refine z_iconst (v := 3) g dL_law__1890 (by decide) ?_
  refine z_iadd g dL_law__1891 ?_
  rw [nI_l3]
  refine z_sld g hSc (vp_in_nI (by omega) (by omega)) dL_law__1892 ?_
  rw [nI_clamp (show 6 * i + 3 < 2 ^ 31 by omega)]
  refine z_aload_n g dL_law__1893 rfl ?_
  refine z_callSH g _ _ csh_L_back (w_back _ M hX hV o sb.1 sb.2 _ _) rfl (by rw [hR]; decide) (by exact hcs) (by exact hss) (Nat.le_of_ble_eq_true rfl) rfl dL_law__1894 (fun _ _ h => False.elim h) (fun r_1 M1 h_1 => ?_)
  obtain ⟨rfl, hans, g1, B1, hX1⟩ := h_1
  have hM1 := hM.agr g1 (fun c k z => TM_TL z)
  have sb1 := sb.keepL g1
  refine z_istore g dL_law__1897 (by rw [hN]; decide) ?_
  refine z_aload_n g dL_law__1899 rfl ?_
  refine z_aload_n g dL_law__1900 rfl ?_
  refine z_iload g dL_law__1901 rfl ?_
  refine z_iconst (v := 1) g dL_law__1903 (by decide) ?_
  refine z_iadd g dL_law__1904 ?_
  rw [nI_l1]
  refine z_sld g hSc (vp_in_nI (by omega) (by omega)) dL_law__1905 ?_
  rw [nI_clamp (show 6 * i + 1 < 2 ^ 31 by omega)]
  refine z_i2l g dL_law__1906 ?_
  refine z_bipush (v := 32) g dL_law__1907 (by decide) ?_
  refine z_lshl g dL_law__1909 ?_
  refine z_aload_n g dL_law__1910 rfl ?_
  refine z_iload g dL_law__1911 rfl ?_
  refine z_iconst (v := 2) g dL_law__1913 (by decide) ?_
  refine z_iadd g dL_law__1914 ?_
  rw [nI_l2]
  refine z_sld g hSc (vp_in_nI (by omega) (by omega)) dL_law__1915 ?_
  rw [nI_clamp (show 6 * i + 2 < 2 ^ 31 by omega)]
  refine z_i2l g dL_law__1916 ?_
  refine z_ldc2 g dL_law__1917 kc_L_157 ?_
  refine z_land g dL_law__1920 ?_
  refine z_lor g dL_law__1921 ?_
  refine z_aload_n g dL_law__1922 rfl ?_
  refine z_iload g dL_law__1923 rfl ?_
  refine z_iconst (v := 3) g dL_law__1925 (by decide) ?_
  refine z_iadd g dL_law__1926 ?_
  rw [nI_l3]
  refine z_sld g hSc (vp_in_nI (by omega) (by omega)) dL_law__1927 ?_
  rw [nI_clamp (show 6 * i + 3 < 2 ^ 31 by omega)]
  refine z_callV g _ _ cv_L_215 (m_back _ M1 hM1 hV _ _) hM1.k0 (by decide) rfl (by rw [hR]; decide) (by exact hcs) (by exact hss) (Nat.le_of_ble_eq_true rfl) rfl dL_law__1928 (fun _ _ h => False.elim h) (fun r_2 M2 h_2 => ?_)
  obtain ⟨rfl, hM2, g2⟩ := h_2
  obtain ⟨hV2, hX2⟩ := lwstp hX1 hM1 g2 (opS_INV hV (fun h => I_Write hV h))
  obtain ⟨sb2, ho2⟩ := sb1.keepM (g2.agr hM1)
  refine z_lstore g dL_law__1931 (by rw [hN]; decide) ?_
  refine z_aload_n g dL_law__1933 rfl ?_
  refine z_callV g _ _ cv_L_138 (n_thr _ M2 hM2) hM2.k0 (by decide) rfl (by rw [hR]; decide) (by exact hcs) (by exact hss) (Nat.le_of_ble_eq_true rfl) rfl dL_law__1934 (fun _ _ h => False.elim h) (fun r_3 M_3 h_3 => ?_)
  obtain ⟨rfl, rfl⟩ := h_3
  rw [gi_opS (fun _ => z_Write)]
  refine z_iload g dL_law__1937 rfl ?_
  refine z_icmp_eq (tgt := 1944) g dL_law__1939 (by decide) (fun _ => ?_) (fun h => absurd rfl h)
  refine z_iload g dL_law__1944 rfl ?_
  refine z_if_ne (tgt := 1960) g dL_law__1946 (by decide) (fun hc_ => ?_) (fun hc_ => ?_)
  · refine z_goto (tgt := 2707) g dL_law__1960 (by decide) ?_
    exact z_to (kk _ ⟨_, _, hX2, hM2, hV2, sb2⟩) ⟨rfl, rfl, rfl, rfl, rfl, trivial⟩
  have hv_ := hans hc_
  have hw_ := ho2.trans hv_
  rw [opV_z hc_]
  refine z_aload_n g dL_law__1949 rfl ?_
  refine z_iconst (v := 0) g dL_law__1950 (by decide) ?_
  refine z_laldk (k := 290) g (by rw [sb2.1]) (by decide) (by rw [sb2.2]; exact in01) dL_law__1951 ?_
  rw [show (0 : Int32).toNatClampNeg = 0 from rfl, hw_]
  refine z_lload g dL_law__1952 rfl ?_
  refine z_lcmp g dL_law__1954 ?_
  refine z_if_eq (tgt := 1960) g dL_law__1955 (by decide) (fun _ => ?_) (fun h => absurd ((lg_cmp_eq _ _).mpr rfl) h)
  refine z_goto (tgt := 2707) g dL_law__1960 (by decide) ?_
  exact z_to (kk _ ⟨_, _, hX2, hM2, hV2, sb2⟩) ⟨rfl, rfl, rfl, rfl, rfl, trivial⟩
set_option maxHeartbeats 4000000 in
set_option maxRecDepth 100000 in
theorem lc_22 {X : Cx} {A : Nat → Nat} {b x m o L i cs sl : Nat} {xs : Nat → Int32} {M : Mm} (g : Gd X cL_law_ RL) (hN : xN X = 8) (hR : xR X = room_1) (hL : L ≤ 3072) (hi : 6 * i + 6 ≤ L) (hcs : cs + 16 ≤ (xR X).cells) (hss : sl + 500 ≤ (xR X).slots) (hSc : ScX X b L xs) (hLI : LI A x m o M)
    (kk : ∀ M', LI A x m o M' → Z X M' (cs + 16) (sl + 500) 2707 [(0, .ref b), (1, .ref x), (2, .ref m), (3, .ref o), (4, .int (nI (6 * i)))] []) : Z X M cs sl 1963 [(0, .ref b), (1, .ref x), (2, .ref m), (3, .ref o), (4, .int (nI (6 * i)))] [] := by
  obtain ⟨S, B, hX, hM, hV, sb⟩ := hLI
  refine z_aload_n g dL_law__1963 rfl ?_
  refine z_aload_n g dL_law__1964 rfl ?_
  refine z_iload g dL_law__1965 rfl ?_
  refine z_iconst (v := 1) g dL_law__1967 (by decide) ?_
  refine z_iadd g dL_law__1968 ?_
  rw [nI_l1]
  refine z_sld g hSc (vp_in_nI (by omega) (by omega)) dL_law__1969 ?_
  rw [nI_clamp (show 6 * i + 1 < 2 ^ 31 by omega)]
  refine z_aload_n g dL_law__1970 rfl ?_
  refine z_callSH g _ _ csh_L_loss (w_loss _ M hX hV o sb.1 sb.2 _) rfl (by rw [hR]; decide) (by exact hcs) (by exact hss) (Nat.le_of_ble_eq_true rfl) rfl dL_law__1971 (fun _ _ h => False.elim h) (fun r_1 M1 h_1 => ?_)
  obtain ⟨rfl, hans, g1, B1, hX1⟩ := h_1
  have hM1 := hM.agr g1 (fun c k z => TM_TL z)
  have sb1 := sb.keepL g1
  refine z_istore g dL_law__1974 (by rw [hN]; decide) ?_
  refine z_aload_n g dL_law__1976 rfl ?_
  refine z_aload_n g dL_law__1977 rfl ?_
  refine z_iload g dL_law__1978 rfl ?_
  refine z_iconst (v := 1) g dL_law__1980 (by decide) ?_
  refine z_iadd g dL_law__1981 ?_
  rw [nI_l1]
  refine z_sld g hSc (vp_in_nI (by omega) (by omega)) dL_law__1982 ?_
  rw [nI_clamp (show 6 * i + 1 < 2 ^ 31 by omega)]
  refine z_callV g _ _ cv_L_218 (m_loss _ M1 hM1 hV _) hM1.k0 (by decide) rfl (by rw [hR]; decide) (by exact hcs) (by exact hss) (Nat.le_of_ble_eq_true rfl) rfl dL_law__1983 (fun _ _ h => False.elim h) (fun r_2 M2 h_2 => ?_)
  obtain ⟨rfl, hM2, g2⟩ := h_2
  obtain ⟨hV2, hX2⟩ := lwstp hX1 hM1 g2 (opS_INV hV (fun h => I_Loss hV h))
  obtain ⟨sb2, ho2⟩ := sb1.keepM (g2.agr hM1)
  refine z_istore g dL_law__1986 (by rw [hN]; decide) ?_
  refine z_aload_n g dL_law__1988 rfl ?_
  refine z_callV g _ _ cv_L_138 (n_thr _ M2 hM2) hM2.k0 (by decide) rfl (by rw [hR]; decide) (by exact hcs) (by exact hss) (Nat.le_of_ble_eq_true rfl) rfl dL_law__1989 (fun _ _ h => False.elim h) (fun r_3 M_3 h_3 => ?_)
  obtain ⟨rfl, rfl⟩ := h_3
  rw [gi_opS (fun _ => z_Loss)]
  refine z_iload g dL_law__1992 rfl ?_
  refine z_icmp_eq (tgt := 1999) g dL_law__1994 (by decide) (fun _ => ?_) (fun h => absurd rfl h)
  refine z_iload g dL_law__1999 rfl ?_
  refine z_if_ne (tgt := 2016) g dL_law__2001 (by decide) (fun hc_ => ?_) (fun hc_ => ?_)
  · refine z_goto (tgt := 2707) g dL_law__2016 (by decide) ?_
    exact z_to (kk _ ⟨_, _, hX2, hM2, hV2, sb2⟩) ⟨rfl, rfl, rfl, rfl, rfl, trivial⟩
  have hv_ := hans hc_
  have hw_ := ho2.trans hv_
  rw [opV_z hc_]
  refine z_aload_n g dL_law__2004 rfl ?_
  refine z_iconst (v := 0) g dL_law__2005 (by decide) ?_
  refine z_laldk (k := 290) g (by rw [sb2.1]) (by decide) (by rw [sb2.2]; exact in01) dL_law__2006 ?_
  rw [show (0 : Int32).toNatClampNeg = 0 from rfl, hw_]
  refine z_iload g dL_law__2007 rfl ?_
  refine z_i2l g dL_law__2009 ?_
  refine z_lcmp g dL_law__2010 ?_
  refine z_if_eq (tgt := 2016) g dL_law__2011 (by decide) (fun _ => ?_) (fun h => absurd ((lg_cmp_eq _ _).mpr rfl) h)
  refine z_goto (tgt := 2707) g dL_law__2016 (by decide) ?_
  exact z_to (kk _ ⟨_, _, hX2, hM2, hV2, sb2⟩) ⟨rfl, rfl, rfl, rfl, rfl, trivial⟩
set_option maxHeartbeats 4000000 in
set_option maxRecDepth 100000 in
theorem lc_23 {X : Cx} {A : Nat → Nat} {b x m o L i cs sl : Nat} {xs : Nat → Int32} {M : Mm} (g : Gd X cL_law_ RL) (hN : xN X = 8) (hR : xR X = room_1) (hL : L ≤ 3072) (hi : 6 * i + 6 ≤ L) (hcs : cs + 16 ≤ (xR X).cells) (hss : sl + 500 ≤ (xR X).slots) (hSc : ScX X b L xs) (hLI : LI A x m o M)
    (kk : ∀ M', LI A x m o M' → Z X M' (cs + 16) (sl + 500) 2707 [(0, .ref b), (1, .ref x), (2, .ref m), (3, .ref o), (4, .int (nI (6 * i)))] []) : Z X M cs sl 2019 [(0, .ref b), (1, .ref x), (2, .ref m), (3, .ref o), (4, .int (nI (6 * i)))] [] := by
  obtain ⟨S, B, hX, hM, hV, sb⟩ := hLI
  refine z_aload_n g dL_law__2019 rfl ?_
  refine z_aload_n g dL_law__2020 rfl ?_
  refine z_iload g dL_law__2021 rfl ?_
  refine z_iconst (v := 1) g dL_law__2023 (by decide) ?_
  refine z_iadd g dL_law__2024 ?_
  rw [nI_l1]
  refine z_sld g hSc (vp_in_nI (by omega) (by omega)) dL_law__2025 ?_
  rw [nI_clamp (show 6 * i + 1 < 2 ^ 31 by omega)]
  refine z_i2l g dL_law__2026 ?_
  refine z_bipush (v := 32) g dL_law__2027 (by decide) ?_
  refine z_lshl g dL_law__2029 ?_
  refine z_aload_n g dL_law__2030 rfl ?_
  refine z_iload g dL_law__2031 rfl ?_
  refine z_iconst (v := 2) g dL_law__2033 (by decide) ?_
  refine z_iadd g dL_law__2034 ?_
  rw [nI_l2]
  refine z_sld g hSc (vp_in_nI (by omega) (by omega)) dL_law__2035 ?_
  rw [nI_clamp (show 6 * i + 2 < 2 ^ 31 by omega)]
  refine z_i2l g dL_law__2036 ?_
  refine z_ldc2 g dL_law__2037 kc_L_157 ?_
  refine z_land g dL_law__2040 ?_
  refine z_lor g dL_law__2041 ?_
  refine z_aload_n g dL_law__2042 rfl ?_
  refine z_iload g dL_law__2043 rfl ?_
  refine z_iconst (v := 3) g dL_law__2045 (by decide) ?_
  refine z_iadd g dL_law__2046 ?_
  rw [nI_l3]
  refine z_sld g hSc (vp_in_nI (by omega) (by omega)) dL_law__2047 ?_
  rw [nI_clamp (show 6 * i + 3 < 2 ^ 31 by omega)]
  refine z_aload_n g dL_law__2048 rfl ?_
  refine z_iload g dL_law__2049 rfl ?_
  refine z_iconst (v := 4) g dL_law__2051 (by decide) ?_
  refine z_iadd g dL_law__2052 ?_
  rw [nI_l4]
  refine z_sld g hSc (vp_in_nI (by omega) (by omega)) dL_law__2053 ?_
  rw [nI_clamp (show 6 * i + 4 < 2 ^ 31 by omega)]
  refine z_aload_n g dL_law__2054 rfl ?_
  refine z_callSH g _ _ csh_L_reading (w_reading _ M hX hV o sb.1 sb.2 _ _ _) rfl (by rw [hR]; decide) (by exact hcs) (by exact hss) (Nat.le_of_ble_eq_true rfl) rfl dL_law__2055 (fun _ _ h => False.elim h) (fun r_1 M1 h_1 => ?_)
  obtain ⟨rfl, hans, g1, B1, hX1⟩ := h_1
  have hM1 := hM.agr g1 (fun c k z => TM_TL z)
  have sb1 := sb.keepL g1
  refine z_istore g dL_law__2058 (by rw [hN]; decide) ?_
  refine z_aload_n g dL_law__2060 rfl ?_
  refine z_aload_n g dL_law__2061 rfl ?_
  refine z_iload g dL_law__2062 rfl ?_
  refine z_iconst (v := 1) g dL_law__2064 (by decide) ?_
  refine z_iadd g dL_law__2065 ?_
  rw [nI_l1]
  refine z_sld g hSc (vp_in_nI (by omega) (by omega)) dL_law__2066 ?_
  rw [nI_clamp (show 6 * i + 1 < 2 ^ 31 by omega)]
  refine z_i2l g dL_law__2067 ?_
  refine z_bipush (v := 32) g dL_law__2068 (by decide) ?_
  refine z_lshl g dL_law__2070 ?_
  refine z_aload_n g dL_law__2071 rfl ?_
  refine z_iload g dL_law__2072 rfl ?_
  refine z_iconst (v := 2) g dL_law__2074 (by decide) ?_
  refine z_iadd g dL_law__2075 ?_
  rw [nI_l2]
  refine z_sld g hSc (vp_in_nI (by omega) (by omega)) dL_law__2076 ?_
  rw [nI_clamp (show 6 * i + 2 < 2 ^ 31 by omega)]
  refine z_i2l g dL_law__2077 ?_
  refine z_ldc2 g dL_law__2078 kc_L_157 ?_
  refine z_land g dL_law__2081 ?_
  refine z_lor g dL_law__2082 ?_
  refine z_aload_n g dL_law__2083 rfl ?_
  refine z_iload g dL_law__2084 rfl ?_
  refine z_iconst (v := 3) g dL_law__2086 (by decide) ?_
  refine z_iadd g dL_law__2087 ?_
  rw [nI_l3]
  refine z_sld g hSc (vp_in_nI (by omega) (by omega)) dL_law__2088 ?_
  rw [nI_clamp (show 6 * i + 3 < 2 ^ 31 by omega)]
  refine z_aload_n g dL_law__2089 rfl ?_
  refine z_iload g dL_law__2090 rfl ?_
  refine z_iconst (v := 4) g dL_law__2092 (by decide) ?_
  refine z_iadd g dL_law__2093 ?_
  rw [nI_l4]
  refine z_sld g hSc (vp_in_nI (by omega) (by omega)) dL_law__2094 ?_
  rw [nI_clamp (show 6 * i + 4 < 2 ^ 31 by omega)]
  refine z_callV g _ _ cv_L_222 (m_reading _ M1 hM1 hV _ _ _) hM1.k0 (by decide) rfl (by rw [hR]; decide) (by exact hcs) (by exact hss) (Nat.le_of_ble_eq_true rfl) rfl dL_law__2095 (fun _ _ h => False.elim h) (fun r_2 M2 h_2 => ?_)
  obtain ⟨rfl, hM2, g2⟩ := h_2
  obtain ⟨hV2, hX2⟩ := lwstp hX1 hM1 g2 (opS_INV hV (fun h => I_Reading hV h))
  obtain ⟨sb2, ho2⟩ := sb1.keepM (g2.agr hM1)
  refine z_istore g dL_law__2098 (by rw [hN]; decide) ?_
  refine z_aload_n g dL_law__2100 rfl ?_
  refine z_callV g _ _ cv_L_138 (n_thr _ M2 hM2) hM2.k0 (by decide) rfl (by rw [hR]; decide) (by exact hcs) (by exact hss) (Nat.le_of_ble_eq_true rfl) rfl dL_law__2101 (fun _ _ h => False.elim h) (fun r_3 M_3 h_3 => ?_)
  obtain ⟨rfl, rfl⟩ := h_3
  rw [gi_opS (fun _ => z_Reading)]
  refine z_iload g dL_law__2104 rfl ?_
  refine z_icmp_eq (tgt := 2111) g dL_law__2106 (by decide) (fun _ => ?_) (fun h => absurd rfl h)
  refine z_iload g dL_law__2111 rfl ?_
  refine z_if_ne (tgt := 2128) g dL_law__2113 (by decide) (fun hc_ => ?_) (fun hc_ => ?_)
  · refine z_goto (tgt := 2707) g dL_law__2128 (by decide) ?_
    exact z_to (kk _ ⟨_, _, hX2, hM2, hV2, sb2⟩) ⟨rfl, rfl, rfl, rfl, rfl, trivial⟩
  have hv_ := hans hc_
  have hw_ := ho2.trans hv_
  rw [opV_z hc_]
  refine z_aload_n g dL_law__2116 rfl ?_
  refine z_iconst (v := 0) g dL_law__2117 (by decide) ?_
  refine z_laldk (k := 290) g (by rw [sb2.1]) (by decide) (by rw [sb2.2]; exact in01) dL_law__2118 ?_
  rw [show (0 : Int32).toNatClampNeg = 0 from rfl, hw_]
  refine z_iload g dL_law__2119 rfl ?_
  refine z_i2l g dL_law__2121 ?_
  refine z_lcmp g dL_law__2122 ?_
  refine z_if_eq (tgt := 2128) g dL_law__2123 (by decide) (fun _ => ?_) (fun h => absurd ((lg_cmp_eq _ _).mpr rfl) h)
  refine z_goto (tgt := 2707) g dL_law__2128 (by decide) ?_
  exact z_to (kk _ ⟨_, _, hX2, hM2, hV2, sb2⟩) ⟨rfl, rfl, rfl, rfl, rfl, trivial⟩
set_option maxHeartbeats 4000000 in
set_option maxRecDepth 100000 in
theorem lc_24 {X : Cx} {A : Nat → Nat} {b x m o L i cs sl : Nat} {xs : Nat → Int32} {M : Mm} (g : Gd X cL_law_ RL) (hN : xN X = 8) (hR : xR X = room_1) (hL : L ≤ 3072) (hi : 6 * i + 6 ≤ L) (hcs : cs + 16 ≤ (xR X).cells) (hss : sl + 500 ≤ (xR X).slots) (hSc : ScX X b L xs) (hLI : LI A x m o M)
    (kk : ∀ M', LI A x m o M' → Z X M' (cs + 16) (sl + 500) 2707 [(0, .ref b), (1, .ref x), (2, .ref m), (3, .ref o), (4, .int (nI (6 * i)))] []) : Z X M cs sl 2131 [(0, .ref b), (1, .ref x), (2, .ref m), (3, .ref o), (4, .int (nI (6 * i)))] [] := by
  obtain ⟨S, B, hX, hM, hV, sb⟩ := hLI
  refine z_aload_n g dL_law__2131 rfl ?_
  refine z_aload_n g dL_law__2132 rfl ?_
  refine z_iload g dL_law__2133 rfl ?_
  refine z_iconst (v := 1) g dL_law__2135 (by decide) ?_
  refine z_iadd g dL_law__2136 ?_
  rw [nI_l1]
  refine z_sld g hSc (vp_in_nI (by omega) (by omega)) dL_law__2137 ?_
  rw [nI_clamp (show 6 * i + 1 < 2 ^ 31 by omega)]
  refine z_aload_n g dL_law__2138 rfl ?_
  refine z_iload g dL_law__2139 rfl ?_
  refine z_iconst (v := 2) g dL_law__2141 (by decide) ?_
  refine z_iadd g dL_law__2142 ?_
  rw [nI_l2]
  refine z_sld g hSc (vp_in_nI (by omega) (by omega)) dL_law__2143 ?_
  rw [nI_clamp (show 6 * i + 2 < 2 ^ 31 by omega)]
  refine z_aload_n g dL_law__2144 rfl ?_
  refine z_callSH g _ _ csh_L_cost (w_cost _ M hX hV o sb.1 sb.2 _ _) rfl (by rw [hR]; decide) (by exact hcs) (by exact hss) (Nat.le_of_ble_eq_true rfl) rfl dL_law__2145 (fun _ _ h => False.elim h) (fun r_1 M1 h_1 => ?_)
  obtain ⟨rfl, hans, g1, B1, hX1⟩ := h_1
  have hM1 := hM.agr g1 (fun c k z => TM_TL z)
  have sb1 := sb.keepL g1
  refine z_istore g dL_law__2148 (by rw [hN]; decide) ?_
  refine z_aload_n g dL_law__2150 rfl ?_
  refine z_aload_n g dL_law__2151 rfl ?_
  refine z_iload g dL_law__2152 rfl ?_
  refine z_iconst (v := 1) g dL_law__2154 (by decide) ?_
  refine z_iadd g dL_law__2155 ?_
  rw [nI_l1]
  refine z_sld g hSc (vp_in_nI (by omega) (by omega)) dL_law__2156 ?_
  rw [nI_clamp (show 6 * i + 1 < 2 ^ 31 by omega)]
  refine z_aload_n g dL_law__2157 rfl ?_
  refine z_iload g dL_law__2158 rfl ?_
  refine z_iconst (v := 2) g dL_law__2160 (by decide) ?_
  refine z_iadd g dL_law__2161 ?_
  rw [nI_l2]
  refine z_sld g hSc (vp_in_nI (by omega) (by omega)) dL_law__2162 ?_
  rw [nI_clamp (show 6 * i + 2 < 2 ^ 31 by omega)]
  refine z_callV g _ _ cv_L_225 (m_cost _ M1 hM1 hV _ _) hM1.k0 (by decide) rfl (by rw [hR]; decide) (by exact hcs) (by exact hss) (Nat.le_of_ble_eq_true rfl) rfl dL_law__2163 (fun _ _ h => False.elim h) (fun r_2 M2 h_2 => ?_)
  obtain ⟨rfl, hM2, g2⟩ := h_2
  obtain ⟨hV2, hX2⟩ := lwstp hX1 hM1 g2 (opS_INV hV (fun h => I_Cost hV h))
  obtain ⟨sb2, ho2⟩ := sb1.keepM (g2.agr hM1)
  refine z_istore g dL_law__2166 (by rw [hN]; decide) ?_
  refine z_aload_n g dL_law__2168 rfl ?_
  refine z_callV g _ _ cv_L_138 (n_thr _ M2 hM2) hM2.k0 (by decide) rfl (by rw [hR]; decide) (by exact hcs) (by exact hss) (Nat.le_of_ble_eq_true rfl) rfl dL_law__2169 (fun _ _ h => False.elim h) (fun r_3 M_3 h_3 => ?_)
  obtain ⟨rfl, rfl⟩ := h_3
  rw [gi_opS (fun _ => z_Cost)]
  refine z_iload g dL_law__2172 rfl ?_
  refine z_icmp_eq (tgt := 2179) g dL_law__2174 (by decide) (fun _ => ?_) (fun h => absurd rfl h)
  refine z_iload g dL_law__2179 rfl ?_
  refine z_if_ne (tgt := 2196) g dL_law__2181 (by decide) (fun hc_ => ?_) (fun hc_ => ?_)
  · refine z_goto (tgt := 2707) g dL_law__2196 (by decide) ?_
    exact z_to (kk _ ⟨_, _, hX2, hM2, hV2, sb2⟩) ⟨rfl, rfl, rfl, rfl, rfl, trivial⟩
  have hv_ := hans hc_
  have hw_ := ho2.trans hv_
  rw [opV_z hc_]
  refine z_aload_n g dL_law__2184 rfl ?_
  refine z_iconst (v := 0) g dL_law__2185 (by decide) ?_
  refine z_laldk (k := 290) g (by rw [sb2.1]) (by decide) (by rw [sb2.2]; exact in01) dL_law__2186 ?_
  rw [show (0 : Int32).toNatClampNeg = 0 from rfl, hw_]
  refine z_iload g dL_law__2187 rfl ?_
  refine z_i2l g dL_law__2189 ?_
  refine z_lcmp g dL_law__2190 ?_
  refine z_if_eq (tgt := 2196) g dL_law__2191 (by decide) (fun _ => ?_) (fun h => absurd ((lg_cmp_eq _ _).mpr rfl) h)
  refine z_goto (tgt := 2707) g dL_law__2196 (by decide) ?_
  exact z_to (kk _ ⟨_, _, hX2, hM2, hV2, sb2⟩) ⟨rfl, rfl, rfl, rfl, rfl, trivial⟩
set_option maxHeartbeats 4000000 in
set_option maxRecDepth 100000 in
theorem lc_25 {X : Cx} {A : Nat → Nat} {b x m o L i cs sl : Nat} {xs : Nat → Int32} {M : Mm} (g : Gd X cL_law_ RL) (hN : xN X = 8) (hR : xR X = room_1) (hL : L ≤ 3072) (hi : 6 * i + 6 ≤ L) (hcs : cs + 16 ≤ (xR X).cells) (hss : sl + 500 ≤ (xR X).slots) (hSc : ScX X b L xs) (hLI : LI A x m o M)
    (kk : ∀ M', LI A x m o M' → Z X M' (cs + 16) (sl + 500) 2707 [(0, .ref b), (1, .ref x), (2, .ref m), (3, .ref o), (4, .int (nI (6 * i)))] []) : Z X M cs sl 2199 [(0, .ref b), (1, .ref x), (2, .ref m), (3, .ref o), (4, .int (nI (6 * i)))] [] := by
  obtain ⟨S, B, hX, hM, hV, sb⟩ := hLI
  refine z_aload_n g dL_law__2199 rfl ?_
  refine z_callV g _ _ cv_L_226 (k_assign _ M hX hV) (by rw [hX.1.1]) (by decide) rfl (by rw [hR]; decide) (by exact hcs) (by exact hss) (Nat.le_of_ble_eq_true rfl) rfl dL_law__2200 (fun _ _ h => False.elim h) (fun r_1 M1 h_1 => ?_)
  obtain ⟨rfl, g1, B1, hX1⟩ := h_1
  have gL : agr TL M M1 := g1.mono (fun c k z => Or.inl z)
  have hM1 := hM.agr gL (fun c k z => TM_TL z)
  have sb1 := sb.keepL gL
  refine z_aload_n g dL_law__2203 rfl ?_
  refine z_callV g _ _ cv_L_229 (m_assign _ M1 hM1 hV) hM1.k0 (by decide) rfl (by rw [hR]; decide) (by exact hcs) (by exact hss) (Nat.le_of_ble_eq_true rfl) rfl dL_law__2204 (fun _ _ h => False.elim h) (fun r_2 M2 h_2 => ?_)
  obtain ⟨rfl, hM2, g2⟩ := h_2
  have hV2 : INV (sAssign S) := INV_wi0 0 hV
  have hX2 := hX1.FM hV2 hM1 g2
  have sb2 := (sb1.keepM (g2.agr hM1)).1
  refine z_icmp_eq (tgt := 2707) g dL_law__2207 (by decide) (fun _ => ?_) (fun h => absurd rfl h)
  exact z_to (kk _ ⟨_, _, hX2, hM2, hV2, sb2⟩) ⟨rfl, rfl, rfl, rfl, rfl, trivial⟩
set_option maxHeartbeats 4000000 in
set_option maxRecDepth 100000 in
theorem lc_26 {X : Cx} {A : Nat → Nat} {b x m o L i cs sl : Nat} {xs : Nat → Int32} {M : Mm} (g : Gd X cL_law_ RL) (hN : xN X = 8) (hR : xR X = room_1) (hL : L ≤ 3072) (hi : 6 * i + 6 ≤ L) (hcs : cs + 16 ≤ (xR X).cells) (hss : sl + 500 ≤ (xR X).slots) (hSc : ScX X b L xs) (hLI : LI A x m o M)
    (kk : ∀ M', LI A x m o M' → Z X M' (cs + 16) (sl + 500) 2707 [(0, .ref b), (1, .ref x), (2, .ref m), (3, .ref o), (4, .int (nI (6 * i)))] []) : Z X M cs sl 2212 [(0, .ref b), (1, .ref x), (2, .ref m), (3, .ref o), (4, .int (nI (6 * i)))] [] := by
  obtain ⟨S, B, hX, hM, hV, sb⟩ := hLI
  refine z_aload_n g dL_law__2212 rfl ?_
  refine z_callV g _ _ cv_L_230 (k_ways _ M hX hV) (by rw [hX.1.1]) (by decide) rfl (by rw [hR]; decide) (by exact hcs) (by exact hss) (Nat.le_of_ble_eq_true rfl) rfl dL_law__2213 (fun _ _ h => False.elim h) (fun r_1 M1 h_1 => ?_)
  obtain ⟨rfl, g1, B1, hX1⟩ := h_1
  have gL : agr TL M M1 := g1.mono (fun c k z => Or.inl z)
  have hM1 := hM.agr gL (fun c k z => TM_TL z)
  have sb1 := sb.keepL gL
  refine z_aload_n g dL_law__2216 rfl ?_
  refine z_callV g _ _ cv_L_233 (m_ways _ M1 hM1 hV) hM1.k0 (by decide) rfl (by rw [hR]; decide) (by exact hcs) (by exact hss) (Nat.le_of_ble_eq_true rfl) rfl dL_law__2217 (fun _ _ h => False.elim h) (fun r_2 M2 h_2 => ?_)
  obtain ⟨rfl, hM2, g2⟩ := h_2
  have hV2 : INV (sAssign S) := INV_wi0 0 hV
  have hX2 := hX1.FM hV2 hM1 g2
  have sb2 := (sb1.keepM (g2.agr hM1)).1
  refine z_icmp_eq (tgt := 2707) g dL_law__2220 (by decide) (fun _ => ?_) (fun h => absurd rfl h)
  exact z_to (kk _ ⟨_, _, hX2, hM2, hV2, sb2⟩) ⟨rfl, rfl, rfl, rfl, rfl, trivial⟩
set_option maxHeartbeats 4000000 in
set_option maxRecDepth 100000 in
theorem lc_27 {X : Cx} {A : Nat → Nat} {b x m o L i cs sl : Nat} {xs : Nat → Int32} {M : Mm} (g : Gd X cL_law_ RL) (hN : xN X = 8) (hR : xR X = room_1) (hL : L ≤ 3072) (hi : 6 * i + 6 ≤ L) (hcs : cs + 16 ≤ (xR X).cells) (hss : sl + 500 ≤ (xR X).slots) (hSc : ScX X b L xs) (hLI : LI A x m o M)
    (kk : ∀ M', LI A x m o M' → Z X M' (cs + 16) (sl + 500) 2707 [(0, .ref b), (1, .ref x), (2, .ref m), (3, .ref o), (4, .int (nI (6 * i)))] []) : Z X M cs sl 2225 [(0, .ref b), (1, .ref x), (2, .ref m), (3, .ref o), (4, .int (nI (6 * i)))] [] := by
  obtain ⟨S, B, hX, hM, hV, sb⟩ := hLI
  refine z_aload_n g dL_law__2225 rfl ?_
  refine z_aload_n g dL_law__2226 rfl ?_
  refine z_iload g dL_law__2227 rfl ?_
  refine z_iconst (v := 1) g dL_law__2229 (by decide) ?_
  refine z_iadd g dL_law__2230 ?_
  rw [nI_l1]
  refine z_sld g hSc (vp_in_nI (by omega) (by omega)) dL_law__2231 ?_
  rw [nI_clamp (show 6 * i + 1 < 2 ^ 31 by omega)]
  refine z_i2l g dL_law__2232 ?_
  refine z_bipush (v := 32) g dL_law__2233 (by decide) ?_
  refine z_lshl g dL_law__2235 ?_
  refine z_aload_n g dL_law__2236 rfl ?_
  refine z_iload g dL_law__2237 rfl ?_
  refine z_iconst (v := 2) g dL_law__2239 (by decide) ?_
  refine z_iadd g dL_law__2240 ?_
  rw [nI_l2]
  refine z_sld g hSc (vp_in_nI (by omega) (by omega)) dL_law__2241 ?_
  rw [nI_clamp (show 6 * i + 2 < 2 ^ 31 by omega)]
  refine z_i2l g dL_law__2242 ?_
  refine z_ldc2 g dL_law__2243 kc_L_157 ?_
  refine z_land g dL_law__2246 ?_
  refine z_lor g dL_law__2247 ?_
  refine z_aload_n g dL_law__2248 rfl ?_
  refine z_iload g dL_law__2249 rfl ?_
  refine z_iconst (v := 3) g dL_law__2251 (by decide) ?_
  refine z_iadd g dL_law__2252 ?_
  rw [nI_l3]
  refine z_sld g hSc (vp_in_nI (by omega) (by omega)) dL_law__2253 ?_
  rw [nI_clamp (show 6 * i + 3 < 2 ^ 31 by omega)]
  refine z_aload_n g dL_law__2254 rfl ?_
  refine z_iload g dL_law__2255 rfl ?_
  refine z_iconst (v := 4) g dL_law__2257 (by decide) ?_
  refine z_iadd g dL_law__2258 ?_
  rw [nI_l4]
  refine z_sld g hSc (vp_in_nI (by omega) (by omega)) dL_law__2259 ?_
  rw [nI_clamp (show 6 * i + 4 < 2 ^ 31 by omega)]
  refine z_aload_n g dL_law__2260 rfl ?_
  refine z_iload g dL_law__2261 rfl ?_
  refine z_iconst (v := 5) g dL_law__2263 (by decide) ?_
  refine z_iadd g dL_law__2264 ?_
  rw [nI_l5]
  refine z_sld g hSc (vp_in_nI (by omega) (by omega)) dL_law__2265 ?_
  rw [nI_clamp (show 6 * i + 5 < 2 ^ 31 by omega)]
  refine z_aload_n g dL_law__2266 rfl ?_
  refine z_callSH g _ _ csh_L_find (w_find _ M hX hV o sb.1 sb.2 _ _ _ _) rfl (by rw [hR]; decide) (by exact hcs) (by exact hss) (Nat.le_of_ble_eq_true rfl) rfl dL_law__2267 (fun _ _ h => False.elim h) (fun r_1 M1 h_1 => ?_)
  obtain ⟨rfl, hans, g1, B1, hX1⟩ := h_1
  have hM1 := hM.agr g1 (fun c k z => TM_TL z)
  have sb1 := sb.keepL g1
  refine z_istore g dL_law__2270 (by rw [hN]; decide) ?_
  refine z_aload_n g dL_law__2272 rfl ?_
  refine z_aload_n g dL_law__2273 rfl ?_
  refine z_iload g dL_law__2274 rfl ?_
  refine z_iconst (v := 1) g dL_law__2276 (by decide) ?_
  refine z_iadd g dL_law__2277 ?_
  rw [nI_l1]
  refine z_sld g hSc (vp_in_nI (by omega) (by omega)) dL_law__2278 ?_
  rw [nI_clamp (show 6 * i + 1 < 2 ^ 31 by omega)]
  refine z_i2l g dL_law__2279 ?_
  refine z_bipush (v := 32) g dL_law__2280 (by decide) ?_
  refine z_lshl g dL_law__2282 ?_
  refine z_aload_n g dL_law__2283 rfl ?_
  refine z_iload g dL_law__2284 rfl ?_
  refine z_iconst (v := 2) g dL_law__2286 (by decide) ?_
  refine z_iadd g dL_law__2287 ?_
  rw [nI_l2]
  refine z_sld g hSc (vp_in_nI (by omega) (by omega)) dL_law__2288 ?_
  rw [nI_clamp (show 6 * i + 2 < 2 ^ 31 by omega)]
  refine z_i2l g dL_law__2289 ?_
  refine z_ldc2 g dL_law__2290 kc_L_157 ?_
  refine z_land g dL_law__2293 ?_
  refine z_lor g dL_law__2294 ?_
  refine z_aload_n g dL_law__2295 rfl ?_
  refine z_iload g dL_law__2296 rfl ?_
  refine z_iconst (v := 3) g dL_law__2298 (by decide) ?_
  refine z_iadd g dL_law__2299 ?_
  rw [nI_l3]
  refine z_sld g hSc (vp_in_nI (by omega) (by omega)) dL_law__2300 ?_
  rw [nI_clamp (show 6 * i + 3 < 2 ^ 31 by omega)]
  refine z_aload_n g dL_law__2301 rfl ?_
  refine z_iload g dL_law__2302 rfl ?_
  refine z_iconst (v := 4) g dL_law__2304 (by decide) ?_
  refine z_iadd g dL_law__2305 ?_
  rw [nI_l4]
  refine z_sld g hSc (vp_in_nI (by omega) (by omega)) dL_law__2306 ?_
  rw [nI_clamp (show 6 * i + 4 < 2 ^ 31 by omega)]
  refine z_aload_n g dL_law__2307 rfl ?_
  refine z_iload g dL_law__2308 rfl ?_
  refine z_iconst (v := 5) g dL_law__2310 (by decide) ?_
  refine z_iadd g dL_law__2311 ?_
  rw [nI_l5]
  refine z_sld g hSc (vp_in_nI (by omega) (by omega)) dL_law__2312 ?_
  rw [nI_clamp (show 6 * i + 5 < 2 ^ 31 by omega)]
  refine z_callV g _ _ cv_L_237 (m_find _ M1 hM1 hV _ _ _ _) hM1.k0 (by decide) rfl (by rw [hR]; decide) (by exact hcs) (by exact hss) (Nat.le_of_ble_eq_true rfl) rfl dL_law__2313 (fun _ _ h => False.elim h) (fun r_2 M2 h_2 => ?_)
  obtain ⟨rfl, hM2, g2⟩ := h_2
  obtain ⟨hV2, hX2⟩ := lwstp hX1 hM1 g2 (opS_INV hV (fun h => I_Find hV h))
  obtain ⟨sb2, ho2⟩ := sb1.keepM (g2.agr hM1)
  refine z_istore g dL_law__2316 (by rw [hN]; decide) ?_
  refine z_aload_n g dL_law__2318 rfl ?_
  refine z_callV g _ _ cv_L_138 (n_thr _ M2 hM2) hM2.k0 (by decide) rfl (by rw [hR]; decide) (by exact hcs) (by exact hss) (Nat.le_of_ble_eq_true rfl) rfl dL_law__2319 (fun _ _ h => False.elim h) (fun r_3 M_3 h_3 => ?_)
  obtain ⟨rfl, rfl⟩ := h_3
  rw [gi_opS (fun _ => z_Find)]
  refine z_iload g dL_law__2322 rfl ?_
  refine z_icmp_eq (tgt := 2329) g dL_law__2324 (by decide) (fun _ => ?_) (fun h => absurd rfl h)
  refine z_iload g dL_law__2329 rfl ?_
  refine z_if_ne (tgt := 2346) g dL_law__2331 (by decide) (fun hc_ => ?_) (fun hc_ => ?_)
  · refine z_goto (tgt := 2707) g dL_law__2346 (by decide) ?_
    exact z_to (kk _ ⟨_, _, hX2, hM2, hV2, sb2⟩) ⟨rfl, rfl, rfl, rfl, rfl, trivial⟩
  have hv_ := hans hc_
  have hw_ := ho2.trans hv_
  rw [opV_z hc_]
  refine z_aload_n g dL_law__2334 rfl ?_
  refine z_iconst (v := 0) g dL_law__2335 (by decide) ?_
  refine z_laldk (k := 290) g (by rw [sb2.1]) (by decide) (by rw [sb2.2]; exact in01) dL_law__2336 ?_
  rw [show (0 : Int32).toNatClampNeg = 0 from rfl, hw_]
  refine z_iload g dL_law__2337 rfl ?_
  refine z_i2l g dL_law__2339 ?_
  refine z_lcmp g dL_law__2340 ?_
  refine z_if_eq (tgt := 2346) g dL_law__2341 (by decide) (fun _ => ?_) (fun h => absurd ((lg_cmp_eq _ _).mpr rfl) h)
  refine z_goto (tgt := 2707) g dL_law__2346 (by decide) ?_
  exact z_to (kk _ ⟨_, _, hX2, hM2, hV2, sb2⟩) ⟨rfl, rfl, rfl, rfl, rfl, trivial⟩
set_option maxHeartbeats 4000000 in
set_option maxRecDepth 100000 in
theorem lc_28 {X : Cx} {A : Nat → Nat} {b x m o L i cs sl : Nat} {xs : Nat → Int32} {M : Mm} (g : Gd X cL_law_ RL) (hN : xN X = 8) (hR : xR X = room_1) (hL : L ≤ 3072) (hi : 6 * i + 6 ≤ L) (hcs : cs + 16 ≤ (xR X).cells) (hss : sl + 500 ≤ (xR X).slots) (hSc : ScX X b L xs) (hLI : LI A x m o M)
    (kk : ∀ M', LI A x m o M' → Z X M' (cs + 16) (sl + 500) 2707 [(0, .ref b), (1, .ref x), (2, .ref m), (3, .ref o), (4, .int (nI (6 * i)))] []) : Z X M cs sl 2349 [(0, .ref b), (1, .ref x), (2, .ref m), (3, .ref o), (4, .int (nI (6 * i)))] [] := by
  obtain ⟨S, B, hX, hM, hV, sb⟩ := hLI
  refine z_aload_n g dL_law__2349 rfl ?_
  refine z_aload_n g dL_law__2350 rfl ?_
  refine z_iload g dL_law__2351 rfl ?_
  refine z_iconst (v := 1) g dL_law__2353 (by decide) ?_
  refine z_iadd g dL_law__2354 ?_
  rw [nI_l1]
  refine z_sld g hSc (vp_in_nI (by omega) (by omega)) dL_law__2355 ?_
  rw [nI_clamp (show 6 * i + 1 < 2 ^ 31 by omega)]
  refine z_aload_n g dL_law__2356 rfl ?_
  refine z_callSH g _ _ csh_L_pull (w_pull _ M hX hV o sb.1 sb.2 _) rfl (by rw [hR]; decide) (by exact hcs) (by exact hss) (Nat.le_of_ble_eq_true rfl) rfl dL_law__2357 (fun _ _ h => False.elim h) (fun r_1 M1 h_1 => ?_)
  obtain ⟨rfl, hans, g1, B1, hX1⟩ := h_1
  have hM1 := hM.agr g1 (fun c k z => TM_TL z)
  have sb1 := sb.keepL g1
  refine z_istore g dL_law__2360 (by rw [hN]; decide) ?_
  refine z_aload_n g dL_law__2362 rfl ?_
  refine z_aload_n g dL_law__2363 rfl ?_
  refine z_iload g dL_law__2364 rfl ?_
  refine z_iconst (v := 1) g dL_law__2366 (by decide) ?_
  refine z_iadd g dL_law__2367 ?_
  rw [nI_l1]
  refine z_sld g hSc (vp_in_nI (by omega) (by omega)) dL_law__2368 ?_
  rw [nI_clamp (show 6 * i + 1 < 2 ^ 31 by omega)]
  refine z_callV g _ _ cv_L_240 (m_pull _ M1 hM1 hV _) hM1.k0 (by decide) rfl (by rw [hR]; decide) (by exact hcs) (by exact hss) (Nat.le_of_ble_eq_true rfl) rfl dL_law__2369 (fun _ _ h => False.elim h) (fun r_2 M2 h_2 => ?_)
  obtain ⟨rfl, hM2, g2⟩ := h_2
  obtain ⟨hV2, hX2⟩ := lwstp hX1 hM1 g2 (opS_INV hV (fun h => I_Pull hV h))
  obtain ⟨sb2, ho2⟩ := sb1.keepM (g2.agr hM1)
  refine z_istore g dL_law__2372 (by rw [hN]; decide) ?_
  refine z_aload_n g dL_law__2374 rfl ?_
  refine z_callV g _ _ cv_L_138 (n_thr _ M2 hM2) hM2.k0 (by decide) rfl (by rw [hR]; decide) (by exact hcs) (by exact hss) (Nat.le_of_ble_eq_true rfl) rfl dL_law__2375 (fun _ _ h => False.elim h) (fun r_3 M_3 h_3 => ?_)
  obtain ⟨rfl, rfl⟩ := h_3
  rw [gi_opS (fun _ => z_Pull)]
  refine z_iload g dL_law__2378 rfl ?_
  refine z_icmp_eq (tgt := 2385) g dL_law__2380 (by decide) (fun _ => ?_) (fun h => absurd rfl h)
  refine z_iload g dL_law__2385 rfl ?_
  refine z_if_ne (tgt := 2402) g dL_law__2387 (by decide) (fun hc_ => ?_) (fun hc_ => ?_)
  · refine z_goto (tgt := 2707) g dL_law__2402 (by decide) ?_
    exact z_to (kk _ ⟨_, _, hX2, hM2, hV2, sb2⟩) ⟨rfl, rfl, rfl, rfl, rfl, trivial⟩
  have hv_ := hans hc_
  have hw_ := ho2.trans hv_
  rw [opV_z hc_]
  refine z_aload_n g dL_law__2390 rfl ?_
  refine z_iconst (v := 0) g dL_law__2391 (by decide) ?_
  refine z_laldk (k := 290) g (by rw [sb2.1]) (by decide) (by rw [sb2.2]; exact in01) dL_law__2392 ?_
  rw [show (0 : Int32).toNatClampNeg = 0 from rfl, hw_]
  refine z_iload g dL_law__2393 rfl ?_
  refine z_i2l g dL_law__2395 ?_
  refine z_lcmp g dL_law__2396 ?_
  refine z_if_eq (tgt := 2402) g dL_law__2397 (by decide) (fun _ => ?_) (fun h => absurd ((lg_cmp_eq _ _).mpr rfl) h)
  refine z_goto (tgt := 2707) g dL_law__2402 (by decide) ?_
  exact z_to (kk _ ⟨_, _, hX2, hM2, hV2, sb2⟩) ⟨rfl, rfl, rfl, rfl, rfl, trivial⟩
set_option maxHeartbeats 4000000 in
set_option maxRecDepth 100000 in
theorem lc_29 {X : Cx} {A : Nat → Nat} {b x m o L i cs sl : Nat} {xs : Nat → Int32} {M : Mm} (g : Gd X cL_law_ RL) (hN : xN X = 8) (hR : xR X = room_1) (hL : L ≤ 3072) (hi : 6 * i + 6 ≤ L) (hcs : cs + 16 ≤ (xR X).cells) (hss : sl + 500 ≤ (xR X).slots) (hSc : ScX X b L xs) (hLI : LI A x m o M)
    (kk : ∀ M', LI A x m o M' → Z X M' (cs + 16) (sl + 500) 2707 [(0, .ref b), (1, .ref x), (2, .ref m), (3, .ref o), (4, .int (nI (6 * i)))] []) : Z X M cs sl 2405 [(0, .ref b), (1, .ref x), (2, .ref m), (3, .ref o), (4, .int (nI (6 * i)))] [] := by
  obtain ⟨S, B, hX, hM, hV, sb⟩ := hLI
  refine z_aload_n g dL_law__2405 rfl ?_
  refine z_aload_n g dL_law__2406 rfl ?_
  refine z_iload g dL_law__2407 rfl ?_
  refine z_iconst (v := 1) g dL_law__2409 (by decide) ?_
  refine z_iadd g dL_law__2410 ?_
  rw [nI_l1]
  refine z_sld g hSc (vp_in_nI (by omega) (by omega)) dL_law__2411 ?_
  rw [nI_clamp (show 6 * i + 1 < 2 ^ 31 by omega)]
  refine z_aload_n g dL_law__2412 rfl ?_
  refine z_iload g dL_law__2413 rfl ?_
  refine z_iconst (v := 2) g dL_law__2415 (by decide) ?_
  refine z_iadd g dL_law__2416 ?_
  rw [nI_l2]
  refine z_sld g hSc (vp_in_nI (by omega) (by omega)) dL_law__2417 ?_
  rw [nI_clamp (show 6 * i + 2 < 2 ^ 31 by omega)]
  refine z_aload_n g dL_law__2418 rfl ?_
  refine z_iload g dL_law__2419 rfl ?_
  refine z_iconst (v := 3) g dL_law__2421 (by decide) ?_
  refine z_iadd g dL_law__2422 ?_
  rw [nI_l3]
  refine z_sld g hSc (vp_in_nI (by omega) (by omega)) dL_law__2423 ?_
  rw [nI_clamp (show 6 * i + 3 < 2 ^ 31 by omega)]
  refine z_aload_n g dL_law__2424 rfl ?_
  refine z_callSH g _ _ csh_L_copy (w_copy _ M hX hV o sb.1 sb.2 _ _ _) rfl (by rw [hR]; decide) (by exact hcs) (by exact hss) (Nat.le_of_ble_eq_true rfl) rfl dL_law__2425 (fun _ _ h => False.elim h) (fun r_1 M1 h_1 => ?_)
  obtain ⟨rfl, hans, g1, B1, hX1⟩ := h_1
  have hM1 := hM.agr g1 (fun c k z => TM_TL z)
  have sb1 := sb.keepL g1
  refine z_istore g dL_law__2428 (by rw [hN]; decide) ?_
  refine z_aload_n g dL_law__2430 rfl ?_
  refine z_aload_n g dL_law__2431 rfl ?_
  refine z_iload g dL_law__2432 rfl ?_
  refine z_iconst (v := 1) g dL_law__2434 (by decide) ?_
  refine z_iadd g dL_law__2435 ?_
  rw [nI_l1]
  refine z_sld g hSc (vp_in_nI (by omega) (by omega)) dL_law__2436 ?_
  rw [nI_clamp (show 6 * i + 1 < 2 ^ 31 by omega)]
  refine z_aload_n g dL_law__2437 rfl ?_
  refine z_iload g dL_law__2438 rfl ?_
  refine z_iconst (v := 2) g dL_law__2440 (by decide) ?_
  refine z_iadd g dL_law__2441 ?_
  rw [nI_l2]
  refine z_sld g hSc (vp_in_nI (by omega) (by omega)) dL_law__2442 ?_
  rw [nI_clamp (show 6 * i + 2 < 2 ^ 31 by omega)]
  refine z_aload_n g dL_law__2443 rfl ?_
  refine z_iload g dL_law__2444 rfl ?_
  refine z_iconst (v := 3) g dL_law__2446 (by decide) ?_
  refine z_iadd g dL_law__2447 ?_
  rw [nI_l3]
  refine z_sld g hSc (vp_in_nI (by omega) (by omega)) dL_law__2448 ?_
  rw [nI_clamp (show 6 * i + 3 < 2 ^ 31 by omega)]
  refine z_callV g _ _ cv_L_243 (m_copy _ M1 hM1 hV _ _ _) hM1.k0 (by decide) rfl (by rw [hR]; decide) (by exact hcs) (by exact hss) (Nat.le_of_ble_eq_true rfl) rfl dL_law__2449 (fun _ _ h => False.elim h) (fun r_2 M2 h_2 => ?_)
  obtain ⟨rfl, hM2, g2⟩ := h_2
  obtain ⟨hV2, hX2⟩ := lwstp hX1 hM1 g2 (opS_INV hV (fun h => I_Copy hV h))
  obtain ⟨sb2, ho2⟩ := sb1.keepM (g2.agr hM1)
  refine z_lstore g dL_law__2452 (by rw [hN]; decide) ?_
  refine z_aload_n g dL_law__2454 rfl ?_
  refine z_callV g _ _ cv_L_138 (n_thr _ M2 hM2) hM2.k0 (by decide) rfl (by rw [hR]; decide) (by exact hcs) (by exact hss) (Nat.le_of_ble_eq_true rfl) rfl dL_law__2455 (fun _ _ h => False.elim h) (fun r_3 M_3 h_3 => ?_)
  obtain ⟨rfl, rfl⟩ := h_3
  rw [gi_opS (fun _ => z_Copy)]
  refine z_iload g dL_law__2458 rfl ?_
  refine z_icmp_eq (tgt := 2465) g dL_law__2460 (by decide) (fun _ => ?_) (fun h => absurd rfl h)
  refine z_iload g dL_law__2465 rfl ?_
  refine z_if_ne (tgt := 2481) g dL_law__2467 (by decide) (fun hc_ => ?_) (fun hc_ => ?_)
  · refine z_goto (tgt := 2707) g dL_law__2481 (by decide) ?_
    exact z_to (kk _ ⟨_, _, hX2, hM2, hV2, sb2⟩) ⟨rfl, rfl, rfl, rfl, rfl, trivial⟩
  have hv_ := hans hc_
  have hw_ := ho2.trans hv_
  rw [opV_z hc_]
  refine z_aload_n g dL_law__2470 rfl ?_
  refine z_iconst (v := 0) g dL_law__2471 (by decide) ?_
  refine z_laldk (k := 290) g (by rw [sb2.1]) (by decide) (by rw [sb2.2]; exact in01) dL_law__2472 ?_
  rw [show (0 : Int32).toNatClampNeg = 0 from rfl, hw_]
  refine z_lload g dL_law__2473 rfl ?_
  refine z_lcmp g dL_law__2475 ?_
  refine z_if_eq (tgt := 2481) g dL_law__2476 (by decide) (fun _ => ?_) (fun h => absurd ((lg_cmp_eq _ _).mpr rfl) h)
  refine z_goto (tgt := 2707) g dL_law__2481 (by decide) ?_
  exact z_to (kk _ ⟨_, _, hX2, hM2, hV2, sb2⟩) ⟨rfl, rfl, rfl, rfl, rfl, trivial⟩
set_option maxHeartbeats 4000000 in
set_option maxRecDepth 100000 in
theorem lc_30 {X : Cx} {A : Nat → Nat} {b x m o L i cs sl : Nat} {xs : Nat → Int32} {M : Mm} (g : Gd X cL_law_ RL) (hN : xN X = 8) (hR : xR X = room_1) (hL : L ≤ 3072) (hi : 6 * i + 6 ≤ L) (hcs : cs + 16 ≤ (xR X).cells) (hss : sl + 500 ≤ (xR X).slots) (hSc : ScX X b L xs) (hLI : LI A x m o M)
    (kk : ∀ M', LI A x m o M' → Z X M' (cs + 16) (sl + 500) 2707 [(0, .ref b), (1, .ref x), (2, .ref m), (3, .ref o), (4, .int (nI (6 * i)))] []) : Z X M cs sl 2484 [(0, .ref b), (1, .ref x), (2, .ref m), (3, .ref o), (4, .int (nI (6 * i)))] [] := by
  obtain ⟨S, B, hX, hM, hV, sb⟩ := hLI
  refine z_aload_n g dL_law__2484 rfl ?_
  refine z_aload_n g dL_law__2485 rfl ?_
  refine z_iload g dL_law__2486 rfl ?_
  refine z_iconst (v := 1) g dL_law__2488 (by decide) ?_
  refine z_iadd g dL_law__2489 ?_
  rw [nI_l1]
  refine z_sld g hSc (vp_in_nI (by omega) (by omega)) dL_law__2490 ?_
  rw [nI_clamp (show 6 * i + 1 < 2 ^ 31 by omega)]
  refine z_aload_n g dL_law__2491 rfl ?_
  refine z_callSH g _ _ csh_L_order (w_order _ M hX hV o sb.1 sb.2 _) rfl (by rw [hR]; decide) (by exact hcs) (by exact hss) (Nat.le_of_ble_eq_true rfl) rfl dL_law__2492 (fun _ _ h => False.elim h) (fun r_1 M1 h_1 => ?_)
  obtain ⟨rfl, hans, g1, B1, hX1⟩ := h_1
  have hM1 := hM.agr g1 (fun c k z => TM_TL z)
  have sb1 := sb.keepL g1
  refine z_istore g dL_law__2495 (by rw [hN]; decide) ?_
  refine z_aload_n g dL_law__2497 rfl ?_
  refine z_aload_n g dL_law__2498 rfl ?_
  refine z_iload g dL_law__2499 rfl ?_
  refine z_iconst (v := 1) g dL_law__2501 (by decide) ?_
  refine z_iadd g dL_law__2502 ?_
  rw [nI_l1]
  refine z_sld g hSc (vp_in_nI (by omega) (by omega)) dL_law__2503 ?_
  rw [nI_clamp (show 6 * i + 1 < 2 ^ 31 by omega)]
  refine z_callV g _ _ cv_L_246 (m_order _ M1 hM1 hV _) hM1.k0 (by decide) rfl (by rw [hR]; decide) (by exact hcs) (by exact hss) (Nat.le_of_ble_eq_true rfl) rfl dL_law__2504 (fun _ _ h => False.elim h) (fun r_2 M2 h_2 => ?_)
  obtain ⟨rfl, hM2, g2⟩ := h_2
  obtain ⟨hV2, hX2⟩ := lwstp hX1 hM1 g2 (opS_INV hV (fun h => I_Order hV h))
  obtain ⟨sb2, ho2⟩ := sb1.keepM (g2.agr hM1)
  refine z_istore g dL_law__2507 (by rw [hN]; decide) ?_
  refine z_aload_n g dL_law__2509 rfl ?_
  refine z_callV g _ _ cv_L_138 (n_thr _ M2 hM2) hM2.k0 (by decide) rfl (by rw [hR]; decide) (by exact hcs) (by exact hss) (Nat.le_of_ble_eq_true rfl) rfl dL_law__2510 (fun _ _ h => False.elim h) (fun r_3 M_3 h_3 => ?_)
  obtain ⟨rfl, rfl⟩ := h_3
  rw [gi_opS (fun _ => z_Order)]
  refine z_iload g dL_law__2513 rfl ?_
  refine z_icmp_eq (tgt := 2520) g dL_law__2515 (by decide) (fun _ => ?_) (fun h => absurd rfl h)
  refine z_iload g dL_law__2520 rfl ?_
  refine z_if_ne (tgt := 2537) g dL_law__2522 (by decide) (fun hc_ => ?_) (fun hc_ => ?_)
  · refine z_goto (tgt := 2707) g dL_law__2537 (by decide) ?_
    exact z_to (kk _ ⟨_, _, hX2, hM2, hV2, sb2⟩) ⟨rfl, rfl, rfl, rfl, rfl, trivial⟩
  have hv_ := hans hc_
  have hw_ := ho2.trans hv_
  rw [opV_z hc_]
  refine z_aload_n g dL_law__2525 rfl ?_
  refine z_iconst (v := 0) g dL_law__2526 (by decide) ?_
  refine z_laldk (k := 290) g (by rw [sb2.1]) (by decide) (by rw [sb2.2]; exact in01) dL_law__2527 ?_
  rw [show (0 : Int32).toNatClampNeg = 0 from rfl, hw_]
  refine z_iload g dL_law__2528 rfl ?_
  refine z_i2l g dL_law__2530 ?_
  refine z_lcmp g dL_law__2531 ?_
  refine z_if_eq (tgt := 2537) g dL_law__2532 (by decide) (fun _ => ?_) (fun h => absurd ((lg_cmp_eq _ _).mpr rfl) h)
  refine z_goto (tgt := 2707) g dL_law__2537 (by decide) ?_
  exact z_to (kk _ ⟨_, _, hX2, hM2, hV2, sb2⟩) ⟨rfl, rfl, rfl, rfl, rfl, trivial⟩
set_option maxHeartbeats 4000000 in
set_option maxRecDepth 100000 in
theorem lc_31 {X : Cx} {A : Nat → Nat} {b x m o L i cs sl : Nat} {xs : Nat → Int32} {M : Mm} (g : Gd X cL_law_ RL) (hN : xN X = 8) (hR : xR X = room_1) (hL : L ≤ 3072) (hi : 6 * i + 6 ≤ L) (hcs : cs + 16 ≤ (xR X).cells) (hss : sl + 500 ≤ (xR X).slots) (hSc : ScX X b L xs) (hLI : LI A x m o M)
    (kk : ∀ M', LI A x m o M' → Z X M' (cs + 16) (sl + 500) 2707 [(0, .ref b), (1, .ref x), (2, .ref m), (3, .ref o), (4, .int (nI (6 * i)))] []) : Z X M cs sl 2540 [(0, .ref b), (1, .ref x), (2, .ref m), (3, .ref o), (4, .int (nI (6 * i)))] [] := by
  obtain ⟨S, B, hX, hM, hV, sb⟩ := hLI
  refine z_aload_n g dL_law__2540 rfl ?_
  refine z_aload_n g dL_law__2541 rfl ?_
  refine z_iload g dL_law__2542 rfl ?_
  refine z_iconst (v := 1) g dL_law__2544 (by decide) ?_
  refine z_iadd g dL_law__2545 ?_
  rw [nI_l1]
  refine z_sld g hSc (vp_in_nI (by omega) (by omega)) dL_law__2546 ?_
  rw [nI_clamp (show 6 * i + 1 < 2 ^ 31 by omega)]
  refine z_aload_n g dL_law__2547 rfl ?_
  refine z_callSH g _ _ csh_L_budget (w_budget _ M hX hV o sb.1 sb.2 _) rfl (by rw [hR]; decide) (by exact hcs) (by exact hss) (Nat.le_of_ble_eq_true rfl) rfl dL_law__2548 (fun _ _ h => False.elim h) (fun r_1 M1 h_1 => ?_)
  obtain ⟨rfl, hans, g1, B1, hX1⟩ := h_1
  have hM1 := hM.agr g1 (fun c k z => TM_TL z)
  have sb1 := sb.keepL g1
  refine z_istore g dL_law__2551 (by rw [hN]; decide) ?_
  refine z_aload_n g dL_law__2553 rfl ?_
  refine z_aload_n g dL_law__2554 rfl ?_
  refine z_iload g dL_law__2555 rfl ?_
  refine z_iconst (v := 1) g dL_law__2557 (by decide) ?_
  refine z_iadd g dL_law__2558 ?_
  rw [nI_l1]
  refine z_sld g hSc (vp_in_nI (by omega) (by omega)) dL_law__2559 ?_
  rw [nI_clamp (show 6 * i + 1 < 2 ^ 31 by omega)]
  refine z_callV g _ _ cv_L_249 (m_budget _ M1 hM1 hV _) hM1.k0 (by decide) rfl (by rw [hR]; decide) (by exact hcs) (by exact hss) (Nat.le_of_ble_eq_true rfl) rfl dL_law__2560 (fun _ _ h => False.elim h) (fun r_2 M2 h_2 => ?_)
  obtain ⟨rfl, hM2, g2⟩ := h_2
  obtain ⟨hV2, hX2⟩ := lwstp hX1 hM1 g2 (opS_INV hV (fun h => I_Budget hV h))
  obtain ⟨sb2, ho2⟩ := sb1.keepM (g2.agr hM1)
  refine z_istore g dL_law__2563 (by rw [hN]; decide) ?_
  refine z_aload_n g dL_law__2565 rfl ?_
  refine z_callV g _ _ cv_L_138 (n_thr _ M2 hM2) hM2.k0 (by decide) rfl (by rw [hR]; decide) (by exact hcs) (by exact hss) (Nat.le_of_ble_eq_true rfl) rfl dL_law__2566 (fun _ _ h => False.elim h) (fun r_3 M_3 h_3 => ?_)
  obtain ⟨rfl, rfl⟩ := h_3
  rw [gi_opS (fun _ => z_Budget)]
  refine z_iload g dL_law__2569 rfl ?_
  refine z_icmp_eq (tgt := 2576) g dL_law__2571 (by decide) (fun _ => ?_) (fun h => absurd rfl h)
  refine z_iload g dL_law__2576 rfl ?_
  refine z_if_ne (tgt := 2593) g dL_law__2578 (by decide) (fun hc_ => ?_) (fun hc_ => ?_)
  · refine z_goto (tgt := 2707) g dL_law__2593 (by decide) ?_
    exact z_to (kk _ ⟨_, _, hX2, hM2, hV2, sb2⟩) ⟨rfl, rfl, rfl, rfl, rfl, trivial⟩
  have hv_ := hans hc_
  have hw_ := ho2.trans hv_
  rw [opV_z hc_]
  refine z_aload_n g dL_law__2581 rfl ?_
  refine z_iconst (v := 0) g dL_law__2582 (by decide) ?_
  refine z_laldk (k := 290) g (by rw [sb2.1]) (by decide) (by rw [sb2.2]; exact in01) dL_law__2583 ?_
  rw [show (0 : Int32).toNatClampNeg = 0 from rfl, hw_]
  refine z_iload g dL_law__2584 rfl ?_
  refine z_i2l g dL_law__2586 ?_
  refine z_lcmp g dL_law__2587 ?_
  refine z_if_eq (tgt := 2593) g dL_law__2588 (by decide) (fun _ => ?_) (fun h => absurd ((lg_cmp_eq _ _).mpr rfl) h)
  refine z_goto (tgt := 2707) g dL_law__2593 (by decide) ?_
  exact z_to (kk _ ⟨_, _, hX2, hM2, hV2, sb2⟩) ⟨rfl, rfl, rfl, rfl, rfl, trivial⟩
set_option maxHeartbeats 4000000 in
set_option maxRecDepth 100000 in
theorem lc_32 {X : Cx} {A : Nat → Nat} {b x m o L i cs sl : Nat} {xs : Nat → Int32} {M : Mm} (g : Gd X cL_law_ RL) (hN : xN X = 8) (hR : xR X = room_1) (hL : L ≤ 3072) (hi : 6 * i + 6 ≤ L) (hcs : cs + 16 ≤ (xR X).cells) (hss : sl + 500 ≤ (xR X).slots) (hSc : ScX X b L xs) (hLI : LI A x m o M)
    (kk : ∀ M', LI A x m o M' → Z X M' (cs + 16) (sl + 500) 2707 [(0, .ref b), (1, .ref x), (2, .ref m), (3, .ref o), (4, .int (nI (6 * i)))] []) : Z X M cs sl 2596 [(0, .ref b), (1, .ref x), (2, .ref m), (3, .ref o), (4, .int (nI (6 * i)))] [] := by
  obtain ⟨S, B, hX, hM, hV, sb⟩ := hLI
  refine z_aload_n g dL_law__2596 rfl ?_
  refine z_aload_n g dL_law__2597 rfl ?_
  refine z_iload g dL_law__2598 rfl ?_
  refine z_iconst (v := 1) g dL_law__2600 (by decide) ?_
  refine z_iadd g dL_law__2601 ?_
  rw [nI_l1]
  refine z_sld g hSc (vp_in_nI (by omega) (by omega)) dL_law__2602 ?_
  rw [nI_clamp (show 6 * i + 1 < 2 ^ 31 by omega)]
  refine z_aload_n g dL_law__2603 rfl ?_
  refine z_callSH g _ _ csh_L_sign (w_sign _ M hX hV o sb.1 sb.2 _) rfl (by rw [hR]; decide) (by exact hcs) (by exact hss) (Nat.le_of_ble_eq_true rfl) rfl dL_law__2604 (fun _ _ h => False.elim h) (fun r_1 M1 h_1 => ?_)
  obtain ⟨rfl, hans, g1, B1, hX1⟩ := h_1
  have hM1 := hM.agr g1 (fun c k z => TM_TL z)
  have sb1 := sb.keepL g1
  refine z_istore g dL_law__2607 (by rw [hN]; decide) ?_
  refine z_aload_n g dL_law__2609 rfl ?_
  refine z_aload_n g dL_law__2610 rfl ?_
  refine z_iload g dL_law__2611 rfl ?_
  refine z_iconst (v := 1) g dL_law__2613 (by decide) ?_
  refine z_iadd g dL_law__2614 ?_
  rw [nI_l1]
  refine z_sld g hSc (vp_in_nI (by omega) (by omega)) dL_law__2615 ?_
  rw [nI_clamp (show 6 * i + 1 < 2 ^ 31 by omega)]
  refine z_callV g _ _ cv_L_252 (m_sign _ M1 hM1 hV _) hM1.k0 (by decide) rfl (by rw [hR]; decide) (by exact hcs) (by exact hss) (Nat.le_of_ble_eq_true rfl) rfl dL_law__2616 (fun _ _ h => False.elim h) (fun r_2 M2 h_2 => ?_)
  obtain ⟨rfl, hM2, g2⟩ := h_2
  obtain ⟨hV2, hX2⟩ := lwstp hX1 hM1 g2 (opS_INV hV (fun h => I_Sign hV h))
  obtain ⟨sb2, ho2⟩ := sb1.keepM (g2.agr hM1)
  refine z_lstore g dL_law__2619 (by rw [hN]; decide) ?_
  refine z_aload_n g dL_law__2621 rfl ?_
  refine z_callV g _ _ cv_L_138 (n_thr _ M2 hM2) hM2.k0 (by decide) rfl (by rw [hR]; decide) (by exact hcs) (by exact hss) (Nat.le_of_ble_eq_true rfl) rfl dL_law__2622 (fun _ _ h => False.elim h) (fun r_3 M_3 h_3 => ?_)
  obtain ⟨rfl, rfl⟩ := h_3
  rw [gi_opS (fun _ => z_Sign)]
  refine z_iload g dL_law__2625 rfl ?_
  refine z_icmp_eq (tgt := 2632) g dL_law__2627 (by decide) (fun _ => ?_) (fun h => absurd rfl h)
  refine z_iload g dL_law__2632 rfl ?_
  refine z_if_ne (tgt := 2648) g dL_law__2634 (by decide) (fun hc_ => ?_) (fun hc_ => ?_)
  · refine z_goto (tgt := 2707) g dL_law__2648 (by decide) ?_
    exact z_to (kk _ ⟨_, _, hX2, hM2, hV2, sb2⟩) ⟨rfl, rfl, rfl, rfl, rfl, trivial⟩
  have hv_ := hans hc_
  have hw_ := ho2.trans hv_
  rw [opV_z hc_]
  refine z_aload_n g dL_law__2637 rfl ?_
  refine z_iconst (v := 0) g dL_law__2638 (by decide) ?_
  refine z_laldk (k := 290) g (by rw [sb2.1]) (by decide) (by rw [sb2.2]; exact in01) dL_law__2639 ?_
  rw [show (0 : Int32).toNatClampNeg = 0 from rfl, hw_]
  refine z_lload g dL_law__2640 rfl ?_
  refine z_lcmp g dL_law__2642 ?_
  refine z_if_eq (tgt := 2648) g dL_law__2643 (by decide) (fun _ => ?_) (fun h => absurd ((lg_cmp_eq _ _).mpr rfl) h)
  refine z_goto (tgt := 2707) g dL_law__2648 (by decide) ?_
  exact z_to (kk _ ⟨_, _, hX2, hM2, hV2, sb2⟩) ⟨rfl, rfl, rfl, rfl, rfl, trivial⟩
set_option maxHeartbeats 4000000 in
set_option maxRecDepth 100000 in
theorem lc_33 {X : Cx} {A : Nat → Nat} {b x m o L i cs sl : Nat} {xs : Nat → Int32} {M : Mm} (g : Gd X cL_law_ RL) (hN : xN X = 8) (hR : xR X = room_1) (hL : L ≤ 3072) (hi : 6 * i + 6 ≤ L) (hcs : cs + 16 ≤ (xR X).cells) (hss : sl + 500 ≤ (xR X).slots) (hSc : ScX X b L xs) (hLI : LI A x m o M)
    (kk : ∀ M', LI A x m o M' → Z X M' (cs + 16) (sl + 500) 2707 [(0, .ref b), (1, .ref x), (2, .ref m), (3, .ref o), (4, .int (nI (6 * i)))] []) : Z X M cs sl 2651 [(0, .ref b), (1, .ref x), (2, .ref m), (3, .ref o), (4, .int (nI (6 * i)))] [] := by
  obtain ⟨S, B, hX, hM, hV, sb⟩ := hLI
  refine z_aload_n g dL_law__2651 rfl ?_
  refine z_aload_n g dL_law__2652 rfl ?_
  refine z_iload g dL_law__2653 rfl ?_
  refine z_iconst (v := 1) g dL_law__2655 (by decide) ?_
  refine z_iadd g dL_law__2656 ?_
  rw [nI_l1]
  refine z_sld g hSc (vp_in_nI (by omega) (by omega)) dL_law__2657 ?_
  rw [nI_clamp (show 6 * i + 1 < 2 ^ 31 by omega)]
  refine z_aload_n g dL_law__2658 rfl ?_
  refine z_callSH g _ _ csh_L_pass (w_pass _ M hX hV o sb.1 sb.2 _) rfl (by rw [hR]; decide) (by exact hcs) (by exact hss) (Nat.le_of_ble_eq_true rfl) rfl dL_law__2659 (fun _ _ h => False.elim h) (fun r_1 M1 h_1 => ?_)
  obtain ⟨rfl, hans, g1, B1, hX1⟩ := h_1
  have hM1 := hM.agr g1 (fun c k z => TM_TL z)
  have sb1 := sb.keepL g1
  refine z_istore g dL_law__2662 (by rw [hN]; decide) ?_
  refine z_aload_n g dL_law__2664 rfl ?_
  refine z_aload_n g dL_law__2665 rfl ?_
  refine z_iload g dL_law__2666 rfl ?_
  refine z_iconst (v := 1) g dL_law__2668 (by decide) ?_
  refine z_iadd g dL_law__2669 ?_
  rw [nI_l1]
  refine z_sld g hSc (vp_in_nI (by omega) (by omega)) dL_law__2670 ?_
  rw [nI_clamp (show 6 * i + 1 < 2 ^ 31 by omega)]
  refine z_callV g _ _ cv_L_255 (m_pass2 _ M1 hM1 hV _) hM1.k0 (by decide) rfl (by rw [hR]; decide) (by exact hcs) (by exact hss) (Nat.le_of_ble_eq_true rfl) rfl dL_law__2671 (fun _ _ h => False.elim h) (fun r_2 M2 h_2 => ?_)
  obtain ⟨rfl, hM2, g2⟩ := h_2
  obtain ⟨hV2, hX2⟩ := lwstp hX1 hM1 g2 (opS_INV hV (fun h => I_Pass hV h))
  obtain ⟨sb2, ho2⟩ := sb1.keepM (g2.agr hM1)
  refine z_istore g dL_law__2674 (by rw [hN]; decide) ?_
  refine z_aload_n g dL_law__2676 rfl ?_
  refine z_callV g _ _ cv_L_138 (n_thr _ M2 hM2) hM2.k0 (by decide) rfl (by rw [hR]; decide) (by exact hcs) (by exact hss) (Nat.le_of_ble_eq_true rfl) rfl dL_law__2677 (fun _ _ h => False.elim h) (fun r_3 M_3 h_3 => ?_)
  obtain ⟨rfl, rfl⟩ := h_3
  rw [gi_opS (fun _ => z_Pass)]
  refine z_iload g dL_law__2680 rfl ?_
  refine z_icmp_eq (tgt := 2687) g dL_law__2682 (by decide) (fun _ => ?_) (fun h => absurd rfl h)
  refine z_iload g dL_law__2687 rfl ?_
  refine z_if_ne (tgt := 2704) g dL_law__2689 (by decide) (fun hc_ => ?_) (fun hc_ => ?_)
  · refine z_goto (tgt := 2707) g dL_law__2704 (by decide) ?_
    exact z_to (kk _ ⟨_, _, hX2, hM2, hV2, sb2⟩) ⟨rfl, rfl, rfl, rfl, rfl, trivial⟩
  have hv_ := hans hc_
  have hw_ := ho2.trans hv_
  rw [opV_z hc_]
  refine z_aload_n g dL_law__2692 rfl ?_
  refine z_iconst (v := 0) g dL_law__2693 (by decide) ?_
  refine z_laldk (k := 290) g (by rw [sb2.1]) (by decide) (by rw [sb2.2]; exact in01) dL_law__2694 ?_
  rw [show (0 : Int32).toNatClampNeg = 0 from rfl, hw_]
  refine z_iload g dL_law__2695 rfl ?_
  refine z_i2l g dL_law__2697 ?_
  refine z_lcmp g dL_law__2698 ?_
  refine z_if_eq (tgt := 2704) g dL_law__2699 (by decide) (fun _ => ?_) (fun h => absurd ((lg_cmp_eq _ _).mpr rfl) h)
  refine z_goto (tgt := 2707) g dL_law__2704 (by decide) ?_
  exact z_to (kk _ ⟨_, _, hX2, hM2, hV2, sb2⟩) ⟨rfl, rfl, rfl, rfl, rfl, trivial⟩
