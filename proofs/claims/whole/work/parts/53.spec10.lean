/-! ===== what readings cost, assignments ===== -/
def cstL (S : Ms) (rd f : Nat) : Nat → Int32
  | 0 => -1
  | n + 1 => if gA S 18 n = nI f then (if cstL S rd f n = -1 ∨ ¬ cstL S rd f n ≤ nI (lev (wr (gL S 52 rd)) (wr (gL S 20 n))) then nI (lev (wr (gL S 52 rd)) (wr (gL S 20 n))) else cstL S rd f n) else cstL S rd f n
def cstA (S : Ms) (rd f : Nat) : Int32 := if cstL S rd f (cn S 17) = -1 ∨ thA S f (gi S 1) (gi S 1) = false then -1 else
  if 60 < 10 * cstL S rd f (cn S 17) + awyA S f (gA S 53 rd) (gA S 54 rd) then -1 else 10 * cstL S rd f (cn S 17) + awyA S f (gA S 53 rd) (gA S 54 rd)
def cCost (S : Ms) (rd f : Int32) : Int32 := if (inB rd 0 (gi S 51 - 1) && isF S f) = true then 0 else 1
def sCost (S : Ms) (rd f : Int32) : Ms := wi S 0 0
def vCost (S : Ms) (rd f : Int32) : Int32 := cstA S rd.toNatClampNeg f.toNatClampNeg
theorem cstA_wi0 (S : Ms) (v : Int32) : cstA (wi S 0 v) = cstA S := by
  funext rd f
  have e : ∀ n, cstL (wi S 0 v) rd f n = cstL S rd f n := by
    intro n
    induction n with
    | zero => rfl
    | succ n ih => rw [cstL, cstL, ih]; rfl
  unfold cstA
  rw [show cn (wi S 0 v) 17 = cn S 17 from rfl, e]
  rfl
/-- a set without a reading -/
def rs (set b : Nat) : Nat := if set.testBit b then set - 2 ^ b else set
theorem rs_and : ∀ set, set < 16 → ∀ b, b < 4 → nI set &&& (nI (2 ^ b) ^^^ -1) = nI (rs set b) ∧ rs set b < 16 := by decide +kernel
def joS (P : WL) (set b : Nat) (c : Int32) : WL := if c = -1 ∨ rs set b = set ∨ P.1 (rs set b) = 0 then P else
  (pu P.1 set (P.1 set + P.1 (rs set b)), pu P.2 set (if P.2 set = -1 ∨ ¬ P.2 set ≤ P.2 (rs set b) + c then P.2 (rs set b) + c else P.2 set))
def jo4 (P : WL) (set : Nat) (c : Nat → Int32) : WL := joS (joS (joS (joS P set 0 (c 0)) set 1 (c 1)) set 2 (c 2)) set 3 (c 3)
def asF (c : Nat → Int32) (P : WL) : Nat → WL
  | 0 => P
  | m + 1 => asF c (jo4 P (m + 1) c) m
/-- what the readings cost at a feature -/
def csv (S : Ms) (f : Nat) : Nat → Int32 := fun b => if b < cn S 51 then cstA S b f else -1
def as0 : WL := (fun i => if i = 0 then 1 else 0, fun i => if i = 0 then 0 else -1)
def asA (S : Ms) : Nat → WL
  | 0 => as0
  | n + 1 => asF (csv S n) (asA S n) 15
def eq16 (P Q : WL) : Prop := ∀ i, i < 16 → P.1 i = Q.1 i ∧ P.2 i = Q.2 i
theorem joS_16 {P Q : WL} (h : eq16 P Q) {set b : Nat} (hs : set < 16) (hb : b < 4) (c : Int32) : eq16 (joS P set b c) (joS Q set b c) := by
  have hr := (rs_and set hs b hb).2
  unfold joS
  rw [(h _ hr).1, (h _ hr).2, (h _ hs).1, (h _ hs).2]
  by_cases c1 : c = -1 ∨ rs set b = set ∨ Q.1 (rs set b) = 0
  · rw [if_pos c1, if_pos c1]; exact h
  · rw [if_neg c1, if_neg c1]
    intro i hi
    dsimp only [pu]
    by_cases e : i = set
    · rw [if_pos e, if_pos e, if_pos e, if_pos e]; exact ⟨rfl, rfl⟩
    · rw [if_neg e, if_neg e, if_neg e, if_neg e]; exact h i hi
theorem asF_16 {c : Nat → Int32} : ∀ {m : Nat} {P Q : WL}, m < 16 → eq16 P Q → eq16 (asF c P m) (asF c Q m)
  | 0, _, _, _, h => h
  | m + 1, P, Q, hm, h => by
    refine asF_16 (m := m) (by omega) ?_
    unfold jo4
    exact joS_16 (joS_16 (joS_16 (joS_16 h hm (by decide) _) hm (by decide) _) hm (by decide) _) hm (by decide) _
theorem W2_W2 (M : Mm) {w l : Nat} (h : w ≠ l) (P Q : WL) : W2 (W2 M w l P) w l Q = W2 M w l Q := by
  unfold W2
  rw [rowI_comm _ h.symm, rowI_rowI, rowI_rowI]
theorem RM.W2 {A : Nat → Nat} {m : Nat} {S : Ms} {M : Mm} (h : RM A m S M) (P : WL) : RM A m S (W2 M (A 67) (A 66) P) := by
  refine ⟨h.1, h.2.1, h.2.2.1, fun k h1 h2 => ?_, fun k hk h6 => ?_, h.2.2.2.2.2⟩
  · rw [W2_o (h.nem (by decide)) (h.nem (by decide))]; exact h.sc h1 h2
  · rw [W2_o (h.ne hk (by decide) (by omega)) (h.ne hk (by decide) (by omega))]; exact h.row hk h6
theorem FM.W2 {A : Nat → Nat} {m : Nat} {M : Mm} (P : WL) : FM A m M (W2 M (A 67) (A 66) P) :=
  ⟨fun _ => rfl, fun _ => rfl, fun _ => rfl, fun b _ h2 => W2_o (h2 67 (by decide)) (h2 66 (by decide)), fun _ _ => rfl⟩
/-- the rows of the assignments stay when letters are laid -/
theorem SE.r6 {A : Nat → Nat} {m : Nat} {S : Ms} {M M' : Mm} (h : RM A m S M) (g : SE A m M M') {k : Nat} (hk : k = 66 ∨ k = 67) : fI M' (A k) = fI M (A k) := by
  have hz : 0 < szI k := by rcases hk with rfl | rfl <;> decide
  funext j
  exact g.2.2.2.2 _ j (h.ne hz (by decide) (by omega)) (h.ne hz (by decide) (by omega)) (h.ne hz (by decide) (by omega)) (h.ne hz (by decide) (by omega)) (fun z => h.nem hz z.1.symm)
def sAssign (S : Ms) : Ms := wi S 0 0
def vAssign (S : Ms) : Int32 := (asA S (cn S 2)).2 (2 ^ cn S 51 - 1)
def vWays (S : Ms) : Int32 := (asA S (cn S 2)).1 (2 ^ cn S 51 - 1)
