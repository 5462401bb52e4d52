theorem LK_nwc {M M1 : Mm} {e l c : Nat} (h : nwc M M1 e) (hl : LK M l c) (hc : c ≠ 0) : LK M1 l c := by
  have hk : kd M l ≠ 0 := fun z => by have := hl.1; rw [z] at this; exact absurd this (by decide)
  refine LK_ext hl (nwc_kd h hk) (nwc_ln h hk) (fun i _ => nwc_fR h hk i) (fun i hi => ?_)
  have h9 := (hl.2.2 i hi).2
  rw [nwc_kd h (fun z => hc (by rw [← h9, z]))]; exact h9
theorem day_ex {d : Int32} (h : inB d 0 9999 = true) : ∃ n, n ≤ 9999 ∧ d = nI n := by
  obtain ⟨n, -, h1, h2⟩ := inb (a := 0) (b := 9999) (v := d) (by decide) h (by decide)
  exact ⟨n, h1, h2⟩
theorem cEnd_c (S : Ms) (f i d : Int32) : cEnd S f i d = if (!(isF S f && (decide (i = -1) || isF S i))) = true then 1 else if (decide (i = f) || !inB d 0 9999) = true then 2 else if ¬ gA S 14 f.toNatClampNeg = -1 then 3 else 0 := by
  unfold cEnd
  rw [show decide (f = i) = decide (i = f) from decide_eq_decide.mpr eq_comm]
theorem end7 {B : Nat → Nat → Nat} {S : Ms} {M : Mm} (h : qD B S M) {j : Nat} (hj : j < cn S 2) : fI M (B 4 j) 7 = b2i (!decide (gA S 14 j = -1)) := by
  rcases h j hj with ⟨a1, a2⟩ | ⟨a1, a2, -⟩
  · rw [a1, a2]; rfl
  · rw [a1, decide_eq_false a2]; rfl
theorem full_e {c : Nat} (h : c ≤ 40) : (!decide (nI c < 40)) = decide (nI c = 40) := by
  have e : (40 : Int32) = nI 40 := rfl
  by_cases z : c = 40
  · rw [z, e, decide_eq_true rfl, decide_eq_false (nI_nlt (Nat.le_refl _) (by decide))]; rfl
  · rw [e, decide_eq_true (nI_lt (by omega) (by decide)), decide_eq_false (fun y => z ((nI_eq (by omega) (by decide)).mp y))]; rfl
theorem full_p {B : Nat → Nat → Nat} {S : Ms} {M : Mm} (h : qP B S M) (hV : INV S) {j : Nat} (hj : j < cn S 2) : (!decide (nI (ln M (B 412 j)) < 40)) = decide (gA S 5 j = 40) := by
  have h5 := (hV.2.1 j hj).2.2.1
  rw [(h j hj).1, full_e h5.2, ← h5.1]
theorem full_w {B : Nat → Nat → Nat} {S : Ms} {M : Mm} (h : qW B S M) (hV : INV S) {j : Nat} (hj : j < cn S 2) : (!decide (nI (ln M (B 413 j)) < 40)) = decide (gA S 10 j = 40) := by
  have h5 := (hV.2.1 j hj).2.2.2.2.1
  rw [(h j hj).1, full_e h5.2, ← h5.1]
theorem ne40 {v : Int32} {c : Nat} (h : v = nI c) (hc : c ≤ 40) (hn : ¬ v = 40) : c < 40 := by
  have : c ≠ 40 := fun z => hn (by rw [h, z]; rfl)
  omega
theorem cnt_ge {v : Int32} {c N : Nat} (h : v = nI c) (hc : c ≤ N) (hN : N < 2 ^ 31) (hg : nI N ≤ v) : v = nI N := by
  rw [h, nI_leI hN (by omega)] at hg
  rw [h, show c = N by omega]
theorem cnt_lt {v : Int32} {c N : Nat} (h : v = nI c) (hc : c ≤ N) (hN : N < 2 ^ 31) (hg : ¬ nI N ≤ v) : ¬ v = nI N ∧ c < N := by
  rw [h, nI_leI hN (by omega)] at hg
  exact ⟨fun z => by rw [h, nI_eq (by omega) hN] at z; omega, by omega⟩
theorem qF.nx4 {B : Nat → Nat → Nat} {x : Nat} {S : Ms} {M : Mm} (h : qF B S M) (hx : qX B x M) {j : Nat} (hj : j < cn S 2) : x ≠ B 4 j := fun z => by
  have h1 := (h.2 j hj).2.1
  rw [← z, hx.1] at h1; omega
