/-! ===== the law's start: what the system's state gives (by hand) ===== -/
theorem len0 {t : Term} {args : Array Value} {s : State} {a : Nat} {cell : Cell} {ty : FieldType} (ht : t.eval args s none [] s = some (.ref a)) (hc : s.heap[a]? = some cell) (h1 : (Cond.arrayOf t ty).before args s = true) (h : (Cond.eq (.length t) (.int 0)).before args s = true) : cell.slots.size = 0 := by
  obtain ⟨⟨hst, k, hk, comp, hkind⟩, hu⟩ := Cond.arrayOf_spec h1 ht hc
  have ha : s.arrayAt? a = some cell := by
    unfold State.arrayAt?
    have h9 : ¬ (cell.vm = .unknown ∨ cell.vm.isStatics = true) := by
      intro z
      rcases z with z | z
      · exact hu z
      · cases hv : cell.vm with
        | statics q => exact hst q hv
        | _ => rw [hv] at z; exact Bool.noConfusion z
    simp [hc, hk, hkind, h9]
  by_cases hs : cell.slots.size < 2 ^ 31
  · have he := length_eval ht ha hs
    have h2 : (Term.int 0).eval args s none [] s = some (.int 0) := rfl
    rw [Cond.before, Cond.holds, Cond.eq_ints he h2] at h
    have h3 : cell.slots.size.toInt32 = 0 := by simpa using h
    exact (toInt32_eq_zero hs).mp h3
  · exfalso
    have he : (Term.length t).eval args s none [] s = none := by simp [Term.eval, ht, ha, hs]
    simp [Cond.before, Cond.holds, Cond.value, he] at h
/-- the numbers of the array classes -/
theorem ak_of {U : State} {args : Array Value} {ty : FieldType} (h : (Cond.arrayClass ty).before args U = true) (hty : ∀ n, ty ≠ .object n) (hr : ty.isReference = false) : ∃ cA : ClassId, ArrOfT U cA ty ∧ va_RA U cA ty := by
  obtain ⟨c, k, comp, h1, h2, h3⟩ := Cond.arrayClass_spec h
  refine ⟨c, fun N z => ⟨fun k h => (by cases h), k, h2, comp, h3⟩, ?_⟩
  cases ty <;> first | exact h1 | exact absurd rfl (hty _)
theorem ao_of {U : State} {args : Array Value} {C : String} (h : (Cond.arrayOver (.object C)).before args U = true) : ∃ cA : ClassId, ArrOfT U cA (.object C) ∧ va_RA U cA (.object C) := by
  obtain ⟨comp, c, k, h1, -, h2, h3, h4⟩ := Cond.arrayOver_spec h
  exact ⟨c, fun N z => ⟨fun k h => (by cases h), k, h2, comp, h3⟩, k, comp, h2, h3, h1, h4⟩
theorem kn_all {s : State} {args : Array Value} (hts : ∀ w ∈ lw_tbl, w.before args s = true) : ∃ D : va_G, ∀ (c : Nat) (q : vw_C), vwCl[c]? = some q → u_Kn s q.1 q.2.1 q.2.2 (D.1 c) (D.2 c) := by
  have all : ∀ (c : Nat) (q : vw_C), vwCl[c]? = some q → ∃ (cC : ClassId) (iS : Nat → Nat), u_Kn s q.1 q.2.1 q.2.2 cC iS := by
    intro c q hq
    have key : ∀ q ∈ vwCl, (∀ w ∈ u_ws q.1 q.2.1 q.2.2, w ∈ lw_tbl) ∧ Cond.instantiable q.1 q.2.2 ∈ lw_tbl := by
      intro q hq
      simp only [vwCl, List.mem_cons, List.not_mem_nil, or_false] at hq
      rcases hq with rfl | rfl | rfl | rfl | rfl | rfl | rfl | rfl | rfl | rfl | rfl | rfl | rfl | rfl
      · exact ⟨by decide +kernel, mT 867 (by decide +kernel)⟩
      · exact ⟨by decide +kernel, mT 700 (by decide +kernel)⟩
      · exact ⟨inJx4a65c, mT 43 (by decide +kernel)⟩
      · exact ⟨inX0, mT 69 (by decide +kernel)⟩
      · exact ⟨inX1, mT 388 (by decide +kernel)⟩
      · exact ⟨inX2, mT 562 (by decide +kernel)⟩
      · exact ⟨inX3, mT 304 (by decide +kernel)⟩
      · exact ⟨inX4, mT 310 (by decide +kernel)⟩
      · exact ⟨inX5, mT 480 (by decide +kernel)⟩
      · exact ⟨inX6, mT 468 (by decide +kernel)⟩
      · exact ⟨inX7, mT 947 (by decide +kernel)⟩
      · exact ⟨inX8, mT 1104 (by decide +kernel)⟩
      · exact ⟨inX9, mT 86 (by decide +kernel)⟩
      · exact ⟨inX10, mT 35 (by decide +kernel)⟩
    obtain ⟨k1, k2⟩ := key q (List.mem_of_getElem? hq)
    exact u_known hts k1 (hts _ k2)
  classical
  refine ⟨(fun c => if h : ∃ q, vwCl[c]? = some q then (all c h.choose h.choose_spec).choose else 0, fun c => if h : ∃ q, vwCl[c]? = some q then (all c h.choose h.choose_spec).choose_spec.choose else fun _ => 0), fun c q hq => ?_⟩
  have hh : ∃ q, vwCl[c]? = some q := ⟨q, hq⟩
  have e : hh.choose = q := Option.some.inj (hh.choose_spec.symm.trans hq)
  show u_Kn s q.1 q.2.1 q.2.2 (if h : _ then _ else _) (if h : _ then _ else _)
  rw [dif_pos hh, dif_pos hh]
  have h9 := (all c hh.choose hh.choose_spec).choose_spec.choose_spec
  rw [← e]; exact h9
/-- from the start's conditions: all that stands while the law runs -/
theorem gs_of {s : State} {args : Array Value} (hts : ∀ w ∈ lw_tbl, w.before args s = true) (hgv : (Jvm.Cond.and given_1 narrow_1).before args s = true) : ∃ (D : va_G) (cy : Nat → ClassId) (eD : Nat), GS D cy s.heap.size eD s s.heap ∧ wkE cy eD s.heap := by
  have hs := flat_of_before _ hgv
  obtain ⟨D, hD⟩ := kn_all hts
  obtain ⟨c0, a0, b0⟩ := ak_of (hts (.arrayClass .int) (mT 84 (by decide +kernel))) (fun n h => by cases h) rfl
  have hao : (Cond.arrayOver (.object "java/lang/Object")).before args s = true := hts _ (mT 149 (by decide +kernel))
  obtain ⟨c2, a2, b2⟩ := ao_of hao
  obtain ⟨c3, hMi⟩ := va_Mi.of (hs (.isRef (.mirror "[Ljava/lang/Object;")) (by decide +kernel))
  have hex : (Cond.exactly (.static "java/util/ArrayList" "DEFAULTCAPACITY_EMPTY_ELEMENTDATA" "[Ljava/lang/Object;") "[Ljava/lang/Object;").before args s = true := hs _ (by decide +kernel)
  obtain ⟨eD, cE, cell, kE, e1, e2, e3, e4, e5, e6, -⟩ := Cond.exactly_spec hex
  have hlen := len0 e1 e3 (hs (.arrayOf (.static "java/util/ArrayList" "DEFAULTCAPACITY_EMPTY_ELEMENTDATA" "[Ljava/lang/Object;") (.object "java/lang/Object")) (by decide +kernel)) (hs _ (by decide +kernel))
  have hA : ∀ a : Nat, a < s.heap.size → ¬ (fun q => s.heap.size ≤ q) a := fun a h z => Nat.not_le.mpr h z
  have hNL : ∃ cur, s.vm.findClass RX10 = some cur := by
    obtain ⟨h1, h2⟩ := hD 13 _ rfl
    obtain ⟨h3, -⟩ := h2
    exact ⟨_, h3⟩
  obtain ⟨cur, hcur⟩ := hNL
  have str : ∀ k tx, Cond.stringRef RX10 k tx ∈ lw_tbl → ∃ sa, vk_R RX10 k tx sa s := by
    intro k tx hw
    have h1 := hts _ hw
    obtain ⟨-, -, -, a, -, -, -, -, -, h2⟩ := Cond.stringRef_spec hcur h1
    exact ⟨a, vk_R.of h1 h2⟩
  refine ⟨D, fun k => if k = 0 then c0 else if k = 2 then c2 else c3, eD, ⟨⟨hD, fun k q hk => ?_⟩, ?_, ?_, ?_, ?_, fun q hq => ?_, fun q hq => ?_, va_AO.of hao, hMi⟩, cell, e3, ?_, hlen, e5⟩
  · match k, hk with
    | 0, hk => cases hk; exact ⟨a0, b0⟩
    | 1, hk => cases hk; exact ⟨a2, b2⟩
    | k + 2, hk => simp at hk
  · intro w hw hg
    have h1 := hts w hw
    unfold okw at hg
    split at hg
    · exact va_Nw.use rfl h1
    · exact va_Nw.use rfl h1
    · exact va_Nw.use rfl h1
    · exact va_Nw.use rfl h1
    · exact word_at (State.WarmedH.refl s) (good_of_word hg) h1
  · exact va_Zref (hts _ (mT 55 (by decide +kernel))) (hts _ (mT 4 (by decide +kernel))) e1 hA
  · exact vx_Zqof (hts _ (mT 239 (by decide +kernel))) (hts _ (mT 11 (by decide +kernel))) (hs _ (by decide +kernel)) hA
  · exact vx_Zqof (hts _ (mT 241 (by decide +kernel))) (hts _ (mT 11 (by decide +kernel))) (hs _ (by decide +kernel)) hA
  · simp only [zstr, List.mem_cons, List.not_mem_nil, or_false] at hq
    rcases hq with rfl | rfl | rfl | rfl
    · exact str _ _ (mT 1153 (by decide +kernel))
    · exact str _ _ (mT 253 (by decide +kernel))
    · exact str _ _ (mT 296 (by decide +kernel))
    · exact str _ _ (mT 527 (by decide +kernel))
  · simp only [znc, List.mem_cons, List.not_mem_nil, or_false] at hq
    rcases hq with rfl | rfl | rfl | rfl
    · exact va_Nc.of (hs (.not (.castable "java/lang/IllegalArgumentException" "java/lang/IndexOutOfBoundsException")) (by decide +kernel))
    · exact va_Nc.of (hs (.not (.castable "java/lang/IllegalStateException" "java/lang/IndexOutOfBoundsException")) (by decide +kernel))
    · exact va_Nc.of (hs (.not (.castable "java/lang/IllegalStateException" "java/lang/IllegalArgumentException")) (by decide +kernel))
    · exact va_Nc.of (hs (.not (.castable "java/lang/IndexOutOfBoundsException" "java/lang/IllegalArgumentException")) (by decide +kernel))
  · obtain ⟨kA, comp, k1, k2, k3, k4⟩ := b2
    show cell.cls = c2
    rw [e6]
    exact Option.some.inj (e2.symm.trans k4)
