theorem waiL_no {S : Ms} {f : Int32} : ∀ {n : Nat}, waiL S f n = false → ∀ i, i < n → gA S 57 i ≠ f
  | 0, _, i, h => absurd h (Nat.not_lt_zero i)
  | n + 1, h, i, hi => by
    rw [waiL, Bool.or_eq_false_iff] at h
    rcases Nat.lt_or_ge i n with z | z
    · exact waiL_no h.1 i z
    · rw [show i = n by omega]; exact of_decide_eq_false h.2
theorem pig : ∀ (n : Nat) (l : List Nat), l.Nodup → (∀ x ∈ l, x < n) → l.length ≤ n
  | 0, l, _, h => by
    cases l with
    | nil => exact Nat.le_refl _
    | cons x l => exact absurd (h x List.mem_cons_self) (Nat.not_lt_zero x)
  | n + 1, l, hd, h => by
    have h1 := pig n (l.erase n) (hd.erase n) (fun x hx => by
      have h2 := h x (List.mem_of_mem_erase hx)
      have h3 : x ≠ n := fun z => by rw [z] at hx; exact absurd hx (hd.not_mem_erase)
      omega)
    have h4 := List.length_erase (a := n) (l := l)
    split at h4 <;> omega
theorem ordLt {S : Ms} (hV : INV S) {j : Nat} (hj : j < cn S 2) (hw : waiL S (nI j) (cn S 58) = false) : cn S 58 < 24 := by
  obtain ⟨⟨-, v2, -, -, -, -, -, v58, -⟩, -, -, -, -, -, -, -, -, -, -, hO, hD⟩ := hV
  have h1 := v2.2
  have h2 := v58.2
  rcases Nat.lt_or_ge (cn S 58) 24 with z | z
  · exact z
  · exfalso
    have hn := waiL_no hw
    have h3 := pig 24 (j :: (List.range (cn S 58)).map (fun i => ca S 57 i)) (by
      rw [List.nodup_cons]
      refine ⟨fun hm => ?_, ?_⟩
      · obtain ⟨i, hi, e⟩ := List.mem_map.mp hm
        have hi2 := List.mem_range.mp hi
        exact hn i hi2 (by rw [(hO i hi2).1.1, e])
      · unfold List.Nodup
        rw [List.pairwise_map]
        exact List.pairwise_lt_range.imp_of_mem (fun {a b} _ hb hab => hD a b hab (List.mem_range.mp hb))) (fun x hx => by
      rcases List.mem_cons.mp hx with e | e
      · omega
      · obtain ⟨i, hi, e⟩ := List.mem_map.mp e
        have := (hO i (List.mem_range.mp hi)).1.2
        omega)
    simp at h3
    omega
