def SV (M N : tw_M) : Prop := (M 70 12 = -1 ∧ M 70 8 = 0 ∧ M 70 9 = 0 ∧ M 70 11 = 0 ∧ N 88 21 = 0) ∨ StR M N
def CV (M N : tw_M) : Prop := (M 82 4 = 0 ∧ N 88 36 = 0) ∨ CkR M N
def IV (M : tw_M) : Prop := DR M M ∧ SV M M ∧ CV M M
theorem disc_out (M : tw_M) {q : Nat} (h : q < 70) : disc M q = M q := by
  unfold disc
  rw [tw_set_q _ _ (by omega), tw_set_q _ _ (by omega), tw_set_q _ _ (by omega), tw_set_q _ _ (by omega), tw_set_q _ _ (by omega)]
theorem disc_ref (M : tw_M) {q : Nat} (h : 88 ≤ q) : disc M q = M q := by
  unfold disc
  rw [tw_set_q _ _ (by omega), tw_set_q _ _ (by omega), tw_set_q _ _ (by omega), tw_set_q _ _ (by omega), tw_set_q _ _ (by omega)]
theorem fin_IV {Ma Na : tw_M} (h : DR Ma Na) (hq : ∀ q, q < 88 → Na q = disc Ma q) : IV (tw_set (tw_set Na 88 21 0) 88 36 0) := by
  have o : ∀ q, q < 88 → tw_set (tw_set Na 88 21 0) 88 36 0 q = disc Ma q := fun q hq2 => by rw [tw_set_q _ _ (by omega), tw_set_q _ _ (by omega)]; exact hq q hq2
  have o70 := o 70 (by omega)
  have o82 := o 82 (by omega)
  refine ⟨DR_congr h ⟨fun q h1 => by rw [o q (by omega)]; exact disc_out Ma (by omega), fun q h1 h2 => by rw [tw_set_q _ _ (by omega), tw_set_q _ _ (by omega)], fun k hk => by rw [tw_set_k _ _ (by omega), tw_set_k _ _ (by omega)]⟩, Or.inl ⟨?_, ?_, ?_, ?_, rfl⟩, Or.inl ⟨?_, rfl⟩⟩
  · rw [o70]; rfl
  · rw [o70]; rfl
  · rw [o70]; rfl
  · rw [o70]; rfl
  · rw [o82]; rfl
theorem DR_ref {M N N' : tw_M} (h : DR M N) (hq : ∀ q, 88 ≤ q → N' q = N q) : DR M N' := DR_congr h ⟨fun _ _ => rfl, fun q h1 _ => hq q (by omega), fun k _ => by rw [hq 88 (by omega)]⟩
theorem DRp_primitive {M N : tw_M} {n l a r c : Int32} {i i' : Nat} (h : DR M N) (hi : i = (M 1 5).toInt.toNat) (hi' : i' = (N 88 0).toInt.toNat) (hn : (M 1 5).toInt < 12) : DR (tw_set (tw_set (tw_set (tw_set (tw_set (tw_set M 2 i n) 3 i l) 4 i a) 5 i r) 6 i c) 1 5 (M 1 5 + 1)) (tw_set (tw_set (tw_set (tw_set (tw_set (tw_set N 89 i' n) 90 i' l) 91 i' a) 92 i' r) 93 i' c) 88 0 (N 88 0 + 1)) := by
  obtain ⟨⟨i1, i2, i3, i4, i5, i6⟩, ⟨e5, e8, e14, e16, e17⟩, ⟨k2, k3, k4, k5, k6, k20, k21, k22, k23, k65, k66⟩, h3, h4, h5, h6, h7, h8, h9⟩ := h
  have hii : i' = i := by rw [hi, hi', e5]
  subst hii
  have z1 : (1 : Int32).toInt = 1 := by decide
  have ep : (M 1 5 + 1).toInt = (M 1 5).toInt + 1 := by rw [tw_addI (by omega), z1]
  have out : ∀ q, 6 < q → tw_set (tw_set (tw_set (tw_set (tw_set (tw_set M 2 i' n) 3 i' l) 4 i' a) 5 i' r) 6 i' c) 1 5 (M 1 5 + 1) q = M q := fun q hq => by
    rw [tw_set_q _ _ (by omega), tw_set_q _ _ (by omega), tw_set_q _ _ (by omega), tw_set_q _ _ (by omega), tw_set_q _ _ (by omega), tw_set_q _ _ (by omega)]
  have mono : ∀ t, tOK M t → tOK (tw_set (tw_set (tw_set (tw_set (tw_set (tw_set M 2 i' n) 3 i' l) 4 i' a) 5 i' r) 6 i' c) 1 5 (M 1 5 + 1)) t := by
    intro t ht
    rcases ht with q | q
    · exact Or.inl ⟨q.1, by show t.toInt < (M 1 5 + 1).toInt; omega⟩
    · exact Or.inr q
  refine ⟨⟨?_, i2, i3, i4, i5, i6⟩, ⟨?_, e8, e14, e16, e17⟩, ⟨?_, ?_, ?_, ?_, ?_, k20, k21, k22, k23, k65, k66⟩, ?_, ?_, h5, h6, ?_, ?_, ?_⟩
  · show 0 ≤ (M 1 5 + 1).toInt ∧ (M 1 5 + 1).toInt ≤ 12
    omega
  · show M 1 5 + 1 = N 88 0 + 1
    rw [e5]
  · funext b; simp [tw_set, k2]
  · funext b; simp [tw_set, k3]
  · funext b; simp [tw_set, k4]
  · funext b; simp [tw_set, k5]
  · funext b; simp [tw_set, k6]
  · intro c' j hc hj; rw [out _ (by omega)]; exact h3 c' j hc hj
  · intro m k hm hk; rw [out _ (by omega)]; exact h4 m k hm hk
  · intro c' j hc hj; rw [out _ (by omega)]; exact h7 c' j hc hj
  · intro m k hm hk; rw [out _ (by omega)]; exact mono _ (h8 m k hm hk)
  · intro k hk; exact mono _ (h9 k hk)
theorem DRp_compound {M N : tw_M} {i' : Nat} (h : DR M N) (hi' : i' = (N 88 6).toInt.toNat) (hn : (M 1 8).toInt < 12) : DR (tw_set M 1 8 (M 1 8 + 1)) (tw_set (tw_set N 94 i' 0) 88 6 (N 88 6 + 1)) := by
  obtain ⟨⟨i1, i2, i3, i4, i5, i6⟩, ⟨e5, e8, e14, e16, e17⟩, ⟨k2, k3, k4, k5, k6, k20, k21, k22, k23, k65, k66⟩, h3, h4, h5, h6, h7, h8, h9⟩ := h
  have hii : i' = (M 1 8).toInt.toNat := by rw [hi', e8]
  have z1 : (1 : Int32).toInt = 1 := by decide
  have z0 : (0 : Int32).toInt = 0 := by decide
  have ep : (M 1 8 + 1).toInt = (M 1 8).toInt + 1 := by rw [tw_addI (by omega), z1]
  have mono : ∀ t, tOK M t → tOK (tw_set M 1 8 (M 1 8 + 1)) t := by
    intro t ht
    rcases ht with q | q
    · exact Or.inl q
    · exact Or.inr ⟨q.1, by show t.toInt < 16 + (M 1 8 + 1).toInt; omega⟩
  have out : ∀ q, 1 < q → tw_set M 1 8 (M 1 8 + 1) q = M q := fun q hq => tw_set_q _ _ (by omega)
  refine ⟨⟨i1, ?_, i3, i4, i5, i6⟩, ⟨e5, ?_, e14, e16, e17⟩, ⟨k2, k3, k4, k5, k6, ?_, k21, k22, k23, k65, k66⟩, ?_, ?_, ?_, h6, ?_, ?_, ?_⟩
  · show 0 ≤ (M 1 8 + 1).toInt ∧ (M 1 8 + 1).toInt ≤ 12
    omega
  · show M 1 8 + 1 = N 88 6 + 1
    rw [e8]
  · funext b
    show M 20 b = if 94 = 94 ∧ b = i' then 0 else N 94 b
    by_cases e : b = i'
    · rw [if_pos ⟨rfl, e⟩]; exact h5 b (by omega)
    · rw [if_neg (fun q => e q.2), k20]
  · intro c' j hc hj; rw [out _ (by omega)]; exact h3 c' j hc hj
  · intro m k hm hk; rw [out _ (by omega)]; exact h4 m k hm hk
  · intro k hk
    have hk2 : (M 1 8 + 1).toInt ≤ (k : Int) := hk
    exact h5 k (by omega)
  · intro c' j hc hj
    have hc2 : (c' : Int) < (M 1 8 + 1).toInt := hc
    have hj2 : (j : Int) < (M 20 c').toInt := hj
    by_cases e : (c' : Int) < (M 1 8).toInt
    · rw [out _ (by omega)]; exact h7 c' j e hj2
    · rw [h5 c' (by omega), z0] at hj2; omega
  · intro m k hm hk; rw [out _ (by omega)]; exact mono _ (h8 m k hm hk)
  · intro k hk; exact mono _ (h9 k hk)
theorem DRp_start {M N : tw_M} {f : Int32} (h : DR M N) : DR (tw_set M 1 17 f) (tw_set N 88 15 f) := by
  obtain ⟨hI, ⟨e5, e8, e14, e16, e17⟩, k, h3, h4, h5, h6, h7, h8, h9⟩ := h
  have out : ∀ q, 1 < q → tw_set M 1 17 f q = M q := fun q hq => tw_set_q _ _ (by omega)
  refine ⟨hI, ⟨e5, e8, e14, e16, rfl⟩, k, ?_, ?_, h5, h6, ?_, ?_, h9⟩
  · intro c' j hc hj; rw [out _ (by omega)]; exact h3 c' j hc hj
  · intro m k hm hk; rw [out _ (by omega)]; exact h4 m k hm hk
  · intro c' j hc hj; rw [out _ (by omega)]; exact h7 c' j hc hj
  · intro m k hm hk; rw [out _ (by omega)]; exact h8 m k hm hk
theorem DRp_forget {M N : tw_M} (h : DR M N) : DR (tw_set M 1 16 0) (tw_set N 88 16 0) := by
  obtain ⟨⟨i1, i2, i3, i4, i5, i6⟩, ⟨e5, e8, e14, e16, e17⟩, k, h3, h4, h5, h6, h7, h8, h9⟩ := h
  have out : ∀ q, 1 < q → tw_set M 1 16 0 q = M q := fun q hq => tw_set_q _ _ (by omega)
  refine ⟨⟨i1, i2, i3, ?_, i5, i6⟩, ⟨e5, e8, e14, rfl, e17⟩, k, ?_, ?_, h5, h6, ?_, ?_, ?_⟩
  · show 0 ≤ (0 : Int32).toInt ∧ (0 : Int32).toInt ≤ 6
    decide
  · intro c' j hc hj; rw [out _ (by omega)]; exact h3 c' j hc hj
  · intro m k hm hk; rw [out _ (by omega)]; exact h4 m k hm hk
  · intro c' j hc hj; rw [out _ (by omega)]; exact h7 c' j hc hj
  · intro m k hm hk; rw [out _ (by omega)]; exact h8 m k hm hk
  · intro k hk
    have hk2 : (k : Int) < (0 : Int32).toInt := hk
    have z0 : (0 : Int32).toInt = 0 := by decide
    omega
theorem DRp_aim {M N : tw_M} {t : Int32} {i i' : Nat} (h : DR M N) (hi : i = (M 1 16).toInt.toNat) (hi' : i' = (N 88 16).toInt.toNat) (hn : (M 1 16).toInt < 6) (ht : tOK M t) : DR (tw_set (tw_set M 66 i t) 1 16 (M 1 16 + 1)) (tw_set (tw_set N 101 i' t) 88 16 (N 88 16 + 1)) := by
  obtain ⟨⟨i1, i2, i3, i4, i5, i6⟩, ⟨e5, e8, e14, e16, e17⟩, ⟨k2, k3, k4, k5, k6, k20, k21, k22, k23, k65, k66⟩, h3, h4, h5, h6, h7, h8, h9⟩ := h
  have hii : i' = i := by rw [hi, hi', e16]
  subst hii
  have z1 : (1 : Int32).toInt = 1 := by decide
  have ep : (M 1 16 + 1).toInt = (M 1 16).toInt + 1 := by rw [tw_addI (by omega), z1]
  have out : ∀ q, 1 < q → q < 66 → tw_set (tw_set M 66 i' t) 1 16 (M 1 16 + 1) q = M q := fun q h1 h2 => by rw [tw_set_q _ _ (by omega), tw_set_q _ _ (by omega)]
  refine ⟨⟨i1, i2, i3, ?_, i5, i6⟩, ⟨e5, e8, e14, ?_, e17⟩, ⟨k2, k3, k4, k5, k6, k20, k21, k22, k23, k65, ?_⟩, ?_, ?_, h5, h6, ?_, ?_, ?_⟩
  · show 0 ≤ (M 1 16 + 1).toInt ∧ (M 1 16 + 1).toInt ≤ 6
    omega
  · show M 1 16 + 1 = N 88 16 + 1
    rw [e16]
  · funext b; simp [tw_set, k66]
  · intro c' j hc hj; rw [out _ (by omega) (by omega)]; exact h3 c' j hc hj
  · intro m k hm hk; rw [out _ (by omega) (by omega)]; exact h4 m k hm hk
  · intro c' j hc hj
    have hc2 : (c' : Int) < (M 1 8).toInt := hc
    rw [out _ (by omega) (by omega)]; exact h7 c' j hc hj
  · intro m k hm hk
    have hm2 : (m : Int) < (M 1 14).toInt := hm
    rw [out _ (by omega) (by omega)]; exact h8 m k hm hk
  · intro k hk
    have hk2 : (k : Int) < (M 1 16 + 1).toInt := hk
    show tOK M (if 66 = 66 ∧ k = i' then t else M 66 k)
    by_cases e : k = i'
    · rw [if_pos ⟨rfl, e⟩]; exact ht
    · rw [if_neg (fun q => e q.2)]; exact h9 k (by omega)
theorem DRp_part {M N : tw_M} {t : Int32} {m : Nat} {i i' : Nat} (h : DR M N) (hm : (m : Int) < (M 1 14).toInt) (hi : i = (M 65 m).toInt.toNat) (hi' : i' = 5 * m + (N 99 m).toInt.toNat) (hn : (M 65 m).toInt < 5) (ht : tOK M t) : DR (tw_set (tw_set M (25 + m) i t) 65 m (M 65 m + 1)) (tw_set (tw_set N 100 i' t) 99 m (N 99 m + 1)) := by
  obtain ⟨⟨i1, i2, i3, i4, i5, i6⟩, ⟨e5, e8, e14, e16, e17⟩, ⟨k2, k3, k4, k5, k6, k20, k21, k22, k23, k65, k66⟩, h3, h4, h5, h6, h7, h8, h9⟩ := h
  have hii : i' = 5 * m + i := by rw [hi, hi', ← k65]
  subst hii
  have z1 : (1 : Int32).toInt = 1 := by decide
  have hm40 := i6 m (by omega)
  have ep : (M 65 m + 1).toInt = (M 65 m).toInt + 1 := by rw [tw_addI (by omega), z1]
  have out : ∀ q, q < 25 ∨ q = 66 → tw_set (tw_set M (25 + m) i t) 65 m (M 65 m + 1) q = M q := fun q h1 => by rw [tw_set_q _ _ (by omega), tw_set_q _ _ (by omega)]
  have o1 := out 1 (by omega)
  have e65 : ∀ b, tw_set (tw_set M (25 + m) i t) 65 m (M 65 m + 1) 65 b = if b = m then M 65 m + 1 else M 65 b := by
    intro b
    by_cases e : b = m
    · rw [if_pos e, e, tw_set_s]
    · rw [if_neg e, tw_set_k _ _ e, tw_set_q _ _ (by omega)]
  have tk : ∀ x, tOK M x → tOK (tw_set (tw_set M (25 + m) i t) 65 m (M 65 m + 1)) x := by intro x hx; unfold tOK; rw [o1]; exact hx
  refine ⟨?_, ?_, ⟨?_, ?_, ?_, ?_, ?_, ?_, ?_, ?_, ?_, ?_, ?_⟩, ?_, ?_, ?_, ?_, ?_, ?_, ?_⟩
  · unfold DI
    rw [o1, out 20 (by omega)]
    refine ⟨i1, i2, i3, i4, i5, ?_⟩
    intro k hk
    rw [e65]
    by_cases e : k = m
    · rw [if_pos e]; omega
    · rw [if_neg e]; exact i6 k hk
  · rw [o1]; exact ⟨e5, e8, e14, e16, e17⟩
  · rw [out 2 (by omega)]; exact k2
  · rw [out 3 (by omega)]; exact k3
  · rw [out 4 (by omega)]; exact k4
  · rw [out 5 (by omega)]; exact k5
  · rw [out 6 (by omega)]; exact k6
  · rw [out 20 (by omega)]; exact k20
  · rw [out 21 (by omega)]; exact k21
  · rw [out 22 (by omega)]; exact k22
  · rw [out 23 (by omega)]; exact k23
  · funext b
    rw [e65]
    by_cases e : b = m
    · rw [if_pos e, e, tw_set_s, k65]
    · rw [if_neg e, tw_set_k _ _ e, k65]; rfl
  · rw [out 66 (by omega)]; exact k66
  · intro c' j hc hj; rw [out _ (by omega)]; exact h3 c' j hc hj
  · intro m' k hm' hk
    show tw_set (tw_set M (25 + m) i t) 65 m (M 65 m + 1) (25 + m') k = tw_set N 100 (5 * m + i) t 100 (5 * m' + k)
    by_cases e : m' = m ∧ k = i
    · obtain ⟨rfl, rfl⟩ := e
      rw [tw_set_q _ _ (by omega), tw_set_s, tw_set_s]
    · have a1 : tw_set (tw_set M (25 + m) i t) 65 m (M 65 m + 1) (25 + m') k = M (25 + m') k := by
        rw [tw_set_q _ _ (by omega)]
        unfold tw_set
        exact if_neg (fun q => e ⟨by omega, q.2⟩)
      have a2 : tw_set N 100 (5 * m + i) t 100 (5 * m' + k) = N 100 (5 * m' + k) := tw_set_k _ _ (fun q => e ⟨by omega, by omega⟩)
      rw [a1, a2]
      exact h4 m' k hm' hk
  · rw [o1, out 20 (by omega)]; exact h5
  · intro k hk
    rw [o1] at hk
    rw [e65, if_neg (by omega)]
    exact h6 k hk
  · intro c' j hc hj
    rw [o1] at hc ⊢
    rw [out 20 (by omega)] at hj
    rw [out (8 + c') (by omega)]
    exact h7 c' j hc hj
  · intro m' k hm' hk
    rw [o1] at hm'
    rw [e65] at hk
    apply tk
    by_cases e : m' = m ∧ k = i
    · obtain ⟨rfl, rfl⟩ := e
      rw [tw_set_q _ _ (by omega), tw_set_s]
      exact ht
    · have a1 : tw_set (tw_set M (25 + m) i t) 65 m (M 65 m + 1) (25 + m') k = M (25 + m') k := by
        rw [tw_set_q _ _ (by omega)]
        unfold tw_set
        exact if_neg (fun q => e ⟨by omega, q.2⟩)
      rw [a1]
      by_cases e2 : m' = m
      · subst e2
        rw [if_pos rfl] at hk
        exact h8 m' k hm' (by omega)
      · rw [if_neg e2] at hk
        exact h8 m' k hm' hk
  · intro k hk
    rw [o1] at hk
    apply tk
    rw [out 66 (by omega)]
    exact h9 k hk
