theorem DRp_method {M N : tw_M} {t n l : Int32} {c i i' p p' : Nat} (h : DR M N) (hc : (c : Int) < (M 1 8).toInt) (hi : i = (M 1 14).toInt.toNat) (hi' : i' = (N 88 9).toInt.toNat) (hp : p = (M 20 c).toInt.toNat) (hp' : p' = 5 * c + p) (hn : (M 1 14).toInt < 40) (h20 : (M 20 c).toInt < 5) :
    DR (tw_set (tw_set (tw_set (tw_set (tw_set (tw_set M 21 i t) 22 i n) 23 i l) 1 14 (M 1 14 + 1)) (8 + c) p (M 1 14)) 20 c (M 20 c + 1)) (tw_set (tw_set (tw_set (tw_set (tw_set (tw_set (tw_set N 95 p' (N 88 9)) 94 c (N 94 c + 1)) 96 i' t) 97 i' n) 98 i' l) 99 i' 0) 88 9 (N 88 9 + 1)) := by
  obtain ⟨⟨i1, i2, i3, i4, i5, i6⟩, ⟨e5, e8, e14, e16, e17⟩, ⟨k2, k3, k4, k5, k6, k20, k21, k22, k23, k65, k66⟩, h3, h4, h5, h6, h7, h8, h9⟩ := h
  have hii : i' = i := by rw [hi, hi', e14]
  subst hii
  subst hp'
  have z1 : (1 : Int32).toInt = 1 := by decide
  have z0 : (0 : Int32).toInt = 0 := by decide
  have h20b := i5 c (by omega)
  have ep : (M 1 14 + 1).toInt = (M 1 14).toInt + 1 := by rw [tw_addI (by omega), z1]
  have eq : (M 20 c + 1).toInt = (M 20 c).toInt + 1 := by rw [tw_addI (by omega), z1]
  have out : ∀ q, (1 < q ∧ q < 8) ∨ 23 < q → tw_set (tw_set (tw_set (tw_set (tw_set (tw_set M 21 i' t) 22 i' n) 23 i' l) 1 14 (M 1 14 + 1)) (8 + c) p (M 1 14)) 20 c (M 20 c + 1) q = M q := fun q h1 => by
    rw [tw_set_q _ _ (by omega), tw_set_q _ _ (by omega), tw_set_q _ _ (by omega), tw_set_q _ _ (by omega), tw_set_q _ _ (by omega), tw_set_q _ _ (by omega)]
  generalize hMa : tw_set (tw_set (tw_set (tw_set (tw_set (tw_set M 21 i' t) 22 i' n) 23 i' l) 1 14 (M 1 14 + 1)) (8 + c) p (M 1 14)) 20 c (M 20 c + 1) = Ma at *
  have f1 : ∀ k, ¬ k = 14 → Ma 1 k = M 1 k := by
    intro k hk
    rw [← hMa, tw_set_q _ _ (by omega), tw_set_q _ _ (by omega), tw_set_k _ _ hk, tw_set_q _ _ (by omega), tw_set_q _ _ (by omega), tw_set_q _ _ (by omega)]
  have f14 : Ma 1 14 = M 1 14 + 1 := by
    rw [← hMa, tw_set_q _ _ (by omega), tw_set_q _ _ (by omega), tw_set_s]
  have f20 : ∀ b, Ma 20 b = if b = c then M 20 c + 1 else M 20 b := by
    intro b
    by_cases e : b = c
    · rw [if_pos e, e, ← hMa, tw_set_s]
    · rw [if_neg e, ← hMa, tw_set_k _ _ e, tw_set_q _ _ (by omega), tw_set_q _ _ (by omega), tw_set_q _ _ (by omega), tw_set_q _ _ (by omega), tw_set_q _ _ (by omega)]
  have f8 : ∀ c' j, c' < 12 → Ma (8 + c') j = if c' = c ∧ j = p then M 1 14 else M (8 + c') j := by
    intro c' j hc'
    rw [← hMa, tw_set_q _ _ (by omega)]
    by_cases e : c' = c ∧ j = p
    · obtain ⟨rfl, rfl⟩ := e
      rw [if_pos ⟨rfl, rfl⟩, tw_set_s]
    · rw [if_neg e]
      have a : tw_set (tw_set (tw_set (tw_set (tw_set M 21 i' t) 22 i' n) 23 i' l) 1 14 (M 1 14 + 1)) (8 + c) p (M 1 14) (8 + c') j = tw_set (tw_set (tw_set (tw_set M 21 i' t) 22 i' n) 23 i' l) 1 14 (M 1 14 + 1) (8 + c') j := by
        show (if 8 + c' = 8 + c ∧ j = p then M 1 14 else _) = _
        exact if_neg (fun q => e ⟨by omega, q.2⟩)
      rw [a, tw_set_q _ _ (by omega), tw_set_q _ _ (by omega), tw_set_q _ _ (by omega), tw_set_q _ _ (by omega)]
  have f21 : ∀ b, Ma 21 b = if b = i' then t else M 21 b := by
    intro b
    rw [← hMa, tw_set_q _ _ (by omega), tw_set_q _ _ (by omega), tw_set_q _ _ (by omega), tw_set_q _ _ (by omega), tw_set_q _ _ (by omega)]
    by_cases e : b = i'
    · rw [if_pos e, e, tw_set_s]
    · rw [if_neg e, tw_set_k _ _ e]
  have f22 : ∀ b, Ma 22 b = if b = i' then n else M 22 b := by
    intro b
    rw [← hMa, tw_set_q _ _ (by omega), tw_set_q _ _ (by omega), tw_set_q _ _ (by omega), tw_set_q _ _ (by omega)]
    by_cases e : b = i'
    · rw [if_pos e, e, tw_set_s]
    · rw [if_neg e, tw_set_k _ _ e, tw_set_q _ _ (by omega)]
  have f23 : ∀ b, Ma 23 b = if b = i' then l else M 23 b := by
    intro b
    rw [← hMa, tw_set_q _ _ (by omega), tw_set_q _ _ (by omega), tw_set_q _ _ (by omega)]
    by_cases e : b = i'
    · rw [if_pos e, e, tw_set_s]
    · rw [if_neg e, tw_set_k _ _ e, tw_set_q _ _ (by omega), tw_set_q _ _ (by omega)]
  have tk : ∀ x, tOK M x → tOK Ma x := by intro x hx; unfold tOK; rw [f1 5 (by omega), f1 8 (by omega)]; exact hx
  refine ⟨?_, ?_, ⟨?_, ?_, ?_, ?_, ?_, ?_, ?_, ?_, ?_, ?_, ?_⟩, ?_, ?_, ?_, ?_, ?_, ?_, ?_⟩
  · unfold DI
    rw [f1 5 (by omega), f1 8 (by omega), f1 16 (by omega), f14, out 65 (by omega)]
    refine ⟨i1, i2, by omega, i4, ?_, i6⟩
    intro k hk
    rw [f20]
    by_cases e : k = c
    · rw [if_pos e]; omega
    · rw [if_neg e]; exact i5 k hk
  · rw [f1 5 (by omega), f1 8 (by omega), f1 16 (by omega), f1 17 (by omega), f14]
    exact ⟨e5, e8, by show M 1 14 + 1 = N 88 9 + 1; rw [e14], e16, e17⟩
  · rw [out 2 (by omega)]; exact k2
  · rw [out 3 (by omega)]; exact k3
  · rw [out 4 (by omega)]; exact k4
  · rw [out 5 (by omega)]; exact k5
  · rw [out 6 (by omega)]; exact k6
  · funext b; rw [f20, k20]; show _ = if 94 = 94 ∧ b = c then N 94 c + 1 else N 94 b; simp
  · funext b; rw [f21, k21]; show _ = if 96 = 96 ∧ b = i' then t else N 96 b; simp
  · funext b; rw [f22, k22]; show _ = if 97 = 97 ∧ b = i' then n else N 97 b; simp
  · funext b; rw [f23, k23]; show _ = if 98 = 98 ∧ b = i' then l else N 98 b; simp
  · funext b
    rw [out 65 (by omega)]
    show M 65 b = if 99 = 99 ∧ b = i' then 0 else N 99 b
    by_cases e : b = i'
    · rw [if_pos ⟨rfl, e⟩]; exact h6 b (by omega)
    · rw [if_neg (fun q => e q.2), k65]
  · rw [out 66 (by omega)]; exact k66
  · intro c' j hc' hj
    rw [f8 c' j hc']
    show _ = if 95 = 95 ∧ 5 * c' + j = 5 * c + p then N 88 9 else N 95 (5 * c' + j)
    by_cases e : c' = c ∧ j = p
    · obtain ⟨rfl, rfl⟩ := e
      rw [if_pos ⟨rfl, rfl⟩, if_pos ⟨rfl, rfl⟩]; exact e14
    · rw [if_neg e, if_neg (fun q => e ⟨by omega, by omega⟩)]; exact h3 c' j hc' hj
  · intro m k hm hk; rw [out _ (by omega)]; exact h4 m k hm hk
  · intro k hk
    rw [f1 8 (by omega)] at hk
    rw [f20, if_neg (by omega)]
    exact h5 k hk
  · intro k hk
    rw [f14] at hk
    rw [out 65 (by omega)]
    exact h6 k (by omega)
  · intro c' j hc' hj
    rw [f1 8 (by omega)] at hc'
    rw [f20] at hj
    rw [f14, f8 c' j (by omega)]
    by_cases e : c' = c ∧ j = p
    · rw [if_pos e]; omega
    · rw [if_neg e]
      have h7' := h7 c' j hc'
      by_cases e2 : c' = c
      · subst e2
        rw [if_pos rfl] at hj
        have := h7' (by omega)
        omega
      · rw [if_neg e2] at hj
        have := h7' hj
        omega
  · intro m k hm hk
    rw [f14] at hm
    rw [out 65 (by omega)] at hk
    apply tk
    rw [out _ (by omega)]
    by_cases e : (m : Int) < (M 1 14).toInt
    · exact h8 m k e hk
    · rw [h6 m (by omega), z0] at hk; omega
  · intro k hk
    rw [f1 16 (by omega)] at hk
    apply tk
    rw [out 66 (by omega)]
    exact h9 k hk
