theorem op_primitive {d : Nat} {M : tw_M} {n l a r c : Int32} (h : IV M) : tw_C (d + 8) j_TW_primitive [.inr 0, .inl n, .inl l, .inl a, .inl r, .inl c] M (fun r1 M1 => ∃ v, r1 = some v ∧ tw_C (d + 8) j_MD_primitive [.inr 88, .inl n, .inl l, .inl a, .inl r, .inl c] M1 (fun r2 M2 => r2 = some v ∧ IV M2)) := by
  obtain ⟨hD, hS, hC⟩ := id h
  refine sp_TW_primitive hD.1 (fun hok => ⟨_, rfl, ?_⟩) (fun hno => ⟨_, rfl, ?_⟩)
  · have er : ∀ q, 88 ≤ q → disc (tw_set (tw_set (tw_set (tw_set (tw_set (tw_set M 2 (M 1 5).toInt.toNat n) 3 (M 1 5).toInt.toNat l) 4 (M 1 5).toInt.toNat a) 5 (M 1 5).toInt.toNat r) 6 (M 1 5).toInt.toNat c) 1 5 (M 1 5 + 1)) q = M q := fun q hq => by
      rw [disc_ref _ hq]
      repeat rw [tw_set_q _ _ (by have := hD.1.2.1; have := hD.1.2.2.1; omega)]
    generalize hM1 : disc (tw_set (tw_set (tw_set (tw_set (tw_set (tw_set M 2 (M 1 5).toInt.toNat n) 3 (M 1 5).toInt.toNat l) 4 (M 1 5).toInt.toNat a) 5 (M 1 5).toInt.toNat r) 6 (M 1 5).toInt.toNat c) 1 5 (M 1 5 + 1)) = M1 at er ⊢
    have hD1 := DR_ref hD er
    obtain ⟨e5, e8, e14, e16, e17⟩ := hD1.2.1
    obtain ⟨k2, k3, k4, k5, k6, k20, k21, k22, k23, k65, k66⟩ := hD1.2.2.1
    refine sp_MD_primitive (RI_of hD1) (fun _ => ⟨?_, ?_⟩) (fun hno => absurd (by rw [← e5]; exact hok) hno)
    · rw [← e5, Int32.add_sub_cancel]
    · refine fin_IV (Ma := (tw_set (tw_set (tw_set (tw_set (tw_set (tw_set M 2 (M 1 5).toInt.toNat n) 3 (M 1 5).toInt.toNat l) 4 (M 1 5).toInt.toNat a) 5 (M 1 5).toInt.toNat r) 6 (M 1 5).toInt.toNat c) 1 5 (M 1 5 + 1))) (DRp_primitive hD1 rfl rfl (by omega)) (fun q hq => ?_)
      rw [hM1]
      repeat rw [tw_set_q _ _ (by omega)]
  · obtain ⟨e5, e8, e14, e16, e17⟩ := hD.2.1
    obtain ⟨k2, k3, k4, k5, k6, k20, k21, k22, k23, k65, k66⟩ := hD.2.2.1
    refine sp_MD_primitive (RI_of hD) (fun hok => absurd (by rw [e5]; exact hok) hno) (fun _ => ⟨rfl, h⟩)
theorem op_compound {d : Nat} {M : tw_M} (h : IV M) : tw_C (d + 8) j_TW_compound [.inr 0] M (fun r1 M1 => ∃ v, r1 = some v ∧ tw_C (d + 8) j_MD_compound [.inr 88] M1 (fun r2 M2 => r2 = some v ∧ IV M2)) := by
  obtain ⟨hD, hS, hC⟩ := id h
  refine sp_TW_compound hD.1 (fun hok => ⟨_, rfl, ?_⟩) (fun hno => ⟨_, rfl, ?_⟩)
  · have er : ∀ q, 88 ≤ q → disc (tw_set M 1 8 (M 1 8 + 1)) q = M q := fun q hq => by
      rw [disc_ref _ hq]
      repeat rw [tw_set_q _ _ (by have := hD.1.2.1; have := hD.1.2.2.1; omega)]
    generalize hM1 : disc (tw_set M 1 8 (M 1 8 + 1)) = M1 at er ⊢
    have hD1 := DR_ref hD er
    obtain ⟨e5, e8, e14, e16, e17⟩ := hD1.2.1
    obtain ⟨k2, k3, k4, k5, k6, k20, k21, k22, k23, k65, k66⟩ := hD1.2.2.1
    have z15 := tw_ti_15
    have z16 := tw_ti_16
    have z1 := tw_ti_1
    have hI8 := hD.1.2.1
    refine sp_MD_compound (RI_of hD1) (fun _ => ⟨?_, ?_⟩) (fun hno => absurd (by rw [← e8]; exact hok) hno)
    · rw [← e8]
      congr 1
      apply Int32.toInt_inj.mp
      have a1 : (M 1 8 + 1).toInt = (M 1 8).toInt + 1 := by rw [tw_addI (by omega), z1]
      rw [tw_addI (x := 15) (by omega), a1, tw_addI (x := 16) (by omega), z15, z16]
      omega
    · refine fin_IV (Ma := (tw_set M 1 8 (M 1 8 + 1))) (DRp_compound hD1 rfl (by omega)) (fun q hq => ?_)
      rw [hM1]
      repeat rw [tw_set_q _ _ (by omega)]
  · obtain ⟨e5, e8, e14, e16, e17⟩ := hD.2.1
    obtain ⟨k2, k3, k4, k5, k6, k20, k21, k22, k23, k65, k66⟩ := hD.2.2.1
    refine sp_MD_compound (RI_of hD) (fun hok => absurd (by rw [e8]; exact hok) hno) (fun _ => ⟨rfl, h⟩)
theorem op_method {d : Nat} {M : tw_M} {t n l : Int32} (h : IV M) : tw_C (d + 8) j_TW_method [.inr 0, .inl t, .inl n, .inl l] M (fun r1 M1 => ∃ v, r1 = some v ∧ tw_C (d + 8) j_MD_method [.inr 88, .inl t, .inl n, .inl l] M1 (fun r2 M2 => r2 = some v ∧ IV M2)) := by
  obtain ⟨hD, hS, hC⟩ := id h
  refine sp_TW_method hD.1 (fun hok => ⟨_, rfl, ?_⟩) (fun hno => ⟨_, rfl, ?_⟩)
  · have er : ∀ q, 88 ≤ q → disc (tw_set (tw_set (tw_set (tw_set (tw_set (tw_set M 21 (M 1 14).toInt.toNat t) 22 (M 1 14).toInt.toNat n) 23 (M 1 14).toInt.toNat l) 1 14 (M 1 14 + 1)) (8 + (t - 16).toInt.toNat) (M 20 (t - 16).toInt.toNat).toInt.toNat (M 1 14)) 20 (t - 16).toInt.toNat ((M 20 (t - 16).toInt.toNat) + 1)) q = M q := fun q hq => by
      have hI8 := hD.1.2.1
      have hI14 := hD.1.2.2.1
      have es : (t - 16).toInt = t.toInt - 16 := by rw [tw_subI (by rw [tw_ti_16]; omega), tw_ti_16]
      rw [disc_ref _ hq]
      repeat rw [tw_set_q _ _ (by omega)]
    generalize hM1 : disc (tw_set (tw_set (tw_set (tw_set (tw_set (tw_set M 21 (M 1 14).toInt.toNat t) 22 (M 1 14).toInt.toNat n) 23 (M 1 14).toInt.toNat l) 1 14 (M 1 14 + 1)) (8 + (t - 16).toInt.toNat) (M 20 (t - 16).toInt.toNat).toInt.toNat (M 1 14)) 20 (t - 16).toInt.toNat ((M 20 (t - 16).toInt.toNat) + 1)) = M1 at er ⊢
    have hD1 := DR_ref hD er
    obtain ⟨e5, e8, e14, e16, e17⟩ := hD1.2.1
    obtain ⟨k2, k3, k4, k5, k6, k20, k21, k22, k23, k65, k66⟩ := hD1.2.2.1
    have z16 := tw_ti_16
    have z5 := tw_ti_5
    have hI8 := hD.1.2.1
    have es : (t - 16).toInt = t.toInt - 16 := by rw [tw_subI (by omega), z16]
    have h20 := hD.1.2.2.2.2.1 (t - 16).toInt.toNat (by omega)
    have ei : (5 * (t - 16) + M1 94 (t - 16).toInt.toNat).toInt.toNat = 5 * (t - 16).toInt.toNat + (M 20 (t - 16).toInt.toNat).toInt.toNat := by
      rw [← k20]
      have a1 : ((5 : Int32) * (t - 16)).toInt = 5 * (t - 16).toInt := by rw [tw_mulI (by rw [z5]; omega), z5]
      have a2 : ((5 : Int32) * (t - 16) + M 20 (t - 16).toInt.toNat).toInt = 5 * (t - 16).toInt + (M 20 (t - 16).toInt.toNat).toInt := by rw [tw_addI (by omega), a1]
      omega
    refine sp_MD_method (RI_of hD1) (fun _ => ⟨?_, ?_⟩) (fun hno => absurd (by rw [← e8, ← e14, ← k20]; exact hok) hno)
    · rw [← e14, Int32.add_sub_cancel]
    · refine fin_IV (Ma := (tw_set (tw_set (tw_set (tw_set (tw_set (tw_set M 21 (M 1 14).toInt.toNat t) 22 (M 1 14).toInt.toNat n) 23 (M 1 14).toInt.toNat l) 1 14 (M 1 14 + 1)) (8 + (t - 16).toInt.toNat) (M 20 (t - 16).toInt.toNat).toInt.toNat (M 1 14)) 20 (t - 16).toInt.toNat ((M 20 (t - 16).toInt.toNat) + 1))) (DRp_method hD1 (by omega) rfl rfl rfl ei (by omega) (by omega)) (fun q hq => ?_)
      rw [hM1]
      repeat rw [tw_set_q _ _ (by omega)]
  · obtain ⟨e5, e8, e14, e16, e17⟩ := hD.2.1
    obtain ⟨k2, k3, k4, k5, k6, k20, k21, k22, k23, k65, k66⟩ := hD.2.2.1
    refine sp_MD_method (RI_of hD) (fun hok => absurd (by rw [e8, e14, k20]; exact hok) hno) (fun _ => ⟨rfl, h⟩)
theorem op_part {d : Nat} {M : tw_M} {m t : Int32} (h : IV M) : tw_C (d + 8) j_TW_part [.inr 0, .inl m, .inl t] M (fun r1 M1 => ∃ v, r1 = some v ∧ tw_C (d + 8) j_MD_part [.inr 88, .inl m, .inl t] M1 (fun r2 M2 => r2 = some v ∧ IV M2)) := by
  obtain ⟨hD, hS, hC⟩ := id h
  refine sp_TW_part hD.1 (fun hok => ⟨_, rfl, ?_⟩) (fun hno => ⟨_, rfl, ?_⟩)
  · have er : ∀ q, 88 ≤ q → disc (tw_set (tw_set M (25 + m.toInt.toNat) (M 65 m.toInt.toNat).toInt.toNat t) 65 m.toInt.toNat (M 65 m.toInt.toNat + 1)) q = M q := fun q hq => by
      have hI8 := hD.1.2.1
      have hI14 := hD.1.2.2.1
      rw [disc_ref _ hq]
      repeat rw [tw_set_q _ _ (by omega)]
    generalize hM1 : disc (tw_set (tw_set M (25 + m.toInt.toNat) (M 65 m.toInt.toNat).toInt.toNat t) 65 m.toInt.toNat (M 65 m.toInt.toNat + 1)) = M1 at er ⊢
    have hD1 := DR_ref hD er
    obtain ⟨e5, e8, e14, e16, e17⟩ := hD1.2.1
    obtain ⟨k2, k3, k4, k5, k6, k20, k21, k22, k23, k65, k66⟩ := hD1.2.2.1
    have z5 := tw_ti_5
    have hI14 := hD.1.2.2.1
    have h65 := hD.1.2.2.2.2.2 m.toInt.toNat (by omega)
    have ei : (5 * m + M1 99 m.toInt.toNat).toInt.toNat = 5 * m.toInt.toNat + (M1 99 m.toInt.toNat).toInt.toNat := by
      rw [← k65]
      have a1 : ((5 : Int32) * m).toInt = 5 * m.toInt := by rw [tw_mulI (by rw [z5]; omega), z5]
      have a2 : ((5 : Int32) * m + M 65 m.toInt.toNat).toInt = 5 * m.toInt + (M 65 m.toInt.toNat).toInt := by rw [tw_addI (by omega), a1]
      omega
    refine sp_MD_part (RI_of hD1) (fun _ => ⟨?_, ?_⟩) (fun hno => absurd (by rw [← e14, ← e5, ← e8, ← k65]; exact hok) hno)
    · rw [← k65]
    · refine fin_IV (Ma := (tw_set (tw_set M (25 + m.toInt.toNat) (M 65 m.toInt.toNat).toInt.toNat t) 65 m.toInt.toNat (M 65 m.toInt.toNat + 1))) (DRp_part hD1 (by omega) rfl ei (by omega) hok.2.1) (fun q hq => ?_)
      rw [hM1]
      repeat rw [tw_set_q _ _ (by omega)]
  · obtain ⟨e5, e8, e14, e16, e17⟩ := hD.2.1
    obtain ⟨k2, k3, k4, k5, k6, k20, k21, k22, k23, k65, k66⟩ := hD.2.2.1
    refine sp_MD_part (RI_of hD) (fun hok => absurd (by rw [e14, e5, e8, k65]; exact hok) hno) (fun _ => ⟨rfl, h⟩)
theorem op_start {d : Nat} {M : tw_M} {f : Int32} (h : IV M) : tw_C (d + 8) j_TW_start [.inr 0, .inl f] M (fun r1 M1 => ∃ v, r1 = some v ∧ tw_C (d + 8) j_MD_start [.inr 88, .inl f] M1 (fun r2 M2 => r2 = some v ∧ IV M2)) := by
  obtain ⟨hD, hS, hC⟩ := id h
  refine sp_TW_start hD.1 (fun hok => ⟨_, rfl, ?_⟩) (fun hno => ⟨_, rfl, ?_⟩)
  · have er : ∀ q, 88 ≤ q → disc (tw_set M 1 17 f) q = M q := fun q hq => by
      rw [disc_ref _ hq]
      repeat rw [tw_set_q _ _ (by have := hD.1.2.1; have := hD.1.2.2.1; omega)]
    generalize hM1 : disc (tw_set M 1 17 f) = M1 at er ⊢
    have hD1 := DR_ref hD er
    obtain ⟨e5, e8, e14, e16, e17⟩ := hD1.2.1
    obtain ⟨k2, k3, k4, k5, k6, k20, k21, k22, k23, k65, k66⟩ := hD1.2.2.1
    refine sp_MD_start (RI_of hD1) (fun _ => ⟨?_, ?_⟩) (fun hno => absurd (hok) hno)
    · rfl
    · refine fin_IV (Ma := (tw_set M 1 17 f)) (DRp_start hD1) (fun q hq => ?_)
      rw [hM1]
      repeat rw [tw_set_q _ _ (by omega)]
  · obtain ⟨e5, e8, e14, e16, e17⟩ := hD.2.1
    obtain ⟨k2, k3, k4, k5, k6, k20, k21, k22, k23, k65, k66⟩ := hD.2.2.1
    refine sp_MD_start (RI_of hD) (fun hok => absurd (hok) hno) (fun _ => ⟨rfl, h⟩)
theorem op_aim {d : Nat} {M : tw_M} {t : Int32} (h : IV M) : tw_C (d + 8) j_TW_aim [.inr 0, .inl t] M (fun r1 M1 => ∃ v, r1 = some v ∧ tw_C (d + 8) j_MD_aim [.inr 88, .inl t] M1 (fun r2 M2 => r2 = some v ∧ IV M2)) := by
  obtain ⟨hD, hS, hC⟩ := id h
  refine sp_TW_aim hD.1 (fun hok => ⟨_, rfl, ?_⟩) (fun hno => ⟨_, rfl, ?_⟩)
  · have er : ∀ q, 88 ≤ q → disc (tw_set (tw_set M 66 (M 1 16).toInt.toNat t) 1 16 (M 1 16 + 1)) q = M q := fun q hq => by
      rw [disc_ref _ hq]
      repeat rw [tw_set_q _ _ (by have := hD.1.2.1; have := hD.1.2.2.1; omega)]
    generalize hM1 : disc (tw_set (tw_set M 66 (M 1 16).toInt.toNat t) 1 16 (M 1 16 + 1)) = M1 at er ⊢
    have hD1 := DR_ref hD er
    obtain ⟨e5, e8, e14, e16, e17⟩ := hD1.2.1
    obtain ⟨k2, k3, k4, k5, k6, k20, k21, k22, k23, k65, k66⟩ := hD1.2.2.1
    refine sp_MD_aim (RI_of hD1) (fun _ => ⟨?_, ?_⟩) (fun hno => absurd (by rw [← e5, ← e8, ← e16]; exact hok) hno)
    · rw [← e16]
    · refine fin_IV (Ma := (tw_set (tw_set M 66 (M 1 16).toInt.toNat t) 1 16 (M 1 16 + 1))) (DRp_aim hD1 rfl rfl (by omega) hok.1) (fun q hq => ?_)
      rw [hM1]
      repeat rw [tw_set_q _ _ (by omega)]
  · obtain ⟨e5, e8, e14, e16, e17⟩ := hD.2.1
    obtain ⟨k2, k3, k4, k5, k6, k20, k21, k22, k23, k65, k66⟩ := hD.2.2.1
    refine sp_MD_aim (RI_of hD) (fun hok => absurd (by rw [e5, e8, e16]; exact hok) hno) (fun _ => ⟨rfl, h⟩)
theorem op_forget {d : Nat} {M : tw_M} (h : IV M) : tw_C (d + 8) j_TW_forget [.inr 0] M (fun r1 M1 => ∃ v, r1 = some v ∧ tw_C (d + 8) j_MD_forget [.inr 88] M1 (fun r2 M2 => r2 = some v ∧ IV M2)) := by
  obtain ⟨hD, hS, hC⟩ := id h
  refine sp_TW_forget hD.1 ⟨_, rfl, ?_⟩
  · have er : ∀ q, 88 ≤ q → disc (tw_set M 1 16 0) q = M q := fun q hq => by
      rw [disc_ref _ hq]
      repeat rw [tw_set_q _ _ (by have := hD.1.2.1; have := hD.1.2.2.1; omega)]
    generalize hM1 : disc (tw_set M 1 16 0) = M1 at er ⊢
    have hD1 := DR_ref hD er
    obtain ⟨e5, e8, e14, e16, e17⟩ := hD1.2.1
    obtain ⟨k2, k3, k4, k5, k6, k20, k21, k22, k23, k65, k66⟩ := hD1.2.2.1
    refine sp_MD_forget ⟨?_, ?_⟩
    · rw [← e16]
    · refine fin_IV (Ma := (tw_set M 1 16 0)) (DRp_forget hD1) (fun q hq => ?_)
      rw [hM1]
      repeat rw [tw_set_q _ _ (by omega)]
