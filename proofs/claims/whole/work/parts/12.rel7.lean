theorem hdR_le {x y : Int32} {a b : Int} (h : hdR x y a) (hab : a ≤ b) : hdR x y b := by
  rcases h with q | ⟨q1, q2, q3⟩
  · exact Or.inl q
  · exact Or.inr ⟨q1, by omega, q3⟩
theorem told_R {M N : tw_M} {t m : Int32} (hD : DR M N) (h : CkR M N) : faC M t m = foR N t m ∧ (faC M t m = 0 → CkR (tkC M t m) (tkR N t m)) := by
  obtain ⟨h1, h2, h3, h4, k, b, h5, h6, h7, hK⟩ := h
  have hl := KRow_len hK
  obtain ⟨r1, r2, r3, r4⟩ := id hK
  have zm : (-1 : Int32).toInt = -1 := by decide
  have z0 : (0 : Int32).toInt = 0 := by decide
  have z1 : (1 : Int32).toInt = 1 := by decide
  have z48 : (48 : Int32).toInt = 48 := by decide
  have hI := hD.1
  have hI5 := hI.1
  have hI8 := hI.2.1
  have hI14 := hI.2.2.1
  obtain ⟨e5, e8, e14, e16, e17⟩ := hD.2.1
  obtain ⟨k2, k3, k4, k5, k6, k20, k21, k22, k23, k65, k66⟩ := hD.2.2.1
  rcases r3 with ⟨q1, q2⟩ | ⟨q1, q2, q3⟩
  · have hz : lenV 83 M = 0 := by
      rcases hl with q | q
      · exact q.2
      · exact absurd q1 q.1
    have f1 : faC M t m = 1 := by unfold faC; exact if_pos hz
    have f2 : foR N t m = 1 := by unfold foR; exact if_pos q2
    rw [f1, f2]
    exact ⟨rfl, fun q => absurd q (by decide)⟩
  · obtain ⟨hne, hfc, hle, hl1, hl2⟩ : ¬ M 83 4 = -1 ∧ (0 ≤ (M 83 4).toInt ∧ (M 83 4).toInt < (b : Int)) ∧ lenV 83 M = M 87 (M 83 4).toInt.toNat ∧ 1 ≤ (lenV 83 M).toInt ∧ (lenV 83 M).toInt ≤ (b : Int) := by
      rcases hl with q | q
      · rw [q.1] at q1; omega
      · exact q
    have hz : ¬ lenV 83 M = 0 := fun z => by rw [z] at hl1; omega
    have hne2 : ¬ N 88 38 = -1 := fun z => by rw [z] at q3; omega
    have ei : (N 88 38).toInt.toNat = 250 + (M 83 4).toInt.toNat := by omega
    obtain ⟨c1, c2, c3, c4, c5⟩ := r4 (M 83 4).toInt.toNat (by omega)
    have et : tskV 83 M = N 102 (N 88 38).toInt.toNat := by
      have e : tskV 83 M = M 84 (M 83 4).toInt.toNat := by unfold tskV; exact if_neg hne
      rw [e, c1, ei]
    have et2 : tskV 83 M = M 84 (M 83 4).toInt.toNat := by unfold tskV; exact if_neg hne
    by_cases ht : tskV 83 M = t
    · have hok : tOK M t := by rw [← ht, et2]; exact c3
      by_cases h48 : 48 ≤ (M 82 3).toInt
      · have f1 : faC M t m = 3 := by unfold faC; rw [if_neg hz, if_pos ht, if_pos h48]
        have f2 : foR N t m = 3 := by unfold foR; rw [if_neg hne2, if_pos (et ▸ ht), if_pos (by rw [← h4]; exact Int32.toInt_inj.mp (by omega))]
        rw [f1, f2]
        exact ⟨rfl, fun q => absurd q (by decide)⟩
      · have h48b : ¬ N 88 40 = 48 := by rw [← h4]; intro z; rw [z] at h48; omega
        have htk : (M 82 3 + 1).toInt = ((k + 1 : Nat) : Int) := by rw [tw_addI (by omega), z1, h5]; rfl
        by_cases hp : t.toInt < 16
        · have hp2 : 0 ≤ t.toInt ∧ t.toInt < (M 1 5).toInt := by
            rcases hok with q | q
            · exact q
            · omega
          by_cases hd : pH (M 2 t.toInt.toNat) (M 3 t.toInt.toNat) (M 82 2)
          · have f1 : faC M t m = 0 := by unfold faC; rw [if_neg hz, if_pos ht, if_neg h48, if_pos hp2, if_pos ⟨hp2, hd⟩]
            have f2 : foR N t m = 0 := by unfold foR; rw [if_neg hne2, if_pos (et ▸ ht), if_neg h48b, if_pos hp, if_pos (by rw [← k2, ← k3, ← h3]; exact hd)]
            refine ⟨by rw [f1, f2], fun _ => ?_⟩
            have s1 : tkC M t m = tw_set (tw_set (tw_set M 83 4 (M 86 (M 83 4).toInt.toNat)) 82 2 (fAfter M t (M 82 2))) 82 3 (M 82 3 + 1) := by unfold tkC; exact if_pos hp2
            have s2 : tkR N t m = tw_set (tw_set (tw_set N 88 37 (fAfter M t (M 82 2))) 88 38 (N 104 (N 88 38).toInt.toNat)) 88 40 (N 88 40 + 1) := by
              unfold tkR fAfter
              rw [if_pos hp, if_pos hp2, k5, k4, h3]
            rw [s1, s2]
            refine ⟨h1, h2, rfl, ?_, k + 1, b, htk, by omega, by omega, r1, r2, ?_, r4⟩
            · show M 82 3 + 1 = N 88 40 + 1
              rw [h4]
            · show hdR (M 86 (M 83 4).toInt.toNat) (N 104 (N 88 38).toInt.toNat) (b : Int)
              rw [ei]
              exact hdR_le c2 (by omega)
          · have f1 : faC M t m = 4 := by unfold faC; rw [if_neg hz, if_pos ht, if_neg h48, if_pos hp2, if_neg (fun q => hd q.2)]
            have f2 : foR N t m = 4 := by unfold foR; rw [if_neg hne2, if_pos (et ▸ ht), if_neg h48b, if_pos hp, if_neg (by rw [← k2, ← k3, ← h3]; exact hd)]
            rw [f1, f2]
            exact ⟨rfl, fun q => absurd q (by decide)⟩
        · have hp2 : ¬ (0 ≤ t.toInt ∧ t.toInt < (M 1 5).toInt) := by omega
          by_cases hm : (0 ≤ m.toInt ∧ m.toInt < (M 1 14).toInt) ∧ M 21 m.toInt.toNat = t
          · have hm2 : (0 ≤ m.toInt ∧ m.toInt < (N 88 9).toInt) ∧ N 96 m.toInt.toNat = t := by rw [← e14, ← k21]; exact hm
            by_cases hd : pH (M 22 m.toInt.toNat) (M 23 m.toInt.toNat) (M 82 2)
            · have f1 : faC M t m = 0 := by unfold faC; rw [if_neg hz, if_pos ht, if_neg h48, if_neg hp2, if_pos hm, if_pos ⟨hm.1, hd⟩]
              have f2 : foR N t m = 0 := by unfold foR; rw [if_neg hne2, if_pos (et ▸ ht), if_neg h48b, if_neg hp, if_pos hm2, if_pos (by rw [← k22, ← k23, ← h3]; exact hd)]
              refine ⟨by rw [f1, f2], fun _ => ?_⟩
              have hpc := hI.2.2.2.2.2 m.toInt.toNat (by omega)
              have enp : (nPart M m).toInt.toNat = (M 65 m.toInt.toNat).toInt.toNat := by unfold nPart; rw [if_pos hm.1]
              have el : dl (fun k => N 100 (5 * m.toInt.toNat + k)) (N 99 m.toInt.toNat).toInt.toNat = dl (M (25 + m.toInt.toNat)) (M 65 m.toInt.toNat).toInt.toNat := by
                rw [← k65]
                exact dl_congr (fun k hk => (hD.2.2.2.2.1 m.toInt.toNat k (by omega) (by omega)).symm)
              have hlen := dl_len (M (25 + m.toInt.toNat)) (M 65 m.toInt.toNat).toInt.toNat
              have hok2 : ∀ x ∈ dl (M (25 + m.toInt.toNat)) (M 65 m.toInt.toNat).toInt.toNat, tOK M x := by
                intro x hx
                obtain ⟨k, hk1, rfl⟩ := dl_mem hx
                exact hD.2.2.2.2.2.2.2.2.1 m.toInt.toNat k (by omega) (by omega)
              have s1 : tkC M t m = tw_set (putAll 83 (-1) (tw_set M 83 4 (M 86 (M 83 4).toInt.toNat)) (dl (M (25 + m.toInt.toNat)) (M 65 m.toInt.toNat).toInt.toNat)) 82 3 (M 82 3 + 1) := by unfold tkC; rw [if_neg hp2, enp]
              have s2 : tkR N t m = tw_set (putRs 38 (N 88 40) (tw_set N 88 38 (N 104 (N 88 38).toInt.toNat)) (dl (M (25 + m.toInt.toNat)) (M 65 m.toInt.toNat).toInt.toNat)) 88 40 (N 88 40 + 1) := by unfold tkR; rw [if_neg hp, el]
              rw [s1, s2]
              generalize dl (M (25 + m.toInt.toNat)) (M 65 m.toInt.toNat).toInt.toNat = L at *
              have hK1 : KRow (tw_set M 83 4 (M 86 (M 83 4).toInt.toNat)) (tw_set N 88 38 (N 104 (N 88 38).toInt.toNat)) b := by
                refine ⟨r1, r2, ?_, r4⟩
                show hdR (M 86 (M 83 4).toInt.toNat) (N 104 (N 88 38).toInt.toNat) (b : Int)
                rw [ei]
                exact hdR_le c2 (by omega)
              obtain ⟨p1, -⟩ := kputs_R (p := -1) (p' := N 88 40) L _ _ b hK1 hok2 (by omega)
              have g82 : putAll 83 (-1) (tw_set M 83 4 (M 86 (M 83 4).toInt.toNat)) L 82 = M 82 := by rw [putAll_out _ (by omega)]; exact tw_set_q _ _ (by omega)
              have g8 : ∀ j, j ≠ 38 ∧ j ≠ 39 → putRs 38 (N 88 40) (tw_set N 88 38 (N 104 (N 88 38).toInt.toNat)) L 88 j = N 88 j := fun j hj => by rw [putRs_88 _ (by omega)]; exact tw_set_k _ _ (by omega)
              refine ⟨?_, ?_, ?_, ?_, k + 1, b + L.length, htk, by omega, by omega, p1⟩
              · show putAll 83 (-1) (tw_set M 83 4 (M 86 (M 83 4).toInt.toNat)) L 82 4 = 1
                rw [g82]; exact h1
              · show putRs 38 (N 88 40) (tw_set N 88 38 (N 104 (N 88 38).toInt.toNat)) L 88 36 = 1
                rw [g8 36 (by omega)]; exact h2
              · show putAll 83 (-1) (tw_set M 83 4 (M 86 (M 83 4).toInt.toNat)) L 82 2 = putRs 38 (N 88 40) (tw_set N 88 38 (N 104 (N 88 38).toInt.toNat)) L 88 37
                rw [g82, g8 37 (by omega)]; exact h3
              · show M 82 3 + 1 = N 88 40 + 1
                rw [h4]
            · have f1 : faC M t m = 6 := by unfold faC; rw [if_neg hz, if_pos ht, if_neg h48, if_neg hp2, if_pos hm, if_neg (fun q => hd q.2)]
              have f2 : foR N t m = 6 := by unfold foR; rw [if_neg hne2, if_pos (et ▸ ht), if_neg h48b, if_neg hp, if_pos hm2, if_neg (by rw [← k22, ← k23, ← h3]; exact hd)]
              rw [f1, f2]
              exact ⟨rfl, fun q => absurd q (by decide)⟩
          · have hm2 : ¬ ((0 ≤ m.toInt ∧ m.toInt < (N 88 9).toInt) ∧ N 96 m.toInt.toNat = t) := by rw [← e14, ← k21]; exact hm
            have f1 : faC M t m = 5 := by unfold faC; rw [if_neg hz, if_pos ht, if_neg h48, if_neg hp2, if_neg hm]
            have f2 : foR N t m = 5 := by unfold foR; rw [if_neg hne2, if_pos (et ▸ ht), if_neg h48b, if_neg hp, if_neg hm2]
            rw [f1, f2]
            exact ⟨rfl, fun q => absurd q (by decide)⟩
    · have f1 : faC M t m = 2 := by unfold faC; rw [if_neg hz, if_neg ht]
      have f2 : foR N t m = 2 := by unfold foR; rw [if_neg hne2, if_neg (fun z => ht (et.trans z))]
      rw [f1, f2]
      exact ⟨rfl, fun q => absurd q (by decide)⟩
def ckC (M : tw_M) : tw_M := beginC 83 (tw_set (tw_set (tw_set M 82 4 1) 82 3 0) 82 2 (M 1 17))
def ckR (N : tw_M) : tw_M := putRs 38 (-1) (tw_set (tw_set (tw_set (tw_set (tw_set N 88 36 1) 88 37 (N 88 15)) 88 40 0) 88 39 250) 88 38 (-1)) (dl (N 101) (N 88 16).toInt.toNat)
theorem check_R {M N : tw_M} (hD : DR M N) : CkR (ckC M) (ckR N) ∧ lenV 83 (ckC M) = N 88 16 := by
  have hI := hD.1
  have hI16 := hI.2.2.2.1
  obtain ⟨e5, e8, e14, e16, e17⟩ := hD.2.1
  have k66 := hD.2.2.1.2.2.2.2.2.2.2.2.2.2
  have z0 : (0 : Int32).toInt = 0 := by decide
  have hlen := dl_len (M 66) (M 1 16).toInt.toNat
  have hok : ∀ x ∈ dl (M 66) (M 1 16).toInt.toNat, tOK M x := by
    intro x hx
    obtain ⟨k, hk1, rfl⟩ := dl_mem hx
    exact hD.2.2.2.2.2.2.2.2.2 k (by omega)
  have s2 : ckR N = putRs 38 (-1) (tw_set (tw_set (tw_set (tw_set (tw_set N 88 36 1) 88 37 (N 88 15)) 88 40 0) 88 39 250) 88 38 (-1)) (dl (M 66) (M 1 16).toInt.toNat) := by unfold ckR; rw [← k66, ← e16]
  have s1 : ckC M = putAll 83 (-1) (tw_set (tw_set (tw_set (tw_set (tw_set M 82 4 1) 82 3 0) 82 2 (M 1 17)) 83 4 (-1)) 83 5 0) (dl (M 66) (M 1 16).toInt.toNat) := rfl
  rw [s1, s2]
  generalize dl (M 66) (M 1 16).toInt.toNat = L at *
  have hK : KRow (tw_set (tw_set (tw_set (tw_set (tw_set M 82 4 1) 82 3 0) 82 2 (M 1 17)) 83 4 (-1)) 83 5 0) (tw_set (tw_set (tw_set (tw_set (tw_set N 88 36 1) 88 37 (N 88 15)) 88 40 0) 88 39 250) 88 38 (-1)) 0 := by
    refine ⟨?_, ?_, Or.inl ⟨rfl, rfl⟩, fun c hc => absurd hc (by omega)⟩
    · show (0 : Int32).toInt = _; rw [z0]; rfl
    · show (250 : Int32).toInt = _; decide
  obtain ⟨p1, p2⟩ := kputs_R (p := -1) (p' := -1) L _ _ 0 hK hok (by omega)
  have g82 : ∀ X : tw_M, putAll 83 (-1) X L 82 = X 82 := fun X => putAll_out _ (by omega) _ _
  have g8 : ∀ (X : tw_M) (j : Nat), j ≠ 38 ∧ j ≠ 39 → putRs 38 (-1) X L 88 j = X 88 j := fun X j hj => putRs_88 _ (by omega) _ _
  refine ⟨⟨?_, ?_, ?_, ?_, 0, 0 + L.length, ?_, by omega, by omega, p1⟩, ?_⟩
  · rw [g82]; rfl
  · rw [g8 _ _ (by omega)]; rfl
  · rw [g82, g8 _ _ (by omega)]; exact e17
  · rw [g82, g8 _ _ (by omega)]; rfl
  · rw [g82]; show (0 : Int32).toInt = _; rw [z0]; rfl
  · apply Int32.toInt_inj.mp
    rw [p2, ← e16, hlen]
    have e : (lenV 83 (tw_set (tw_set (tw_set (tw_set (tw_set M 82 4 1) 82 3 0) 82 2 (M 1 17)) 83 4 (-1)) 83 5 0)).toInt = 0 := by
      have e2 : lenV 83 (tw_set (tw_set (tw_set (tw_set (tw_set M 82 4 1) 82 3 0) 82 2 (M 1 17)) 83 4 (-1)) 83 5 0) = 0 := by unfold lenV; exact if_pos rfl
      rw [e2, z0]
    rw [e]
    omega
