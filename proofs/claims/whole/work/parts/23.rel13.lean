theorem see_St {M N : tw_M} (h : StR M N) : StR (seeC M) N := by
  rcases h with ⟨a, g, f⟩ | ⟨a, g, f1, f2⟩ | g
  · exact see_R g a
  · have e : seeC M = M := by unfold seeC; exact if_neg (fun q => by rw [a] at q; exact absurd q.1 (by decide))
    rw [e]
    exact Or.inr (Or.inl ⟨a, g, f1, f2⟩)
  · rw [see_End g]
    exact Or.inr (Or.inr g)
theorem DR_see {M N : tw_M} (h : DR M N) : DR (seeC M) N := DR_congr h ⟨fun q hq => seeC_out M (by omega), fun _ _ _ => rfl, fun _ _ => rfl⟩
theorem rej_R {M N : tw_M} (hD : DR M N) (g : GoR M N) (a : M 70 12 = 0) (h9 : M 70 9 = 0) : DR (seeC (rejC M)) (failR N (N 88 28).toInt.toNat) ∧ StR (seeC (rejC M)) (failR N (N 88 28).toInt.toNat) ∧ (rejC M 70 12 = 2 → rejC M 70 9 = 0 → RowI 71 (rejC M)) := by
  have e8 : M 70 8 = N 88 28 := g.1.2.2.2.2.2.1
  obtain ⟨⟨e9, e11, e10, e4, e5, -, e21, e22⟩, n, o, a1, a2, a3, b, a5, a6⟩ := id g
  have hon : o = n := by
    rcases a3 with ⟨_, q⟩ | ⟨q, _⟩
    · exact q
    · rw [h9] at q; exact absurd q (by decide)
  subst hon
  have en : (M 70 8).toInt.toNat = o := by omega
  have er : rejC M = failC (tw_set M 70 12 2) o := by unfold rejC; rw [if_pos a, en]
  rw [er, ← e8, en]
  have hD1 : DR (tw_set M 70 12 2) N := DR_congr hD ⟨fun q hq => tw_set_q _ _ (by omega), fun _ _ _ => rfl, fun _ _ => rfl⟩
  have hd2 : DR (failC (tw_set M 70 12 2) o) (failR N o) := DR_congr hD1 ⟨fun q hq => failC_out _ (by omega) _, fun q h1 h2 => (keepR_fail N o).1 q (by omega), fun k hk => (keepR_fail N o).2 k (by omega)⟩
  refine ⟨DR_see hd2, ?_⟩
  rcases fail_R (M := tw_set M 70 12 2) (N := N) (b := (M 71 5).toInt) hD1 ⟨e11, e21, e22⟩ o a2 b a5 with q | ⟨q1, q2, q3⟩
  · exact ⟨by rw [see_End q]; exact Or.inr (Or.inr q), fun z => by rw [q.1] at z; exact absurd z (by decide)⟩
  · exact ⟨see_R q1 q3, fun _ _ => GoR_RowI q1⟩
theorem fin_se {M M1 M2 : tw_M} (h : IV M) (hc : ∀ q, q < 67 ∨ 81 < q → M1 q = M q) (kr : ∀ q, q < 88 → M2 q = M1 q) (k8 : ∀ k, 36 ≤ k → k ≤ 40 → M2 88 k = M1 88 k) (far : farR M1 M2) (hD2 : DR M1 M2) (hS2 : SV M1 M2) : IV M2 := by
  obtain ⟨hD, hS, hC⟩ := h
  refine ⟨DR_congr hD2 ⟨fun q hq => kr q (by omega), fun _ _ _ => rfl, fun _ _ => rfl⟩, SV_congr hS2 (fun q hq => kr q (by omega)) (fun _ _ _ => rfl) (fun _ _ _ _ _ => rfl) (fun _ _ _ => rfl), CV_congr hC (fun q hq => (kr q (by omega)).trans (hc q (by omega))) (fun k h1 h2 => (k8 k h1 h2).trans (by rw [hc 88 (by omega)])) (fun q c h1 h2 => (far q c (by omega) (by omega) h2).trans (by rw [hc q (by omega)]))⟩
theorem begC_out (M : tw_M) {q : Nat} (h : q < 70 ∨ 81 < q) : begC M q = M q := by
  unfold begC
  split
  · unfold beginC
    rw [putAll_out _ (by omega), tw_set_q _ _ (by omega), tw_set_q _ _ (by omega), tw_set_q _ _ (by omega), tw_set_q _ _ (by omega)]
  · rfl
theorem begin_R {M N : tw_M} (hD : DR M N) (h12 : M 70 12 = -1) (h8 : M 70 8 = 0) (h9 : M 70 9 = 0) (h11 : M 70 11 = 0) : GoR (begC M) (begR N) ∧ begC M 70 12 = 2 := by
  have hI := hD.1
  have hI16 := hI.2.2.2.1
  obtain ⟨e5, e8, e14, e16, e17⟩ := hD.2.1
  have k66 := hD.2.2.1.2.2.2.2.2.2.2.2.2.2
  have z0 : (0 : Int32).toInt = 0 := by decide
  have zm : (-1 : Int32).toInt = -1 := by decide
  have hlen := dl_len (M 66) (M 1 16).toInt.toNat
  have hok : ∀ x ∈ dl (M 66) (M 1 16).toInt.toNat, tOK M x := by
    intro x hx
    obtain ⟨k, hk1, rfl⟩ := dl_mem hx
    exact hD.2.2.2.2.2.2.2.2.2 k (by omega)
  have s1 : begC M = putAll 71 (-1) (tw_set (tw_set (tw_set (tw_set M 70 12 2) 70 10 (M 1 17)) 71 4 (-1)) 71 5 0) (dl (M 66) (M 1 16).toInt.toNat) := if_pos h12
  have s2 : begR N = putRs 26 (-1) (tw_set (tw_set (tw_set (tw_set (tw_set (tw_set (tw_set (tw_set N 88 21 1) 88 22 0) 88 23 0) 88 24 0) 88 25 (N 88 15)) 88 28 0) 88 27 0) 88 26 (-1)) (dl (M 66) (M 1 16).toInt.toNat) := by unfold begR; rw [← k66, ← e16]
  rw [s1, s2]
  generalize dl (M 66) (M 1 16).toInt.toNat = L at *
  have hrow : RowR (tw_set (tw_set (tw_set (tw_set M 70 12 2) 70 10 (M 1 17)) 71 4 (-1)) 71 5 0) (tw_set (tw_set (tw_set (tw_set (tw_set (tw_set (tw_set (tw_set N 88 21 1) 88 22 0) 88 23 0) 88 24 0) 88 25 (N 88 15)) 88 28 0) 88 27 0) 88 26 (-1)) := by
    refine ⟨rfl, rfl, fun c hc => ?_, ?_, ?_⟩
    · have hc2 : (c : Int) < (0 : Int32).toInt := hc
      rw [z0] at hc2
      omega
    · show -1 ≤ (-1 : Int32).toInt; decide
    · show (-1 : Int32).toInt < (0 : Int32).toInt; decide
  have h5 : ((tw_set (tw_set (tw_set (tw_set M 70 12 2) 70 10 (M 1 17)) 71 4 (-1)) 71 5 0) 71 5).toInt = 0 := by show (0 : Int32).toInt = 0; decide
  obtain ⟨p1, p2⟩ := puts_R (p := -1) L _ _ hrow hok (by rw [h5]; omega)
  rw [h5] at p2
  have g70 : ∀ X : tw_M, putAll 71 (-1) X L 70 = X 70 := fun X => putAll_out _ (by omega) _ _
  have g8 : ∀ (X : tw_M) (j : Nat), j ≠ 26 ∧ j ≠ 27 → putRs 26 (-1) X L 88 j = X 88 j := fun X j hj => putRs_88 _ (by omega) _ _
  obtain ⟨w1, w2, w3, w4, w5⟩ := p1
  refine ⟨⟨⟨?_, ?_, ?_, w1, w2, ?_, ?_, ?_⟩, 0, 0, ?_, by omega, Or.inl ⟨?_, rfl⟩, ⟨fun i hi => absurd hi (by omega), fun i k _ hk => absurd hk (by omega), fun i hi => absurd hi (by omega), w3⟩, fun i hi => absurd hi (by omega), w4, w5, ?_⟩, ?_⟩
  · rw [g70, g8 _ _ (by omega)]; exact h9
  · rw [g70, g8 _ _ (by omega)]; exact h11
  · rw [g70, g8 _ _ (by omega)]; exact e17
  · rw [g70, g8 _ _ (by omega)]; exact h8
  · rw [g8 _ _ (by omega)]; rfl
  · rw [g8 _ _ (by omega)]; rfl
  · rw [g70]; show (M 70 8).toInt = _; rw [h8, z0]; rfl
  · rw [g70]; exact h9
  · rw [p2]; omega
  · rw [g70]; rfl
theorem farR_begin {N : tw_M} (ha : 0 ≤ (N 88 16).toInt ∧ (N 88 16).toInt ≤ 6) : farR N (begR N) := by
  have h0 : farR N (tw_set (tw_set (tw_set (tw_set (tw_set (tw_set (tw_set (tw_set N 88 21 1) 88 22 0) 88 23 0) 88 24 0) 88 25 (N 88 15)) 88 28 0) 88 27 0) 88 26 (-1)) := farR_set (farR_set (farR_set (farR_set (farR_set (farR_set (farR_set (farR_set (farR_rf N) (by omega)) (by omega)) (by omega)) (by omega)) (by omega)) (by omega)) (by omega)) (by omega)
  unfold begR
  refine h0.tr ?_
  intro q c h1 h2 h3
  refine putRs_lo _ _ ?_ ?_ q c h1 h3
  · show 0 ≤ (0 : Int32).toInt; decide
  · rw [dl_len]; show (0 : Int32).toInt + _ ≤ 250; have z0 : (0 : Int32).toInt = 0 := by decide
    omega
theorem keepR_begin (N : tw_M) : keepR N (begR N) := by
  have h0 : keepR N (tw_set (tw_set (tw_set (tw_set (tw_set (tw_set (tw_set (tw_set N 88 21 1) 88 22 0) 88 23 0) 88 24 0) 88 25 (N 88 15)) 88 28 0) 88 27 0) 88 26 (-1)) := keepR_set (keepR_set (keepR_set (keepR_set (keepR_set (keepR_set (keepR_set (keepR_set (keepR_rf N) (by omega)) (by omega)) (by omega)) (by omega)) (by omega)) (by omega)) (by omega)) (by omega)
  unfold begR
  exact h0.tr (keepR_puts _ _ _)
