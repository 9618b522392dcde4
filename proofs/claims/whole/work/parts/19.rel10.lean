theorem GoR_congr {M M' N N' : tw_M} (h : GoR M N) (hM : ∀ q, q = 1 ∨ q = 20 ∨ (70 ≤ q ∧ q ≤ 81) → M' q = M q) (h8 : ∀ k, 21 ≤ k → k ≤ 28 → N' 88 k = N 88 k) (hc : ∀ q c : Nat, 102 ≤ q → q ≤ 104 → c < 250 → N' q c = N q c) (hn : ∀ q, 105 ≤ q → q ≤ 111 → N' q = N q) : GoR M' N' := by
  have hRI := GoR_RowI h
  obtain ⟨⟨e9, e11, e10, e4, e5, e8, e21, e22⟩, n, o, a1, a2, a3, ⟨b1, b2, b3, b4⟩, a5, a6⟩ := h
  have m1 := hM 1 (by omega)
  have m70 := hM 70 (by omega)
  have m71 := hM 71 (by omega)
  have m72 := hM 72 (by omega)
  have m73 := hM 73 (by omega)
  have m74 := hM 74 (by omega)
  have m75 := hM 75 (by omega)
  have m76 := hM 76 (by omega)
  have m80 := hM 80 (by omega)
  refine ⟨?_, n, o, ?_, a2, ?_, ⟨?_, ?_, ?_, ?_⟩, ?_, ?_⟩
  · rw [m70, m71, h8 23 (by omega) (by omega), h8 24 (by omega) (by omega), h8 25 (by omega) (by omega), h8 26 (by omega) (by omega), h8 27 (by omega) (by omega), h8 28 (by omega) (by omega), h8 21 (by omega) (by omega), h8 22 (by omega) (by omega)]
    exact ⟨e9, e11, e10, e4, e5, e8, e21, e22⟩
  · rw [m70]; exact a1
  · rw [m70, m76, hn 108 (by omega) (by omega)]; exact a3
  · intro i hi
    exact NodeR_congr (b1 i hi) (fun q hq => hM q (by omega)) (fun q hq => hn q (by omega) (by omega))
  · rw [m80]; exact b2
  · rw [m80, m71]; exact b3
  · intro c hcc
    rw [m71] at hcc
    have hlt : c < 250 := by have := hRI.2.2; omega
    unfold CellR tOK
    rw [m1, m72, m73, m74, m75, hc 102 c (by omega) (by omega) hlt, hc 103 c (by omega) (by omega) hlt, hc 104 c (by omega) (by omega) hlt]
    exact b4 c hcc
  · intro i hi
    unfold KeptR
    rw [m76, hn 108 (by omega) (by omega)]
    exact a5 i hi
  · rw [m71]; exact a6
theorem SV_congr {M M' N N' : tw_M} (h : SV M N) (hM : ∀ q, q = 1 ∨ q = 20 ∨ (70 ≤ q ∧ q ≤ 81) → M' q = M q) (h8 : ∀ k, 21 ≤ k → k ≤ 28 → N' 88 k = N 88 k) (hc : ∀ q c : Nat, 102 ≤ q → q ≤ 104 → c < 250 → N' q c = N q c) (hn : ∀ q, 105 ≤ q → q ≤ 111 → N' q = N q) : SV M' N' := by
  have m70 := hM 70 (by omega)
  have m71 := hM 71 (by omega)
  rcases h with h | h
  · refine Or.inl ?_
    rw [m70, h8 21 (by omega) (by omega)]
    exact h
  · refine Or.inr ?_
    rcases h with ⟨a, g, f⟩ | ⟨a, g, f⟩ | g
    · exact Or.inl ⟨by rw [m70]; exact a, GoR_congr g hM h8 hc hn, by rw [m70, m71]; exact f⟩
    · exact Or.inr (Or.inl ⟨by rw [m70]; exact a, GoR_congr g hM h8 hc hn, by rw [m70, m71]; exact f⟩)
    · refine Or.inr (Or.inr ?_)
      unfold EndR
      rw [m70, h8 24 (by omega) (by omega), h8 21 (by omega) (by omega), h8 22 (by omega) (by omega), h8 28 (by omega) (by omega)]
      exact g
theorem CkR_congr {M M' N N' : tw_M} (h : CkR M N) (hM : ∀ q, q = 1 ∨ (82 ≤ q ∧ q ≤ 87) → M' q = M q) (h8 : ∀ k, 36 ≤ k → k ≤ 40 → N' 88 k = N 88 k) (hc : ∀ q c : Nat, q = 102 ∨ q = 104 → 250 ≤ c → N' q c = N q c) : CkR M' N' := by
  obtain ⟨h1, h2, h3, h4, k, b, h5, h6, h7, r1, r2, r3, r4⟩ := h
  have m1 := hM 1 (by omega)
  have m82 := hM 82 (by omega)
  have m83 := hM 83 (by omega)
  have m84 := hM 84 (by omega)
  have m86 := hM 86 (by omega)
  have m87 := hM 87 (by omega)
  unfold CkR KRow
  rw [m82, m83, h8 36 (by omega) (by omega), h8 37 (by omega) (by omega), h8 38 (by omega) (by omega), h8 39 (by omega) (by omega), h8 40 (by omega) (by omega)]
  refine ⟨h1, h2, h3, h4, k, b, h5, h6, h7, r1, r2, r3, ?_⟩
  intro c hcc
  unfold CcR lnO tOK
  rw [m1, m84, m86, m87, hc 102 (250 + c) (by omega) (by omega), hc 104 (250 + c) (by omega) (by omega)]
  exact r4 c hcc
theorem CV_congr {M M' N N' : tw_M} (h : CV M N) (hM : ∀ q, q = 1 ∨ (82 ≤ q ∧ q ≤ 87) → M' q = M q) (h8 : ∀ k, 36 ≤ k → k ≤ 40 → N' 88 k = N 88 k) (hc : ∀ q c : Nat, q = 102 ∨ q = 104 → 250 ≤ c → N' q c = N q c) : CV M' N' := by
  rcases h with h | h
  · refine Or.inl ?_
    rw [hM 82 (by omega), h8 36 (by omega) (by omega)]
    exact h
  · exact Or.inr (CkR_congr h hM h8 hc)
theorem told_ok {M N : tw_M} {t m : Int32} (hD : DR M N) (h : CkR M N) : RowI 83 M ∧ (faC M t m = 0 → ¬ M 83 4 = -1 ∧ (-1 ≤ (M 86 (M 83 4).toInt.toNat).toInt ∧ (M 86 (M 83 4).toInt.toNat).toInt < (M 83 5).toInt) ∧ (M 83 5).toInt + 5 ≤ 246 ∧ (¬ (0 ≤ t.toInt ∧ t.toInt < (M 1 5).toInt) → 0 ≤ m.toInt ∧ m.toInt < (M 1 14).toInt)) ∧ (¬ N 88 38 = -1 → (0 ≤ (N 88 38).toInt ∧ (N 88 38).toInt < 500) ∧ ((0 ≤ (N 102 (N 88 38).toInt.toNat).toInt ∧ (N 102 (N 88 38).toInt.toNat).toInt < 12) ∨ (16 ≤ (N 102 (N 88 38).toInt.toNat).toInt ∧ (N 102 (N 88 38).toInt.toNat).toInt < 28))) ∧ (¬ N 88 40 = 48 → 0 ≤ (N 88 39).toInt ∧ (N 88 39).toInt ≤ 495) := by
  obtain ⟨h1, h2, h3, h4, k, b, h5, h6, h7, hK⟩ := h
  have hRI := KRow_RowI hK (by omega)
  obtain ⟨r1, r2, r3, r4⟩ := id hK
  have zm : (-1 : Int32).toInt = -1 := by decide
  have z48 : (48 : Int32).toInt = 48 := by decide
  have hI5 := hD.1.1
  have hI8 := hD.1.2.1
  refine ⟨hRI, ?_, ?_, ?_⟩
  · intro hf
    rcases r3 with ⟨q1, q2⟩ | ⟨q1, q2, q3⟩
    · have hz : lenV 83 M = 0 := by unfold lenV; exact if_pos q1
      unfold faC at hf
      rw [if_pos hz] at hf
      exact absurd hf (by decide)
    · have hne : ¬ M 83 4 = -1 := fun z => by rw [z] at q1; omega
      obtain ⟨c1, c2, c3, c4, c5⟩ := r4 (M 83 4).toInt.toNat (by omega)
      have hx : -1 ≤ (M 86 (M 83 4).toInt.toNat).toInt ∧ (M 86 (M 83 4).toInt.toNat).toInt < (M 83 5).toInt := by
        rcases c2 with ⟨u, _⟩ | ⟨u1, u2, _⟩
        · rw [u, zm]; omega
        · omega
      unfold faC at hf
      by_cases hz : lenV 83 M = 0
      · rw [if_pos hz] at hf; exact absurd hf (by decide)
      · rw [if_neg hz] at hf
        by_cases ht : tskV 83 M = t
        · rw [if_pos ht] at hf
          by_cases h48 : 48 ≤ (M 82 3).toInt
          · rw [if_pos h48] at hf; exact absurd hf (by decide)
          · rw [if_neg h48] at hf
            refine ⟨hne, hx, by omega, fun hp => ?_⟩
            rw [if_neg hp] at hf
            by_cases hm : (0 ≤ m.toInt ∧ m.toInt < (M 1 14).toInt) ∧ M 21 m.toInt.toNat = t
            · exact hm.1
            · rw [if_neg hm] at hf; exact absurd hf (by decide)
        · rw [if_neg ht] at hf; exact absurd hf (by decide)
  · intro hne
    rcases r3 with ⟨q1, q2⟩ | ⟨q1, q2, q3⟩
    · exact absurd q2 hne
    · obtain ⟨c1, c2, c3, c4, c5⟩ := r4 (M 83 4).toInt.toNat (by omega)
      have ei : (N 88 38).toInt.toNat = 250 + (M 83 4).toInt.toNat := by omega
      rw [ei, ← c1]
      refine ⟨by omega, ?_⟩
      rcases c3 with q | q
      · exact Or.inl (by omega)
      · exact Or.inr (by omega)
  · intro h48
    have := tw_ne h48
    rw [← h4] at this
    omega
def NdR (M N : tw_M) (i : Nat) : Prop := M 76 i = N 105 i ∧ tOK M (M 76 i)
theorem prim_R {M N : tw_M} {i : Nat} (hD : DR M N) (h : NdR M N i) : (0 ≤ (M 76 i).toInt ∧ (M 76 i).toInt < (M 1 5).toInt) ↔ (N 105 i).toInt < 16 := by
  have hI5 := hD.1.1
  rw [← h.1]
  constructor
  · intro q; omega
  · intro q
    rcases h.2 with u | u
    · exact u
    · omega
theorem pt_R {M N : tw_M} {k : Int32} (hD : DR M N) : ∀ (r i : Nat) (b : Int32), (∀ j, i ≤ j → j < i + r → NdR M N j) → ptC M k r i b = ptR N k r i b := by
  intro r
  induction r with
  | zero => intro i b _; rfl
  | succ r ih =>
    intro i b h
    have hi := h i (by omega) (by omega)
    have hp := prim_R hD hi
    have h' : ∀ j, i + 1 ≤ j → j < i + 1 + r → NdR M N j := fun j h1 h2 => h j (by omega) (by omega)
    simp only [ptC, ptR]
    by_cases q : (N 105 i).toInt < 16
    · rw [if_pos (hp.mpr q), if_pos q, hi.1, ih _ _ h']
    · rw [if_neg (fun z => q (hp.mp z)), if_neg q, ih _ _ h']
theorem pl_R {M N : tw_M} (hD : DR M N) : ∀ (r i : Nat) (b : Int32), (∀ j, i ≤ j → j < i + r → NdR M N j) → plC M r i b = plR N r i b := by
  intro r
  induction r with
  | zero => intro i b _; rfl
  | succ r ih =>
    intro i b h
    have hi := h i (by omega) (by omega)
    have hp := prim_R hD hi
    have h' : ∀ j, i + 1 ≤ j → j < i + 1 + r → NdR M N j := fun j h1 h2 => h j (by omega) (by omega)
    simp only [plC, plR]
    by_cases q : (N 105 i).toInt < 16
    · rw [if_pos (hp.mpr q), if_pos q, ih _ _ h']
    · rw [if_neg (fun z => q (hp.mp z)), if_neg q, ih _ _ h']
theorem pc_R {M N : tw_M} (hD : DR M N) : ∀ (r i : Nat) (b : Int32), (∀ j, i ≤ j → j < i + r → NdR M N j) → pcC M r i b = pcR N r i b := by
  intro r
  induction r with
  | zero => intro i b _; rfl
  | succ r ih =>
    intro i b h
    have hi := h i (by omega) (by omega)
    have hp := prim_R hD hi
    have k6 := hD.2.2.1.2.2.2.2.1
    have h' : ∀ j, i + 1 ≤ j → j < i + 1 + r → NdR M N j := fun j h1 h2 => h j (by omega) (by omega)
    simp only [pcC, pcR]
    unfold fCost
    by_cases q : (N 105 i).toInt < 16
    · rw [if_pos (hp.mpr q), if_pos q, ih _ _ h', hi.1, k6]
    · rw [if_neg (fun z => q (hp.mp z)), if_neg q, ih _ _ h', Int32.add_zero]
theorem GoR_nd {M N : tw_M} (h : GoR M N) : ∀ i : Nat, (i : Int) < (M 70 8).toInt → NdR M N i := by
  obtain ⟨-, n, o, a1, a2, a3, b, -⟩ := h
  intro i hi
  obtain ⟨⟨f1, -⟩, ht, -⟩ := b.1 i (by omega)
  exact ⟨f1, ht⟩
