def emptyC (M : tw_M) : tw_M := tw_set (tw_set M 70 8 0) 70 9 0
def reopenC (M : tw_M) (k : Nat) : tw_M := tw_set (tw_set (tw_set (tw_set (tw_set (tw_set M 71 4 (M 79 k)) 71 5 (M 80 k)) 70 10 (M 81 k)) 70 8 (Int32.ofNat k + 1)) 78 k (M 78 k + 1)) 70 9 1
def failC (M : tw_M) : Nat → tw_M
  | 0 => tw_set (emptyC M) 70 12 1
  | n + 1 => if mAt M (M 76 n) (M 78 n + 1) = -1 then failC M n else reopenC M n
def reopenR (N : tw_M) (k : Nat) : tw_M := tw_set (tw_set (tw_set (tw_set (tw_set (tw_set (tw_set N 88 28 (Int32.ofNat k + 1)) 88 25 (N 109 k)) 88 26 (N 110 k)) 88 27 (N 111 k)) 108 k 0) 107 k (N 107 k + 1)) 88 23 1
def failR (N : tw_M) : Nat → tw_M
  | 0 => tw_set (tw_set N 88 22 1) 88 28 0
  | n + 1 => if ¬ N 108 n = 0 ∧ (N 107 n + 1).toInt < (N 94 (N 105 n - 16).toInt.toNat).toInt then reopenR N n else failR N n
def tOK (M : tw_M) (t : Int32) : Prop := (0 ≤ t.toInt ∧ t.toInt < (M 1 5).toInt) ∨ (16 ≤ t.toInt ∧ t.toInt < 16 + (M 1 8).toInt)
def DR (M N : tw_M) : Prop := DI M ∧ (M 1 5 = N 88 0 ∧ M 1 8 = N 88 6 ∧ M 1 14 = N 88 9 ∧ M 1 16 = N 88 16 ∧ M 1 17 = N 88 15) ∧ (M 2 = N 89 ∧ M 3 = N 90 ∧ M 4 = N 91 ∧ M 5 = N 92 ∧ M 6 = N 93 ∧ M 20 = N 94 ∧ M 21 = N 96 ∧ M 22 = N 97 ∧ M 23 = N 98 ∧ M 65 = N 99 ∧ M 66 = N 101) ∧ (∀ c j : Nat, c < 12 → j < 5 → M (8 + c) j = N 95 (5 * c + j)) ∧ (∀ m k : Nat, m < 40 → k < 5 → M (25 + m) k = N 100 (5 * m + k)) ∧ (∀ k : Nat, (M 1 8).toInt ≤ k → M 20 k = 0) ∧ (∀ k : Nat, (M 1 14).toInt ≤ k → M 65 k = 0) ∧ (∀ c j : Nat, (c : Int) < (M 1 8).toInt → (j : Int) < (M 20 c).toInt → 0 ≤ (M (8 + c) j).toInt ∧ (M (8 + c) j).toInt < (M 1 14).toInt) ∧ (∀ m k : Nat, (m : Int) < (M 1 14).toInt → (k : Int) < (M 65 m).toInt → tOK M (M (25 + m) k)) ∧ (∀ k : Nat, (k : Int) < (M 1 16).toInt → tOK M (M 66 k))
def NodeR (M N : tw_M) (i : Nat) : Prop := (M 76 i = N 105 i ∧ M 77 i = N 106 i ∧ M 78 i = N 107 i ∧ M 81 i = N 109 i ∧ M 79 i = N 110 i ∧ M 80 i = N 111 i) ∧ tOK M (M 76 i) ∧ (16 ≤ (M 76 i).toInt → 0 ≤ (M 78 i).toInt ∧ (M 78 i).toInt < (M 20 (M 76 i - 16).toInt.toNat).toInt) ∧ (-1 ≤ (M 79 i).toInt ∧ (M 79 i).toInt < (M 80 i).toInt ∧ (M 80 i).toInt ≤ 6 + 5 * (i : Int))
def KeptR (M N : tw_M) (i : Nat) : Prop := N 108 i = if (M 76 i).toInt < 16 then 0 else 1
def CellR (M N : tw_M) (c : Nat) : Prop := (M 72 c = N 102 c ∧ M 73 c = N 103 c ∧ M 74 c = N 104 c) ∧ tOK M (M 72 c) ∧ (-1 ≤ (M 74 c).toInt ∧ (M 74 c).toInt < (c : Int)) ∧ 1 ≤ (M 75 c).toInt ∧ (M 75 c).toInt ≤ (c : Int) + 1
def NodesR (M N : tw_M) (n : Nat) (b : Int) : Prop := (∀ i, i < n → NodeR M N i) ∧ (∀ i k, i ≤ k → k < n → (M 80 i).toInt ≤ (M 80 k).toInt) ∧ (∀ i, i < n → (M 80 i).toInt ≤ b) ∧ (∀ c : Nat, (c : Int) < b → CellR M N c)
def GoR (M N : tw_M) : Prop := (M 70 9 = N 88 23 ∧ M 70 11 = N 88 24 ∧ M 70 10 = N 88 25 ∧ M 71 4 = N 88 26 ∧ M 71 5 = N 88 27 ∧ M 70 8 = N 88 28 ∧ N 88 21 = 1 ∧ N 88 22 = 0) ∧ ∃ n o : Nat, (M 70 8).toInt = (n : Int) ∧ n ≤ 48 ∧ ((M 70 9 = 0 ∧ o = n) ∨ (M 70 9 = 1 ∧ n = o + 1 ∧ 16 ≤ (M 76 o).toInt ∧ N 108 o = 0)) ∧ NodesR M N n (M 71 5).toInt ∧ (∀ i, i < o → KeptR M N i) ∧ (-1 ≤ (M 71 4).toInt ∧ (M 71 4).toInt < (M 71 5).toInt ∧ (M 71 5).toInt ≤ 6 + 5 * (o : Int))
def EndR (M N : tw_M) : Prop := M 70 12 = 1 ∧ M 70 8 = 0 ∧ M 70 9 = 0 ∧ M 70 11 = N 88 24 ∧ N 88 21 = 1 ∧ N 88 22 = 1 ∧ N 88 28 = 0
theorem tw_ofN {x : Int32} {k : Nat} (h : x.toInt = (k : Int)) (hk : k < 2147483648) : x = Int32.ofNat k := by
  apply Int32.toInt_inj.mp
  rw [h, Int32.toInt_ofNat_of_lt (by omega)]
theorem tw_toN {k : Nat} (hk : k < 2147483648) : (Int32.ofNat k).toInt = (k : Int) := Int32.toInt_ofNat_of_lt (by omega)
theorem behind_R {M N : tw_M} {i : Nat} (hD : DR M N) (h : NodeR M N i) (hk : KeptR M N i) : (¬ mAt M (M 76 i) (M 78 i + 1) = -1) ↔ (¬ N 108 i = 0 ∧ (N 107 i + 1).toInt < (N 94 (N 105 i - 16).toInt.toNat).toInt) := by
  obtain ⟨⟨e1, e2, e3, e4, e5, e6⟩, ht, hp, -⟩ := h
  have hI := hD.1
  have h20 : M 20 = N 94 := hD.2.2.1.2.2.2.2.2.1
  have hmr := hD.2.2.2.2.2.2.2.1
  rw [← e1, ← e3, ← h20]
  have z1 : (1 : Int32).toInt = 1 := by decide
  have z16 : (16 : Int32).toInt = 16 := by decide
  have zm : (-1 : Int32).toInt = -1 := by decide
  unfold KeptR at hk
  by_cases hc : (M 76 i).toInt < 16
  · rw [if_pos hc] at hk
    have e : mAt M (M 76 i) (M 78 i + 1) = -1 := by unfold mAt; exact if_neg (by omega)
    simp [e, hk]
  · rw [if_neg hc] at hk
    have hc2 : 16 ≤ (M 76 i).toInt := by omega
    have hb := hI.2.1
    have hp5 := hI.1
    have hci : 16 ≤ (M 76 i).toInt ∧ (M 76 i).toInt < 16 + (M 1 8).toInt := by
      rcases ht with h | h
      · omega
      · exact h
    have es : (M 76 i - 16).toInt = (M 76 i).toInt - 16 := by rw [tw_subI (by omega), z16]
    have hmc := hI.2.2.2.2.1 (M 76 i - 16).toInt.toNat (by omega)
    have hpp := hp hc2
    have ep : (M 78 i + 1).toInt = (M 78 i).toInt + 1 := by rw [tw_addI (by omega), z1]
    have hk1 : ¬ N 108 i = 0 := by rw [hk]; decide
    constructor
    · intro hq
      refine ⟨hk1, ?_⟩
      apply Int.lt_of_not_ge
      intro hge
      apply hq
      unfold mAt
      exact if_neg (by omega)
    · intro hq
      have e : mAt M (M 76 i) (M 78 i + 1) = M (8 + (M 76 i - 16).toInt.toNat) (M 78 i + 1).toInt.toNat := by unfold mAt; exact if_pos ⟨hci, by omega, hq.2⟩
      have hr := hmr (M 76 i - 16).toInt.toNat (M 78 i + 1).toInt.toNat (by omega) (by omega)
      intro h1
      rw [e] at h1
      rw [h1] at hr
      omega
theorem reopen_R {M N : tw_M} {n : Nat} {b : Int} (hD : DR M N) (hn : n + 1 ≤ 48) (h : NodesR M N (n + 1) b) (hk : ∀ i, i < n + 1 → KeptR M N i) (hs : M 70 11 = N 88 24 ∧ N 88 21 = 1 ∧ N 88 22 = 0) (hq : ¬ mAt M (M 76 n) (M 78 n + 1) = -1) : GoR (reopenC M n) (reopenR N n) := by
  have hb := (behind_R hD (h.1 n (by omega)) (hk n (by omega))).mp hq
  obtain ⟨h1, h2, h3, h4⟩ := h
  obtain ⟨⟨e1, e2, e3, e4, e5, e6⟩, ht, hp, hx⟩ := h1 n (by omega)
  have z1 : (1 : Int32).toInt = 1 := by decide
  have hc : 16 ≤ (M 76 n).toInt := by
    have hkn := hk n (by omega)
    unfold KeptR at hkn
    by_cases hc : (M 76 n).toInt < 16
    · rw [if_pos hc] at hkn
      exact absurd hkn hb.1
    · omega
  have hpp := hp hc
  have h20 : M 20 = N 94 := hD.2.2.1.2.2.2.2.2.1
  have hmc : (M 20 (M 76 n - 16).toInt.toNat).toInt ≤ 5 := by
    by_cases hlt : (M 76 n - 16).toInt.toNat < 12
    · exact (hD.1.2.2.2.2.1 _ hlt).2
    · have h0 := hD.2.2.2.2.2.1 (M 76 n - 16).toInt.toNat (by have := hD.1.2.1; omega)
      rw [h0]
      decide
  have ep : (M 78 n + 1).toInt = (M 78 n).toInt + 1 := by rw [tw_addI (by omega), z1]
  have en : (Int32.ofNat n + 1).toInt = (n : Int) + 1 := by rw [tw_addI (by rw [tw_toN (by omega), z1]; omega), tw_toN (by omega), z1]
  have hb2 := hb.2
  rw [← e1, ← e3, ← h20, ep] at hb2
  refine ⟨⟨rfl, hs.1, e4, e5, e6, rfl, hs.2.1, hs.2.2⟩, n + 1, n, ?_, hn, Or.inr ⟨rfl, rfl, hc, ?_⟩, ⟨?_, h2, ?_, ?_⟩, ?_, hx⟩
  · show (Int32.ofNat n + 1).toInt = _
    rw [en]; rfl
  · show reopenR N n 108 n = 0
    simp [reopenR, tw_set]
  · intro i hi
    by_cases hin : i = n
    · subst hin
      have e78 : reopenC M i 78 i = M 78 i + 1 := by simp [reopenC, tw_set]
      have e107 : reopenR N i 107 i = N 107 i + 1 := by simp [reopenR, tw_set]
      refine ⟨⟨e1, e2, ?_, e4, e5, e6⟩, ht, ?_, hx⟩
      · rw [e78, e107, e3]
      · intro _
        rw [e78, ep]
        show 0 ≤ (M 78 i).toInt + 1 ∧ (M 78 i).toInt + 1 < (M 20 (M 76 i - 16).toInt.toNat).toInt
        omega
    · have e78 : reopenC M n 78 i = M 78 i := by simp [reopenC, tw_set, hin]
      have e107 : reopenR N n 107 i = N 107 i := by simp [reopenR, tw_set, hin]
      obtain ⟨⟨f1, f2, f3, f4, f5, f6⟩, gt, gp, gx⟩ := h1 i hi
      refine ⟨⟨f1, f2, ?_, f4, f5, f6⟩, gt, ?_, gx⟩
      · rw [e78, e107, f3]
      · intro q
        rw [e78]
        exact gp q
  · intro i hi
    exact h2 i n (by omega) (by omega)
  · intro c hcc
    exact h4 c (Int.lt_of_lt_of_le hcc (h3 n (by omega)))
  · intro i hi
    have e108 : reopenR N n 108 i = N 108 i := by simp [reopenR, tw_set, show ¬ i = n by omega]
    have hki := hk i (by omega)
    unfold KeptR at hki ⊢
    rw [e108]
    exact hki
theorem fail_R {M N : tw_M} {b : Int} (hD : DR M N) (hs : M 70 11 = N 88 24 ∧ N 88 21 = 1 ∧ N 88 22 = 0) : ∀ n, n ≤ 48 → NodesR M N n b → (∀ i, i < n → KeptR M N i) → EndR (failC M n) (failR N n) ∨ (GoR (failC M n) (failR N n) ∧ failC M n 70 9 = 1 ∧ failC M n 70 12 = M 70 12) := by
  intro n
  induction n with
  | zero => intro _ _ _; exact Or.inl ⟨rfl, rfl, rfl, hs.1, hs.2.1, rfl, rfl⟩
  | succ n ih =>
    intro hn h hk
    have hb := behind_R hD (h.1 n (by omega)) (hk n (by omega))
    by_cases hq : mAt M (M 76 n) (M 78 n + 1) = -1
    · have e1 : failC M (n + 1) = failC M n := by simp only [failC]; exact if_pos hq
      have e2 : failR N (n + 1) = failR N n := by simp only [failR]; exact if_neg (fun z => hb.mpr z hq)
      rw [e1, e2]
      exact ih (by omega) ⟨fun i hi => h.1 i (by omega), fun i k h1 h2 => h.2.1 i k h1 (by omega), fun i hi => h.2.2.1 i (by omega), h.2.2.2⟩ (fun i hi => hk i (by omega))
    · have e1 : failC M (n + 1) = reopenC M n := by simp only [failC]; exact if_neg hq
      have e2 : failR N (n + 1) = reopenR N n := by simp only [failR]; exact if_pos (hb.mp hq)
      rw [e1, e2]
      exact Or.inr ⟨reopen_R hD hn h hk hs hq, rfl, rfl⟩
def putR (h : Nat) (N : tw_M) (t p : Int32) : tw_M := tw_set (tw_set (tw_set (tw_set (tw_set N 102 (N 88 (h + 1)).toInt.toNat t) 103 (N 88 (h + 1)).toInt.toNat p) 104 (N 88 (h + 1)).toInt.toNat (N 88 h)) 88 h (N 88 (h + 1))) 88 (h + 1) (N 88 (h + 1) + 1)
def putRs (h : Nat) (p : Int32) : tw_M → List Int32 → tw_M
  | N, [] => N
  | N, t :: ts => putRs h p (putR h N t p) ts
theorem putAll_out {r q : Nat} (p : Int32) (hq : q < r ∨ r + 4 < q) : ∀ (l : List Int32) (M : tw_M), putAll r p M l q = M q := by
  intro l
  induction l with
  | nil => intro M; rfl
  | cons t ts ih => intro M; show putAll r p (putC r M t p) ts q = M q; rw [ih, putC_out M t p hq]
theorem putR_out {h q : Nat} (N : tw_M) (t p : Int32) (hq : q ≠ 88 ∧ (q < 102 ∨ 104 < q)) : putR h N t p q = N q := by
  unfold putR
  rw [tw_set_q _ _ (by omega), tw_set_q _ _ (by omega), tw_set_q _ _ (by omega), tw_set_q _ _ (by omega), tw_set_q _ _ (by omega)]
theorem putR_88 {h k : Nat} (N : tw_M) (t p : Int32) (hk : k ≠ h ∧ k ≠ h + 1) : putR h N t p 88 k = N 88 k := by
  unfold putR
  rw [tw_set_k _ _ hk.2, tw_set_k _ _ hk.1, tw_set_q _ _ (by omega), tw_set_q _ _ (by omega), tw_set_q _ _ (by omega)]
theorem putRs_out {h q : Nat} (p : Int32) (hq : q ≠ 88 ∧ (q < 102 ∨ 104 < q)) : ∀ (l : List Int32) (N : tw_M), putRs h p N l q = N q := by
  intro l
  induction l with
  | nil => intro N; rfl
  | cons t ts ih => intro N; show putRs h p (putR h N t p) ts q = N q; rw [ih, putR_out N t p hq]
theorem putRs_88 {h k : Nat} (p : Int32) (hk : k ≠ h ∧ k ≠ h + 1) : ∀ (l : List Int32) (N : tw_M), putRs h p N l 88 k = N 88 k := by
  intro l
  induction l with
  | nil => intro N; rfl
  | cons t ts ih => intro N; show putRs h p (putR h N t p) ts 88 k = N 88 k; rw [ih, putR_88 N t p hk]
def RowR (M N : tw_M) : Prop := M 71 4 = N 88 26 ∧ M 71 5 = N 88 27 ∧ (∀ c : Nat, (c : Int) < (M 71 5).toInt → CellR M N c) ∧ -1 ≤ (M 71 4).toInt ∧ (M 71 4).toInt < (M 71 5).toInt
theorem lenV_pos {M N : tw_M} (h : RowR M N) : (M 71 4 = -1 ∧ lenV 71 M = 0) ∨ (¬ M 71 4 = -1 ∧ 0 ≤ (M 71 4).toInt ∧ 1 ≤ (lenV 71 M).toInt) := by
  obtain ⟨h1, h2, h3, h4, h5⟩ := h
  have zm : (-1 : Int32).toInt = -1 := by decide
  by_cases e : M 71 4 = -1
  · exact Or.inl ⟨e, by unfold lenV; exact if_pos e⟩
  · refine Or.inr ⟨e, ?_, ?_⟩
    · have h6 := tw_ne e
      omega
    · have h6 := tw_ne e
      have h7 := (h3 (M 71 4).toInt.toNat (by omega)).2.2.2.1
      unfold lenV
      rw [if_neg e]
      exact h7
theorem put_R {M N : tw_M} {t p : Int32} (h : RowR M N) (ht : tOK M t) (hc : (M 71 5).toInt < 246) : RowR (putC 71 M t p) (putR 26 N t p) ∧ (putC 71 M t p 71 5).toInt = (M 71 5).toInt + 1 := by
  have hp := lenV_pos h
  obtain ⟨h1, h2, h3, h4, h5⟩ := h
  have z1 : (1 : Int32).toInt = 1 := by decide
  have z0 : (0 : Int32).toInt = 0 := by decide
  have e5 : (M 71 5 + 1).toInt = (M 71 5).toInt + 1 := by rw [tw_addI (by omega), z1]
  have hlen : 0 ≤ (lenV 71 M).toInt ∧ (lenV 71 M).toInt ≤ (M 71 5).toInt := by
    rcases hp with ⟨q1, q2⟩ | ⟨q1, q2, q3⟩
    · rw [q2, z0]
      have zm : (-1 : Int32).toInt = -1 := by decide
      omega
    · have q4 : lenV 71 M = M 75 (M 71 4).toInt.toNat := by unfold lenV; exact if_neg q1
      have q5 := (h3 (M 71 4).toInt.toNat (by omega)).2.2.2.2
      rw [q4] at q3 ⊢
      omega
  have el : (lenV 71 M + 1).toInt = (lenV 71 M).toInt + 1 := by rw [tw_addI (by omega), z1]
  have hne : ∀ c : Nat, (c : Int) < (M 71 5).toInt → ¬ c = (M 71 5).toInt.toNat := by intro c hc; omega
  have c5 : putC 71 M t p 71 5 = M 71 5 + 1 := rfl
  have r27 : (N 88 27).toInt.toNat = (M 71 5).toInt.toNat := by rw [h2]
  have cell : ∀ c : Nat, (c : Int) < (M 71 5).toInt + 1 → CellR (putC 71 M t p) (putR 26 N t p) c := by
    intro c hcc
    by_cases e : c = (M 71 5).toInt.toNat
    · have a1 : putC 71 M t p 72 c = t := by simp [putC, tw_set, e, -Int32.toNat_toInt]
      have a2 : putC 71 M t p 73 c = p := by simp [putC, tw_set, e, -Int32.toNat_toInt]
      have a3 : putC 71 M t p 74 c = M 71 4 := by simp [putC, tw_set, e, -Int32.toNat_toInt]
      have a4 : putC 71 M t p 75 c = lenV 71 M + 1 := by simp [putC, tw_set, e, -Int32.toNat_toInt]
      have b1 : putR 26 N t p 102 c = t := by simp [putR, tw_set, r27, e, -Int32.toNat_toInt]
      have b2 : putR 26 N t p 103 c = p := by simp [putR, tw_set, r27, e, -Int32.toNat_toInt]
      have b3 : putR 26 N t p 104 c = N 88 26 := by simp [putR, tw_set, r27, e, -Int32.toNat_toInt]
      refine ⟨⟨by rw [a1, b1], by rw [a2, b2], by rw [a3, b3, h1]⟩, ?_, ?_, ?_, ?_⟩
      · rw [a1]; exact ht
      · rw [a3]; omega
      · rw [a4, el]; omega
      · rw [a4, el]; omega
    · have hcc : (c : Int) < (M 71 5).toInt := by omega
      have a1 : putC 71 M t p 72 c = M 72 c := by simp [putC, tw_set, e, -Int32.toNat_toInt]
      have a2 : putC 71 M t p 73 c = M 73 c := by simp [putC, tw_set, e, -Int32.toNat_toInt]
      have a3 : putC 71 M t p 74 c = M 74 c := by simp [putC, tw_set, e, -Int32.toNat_toInt]
      have a4 : putC 71 M t p 75 c = M 75 c := by simp [putC, tw_set, e, -Int32.toNat_toInt]
      have b1 : putR 26 N t p 102 c = N 102 c := by simp [putR, tw_set, r27, e, -Int32.toNat_toInt]
      have b2 : putR 26 N t p 103 c = N 103 c := by simp [putR, tw_set, r27, e, -Int32.toNat_toInt]
      have b3 : putR 26 N t p 104 c = N 104 c := by simp [putR, tw_set, r27, e, -Int32.toNat_toInt]
      obtain ⟨⟨f1, f2, f3⟩, f4, f5, f6⟩ := h3 c hcc
      refine ⟨⟨by rw [a1, b1, f1], by rw [a2, b2, f2], by rw [a3, b3, f3]⟩, ?_, ?_, ?_⟩
      · rw [a1]; exact f4
      · rw [a3]; exact f5
      · rw [a4]; exact f6
  refine ⟨⟨?_, ?_, ?_, ?_, ?_⟩, ?_⟩
  · show M 71 5 = N 88 27
    exact h2
  · show M 71 5 + 1 = N 88 27 + 1
    rw [h2]
  · intro c hcc
    rw [c5, e5] at hcc
    exact cell c hcc
  · show -1 ≤ (M 71 5).toInt
    omega
  · show (M 71 5).toInt < (M 71 5 + 1).toInt
    omega
  · rw [c5, e5]
theorem puts_R {p : Int32} : ∀ (l : List Int32) (M N : tw_M), RowR M N → (∀ t ∈ l, tOK M t) → (M 71 5).toInt + l.length ≤ 246 → RowR (putAll 71 p M l) (putRs 26 p N l) ∧ (putAll 71 p M l 71 5).toInt = (M 71 5).toInt + l.length := by
  intro l
  induction l with
  | nil => intro M N h _ _; exact ⟨h, by simp [putAll]⟩
  | cons t ts ih =>
    intro M N h ht hc
    simp only [List.length_cons] at hc
    obtain ⟨p1, p2⟩ := put_R (p := p) h (ht t List.mem_cons_self) (by omega)
    obtain ⟨q1, q2⟩ := ih _ _ p1 (fun x hx => ht x (List.mem_cons_of_mem _ hx)) (by rw [p2]; omega)
    refine ⟨q1, ?_⟩
    show (putAll 71 p (putC 71 M t p) ts 71 5).toInt = _
    rw [q2, p2]
    simp only [List.length_cons]
    omega
theorem dl_mem {f : Nat → Int32} {t : Int32} : ∀ {n : Nat}, t ∈ dl f n → ∃ k, k < n ∧ t = f k := by
  intro n
  induction n with
  | zero => intro h; cases h
  | succ n ih =>
    intro h
    rcases List.mem_cons.mp h with rfl | h
    · exact ⟨n, by omega, rfl⟩
    · obtain ⟨k, h1, h2⟩ := ih h
      exact ⟨k, by omega, h2⟩
theorem dl_len (f : Nat → Int32) : ∀ n, (dl f n).length = n := by
  intro n
  induction n with
  | zero => rfl
  | succ n ih => simp [dl, ih]
theorem dl_congr {f g : Nat → Int32} : ∀ {n : Nat}, (∀ k, k < n → f k = g k) → dl f n = dl g n := by
  intro n
  induction n with
  | zero => intro _; rfl
  | succ n ih => intro h; simp only [dl]; rw [h n (by omega), ih (fun k hk => h k (by omega))]
def addC (M : tw_M) (t : Int32) : tw_M := tw_set (tw_set (tw_set (tw_set (tw_set (tw_set (tw_set (tw_set M 76 (M 70 8).toInt.toNat t) 77 (M 70 8).toInt.toNat (parV 71 M)) 71 4 (M 74 (M 71 4).toInt.toNat)) 78 (M 70 8).toInt.toNat 0) 79 (M 70 8).toInt.toNat (M 74 (M 71 4).toInt.toNat)) 80 (M 70 8).toInt.toNat (M 71 5)) 81 (M 70 8).toInt.toNat (M 70 10)) 70 8 (M 70 8 + 1)
def doneC (M : tw_M) (t : Int32) : tw_M := if pDo M t (M 70 10) then tw_set M 70 10 (fAfter M t (M 70 10)) else if mAt M t 0 = -1 then failC M (M 70 8).toInt.toNat else tw_set M 70 9 1
def takeC (M : tw_M) : tw_M := if 48 ≤ (M 70 8).toInt then failC M (M 70 8).toInt.toNat else doneC (addC M (tskV 71 M)) (tskV 71 M)
def tryC (M : tw_M) (nd : Int32) : tw_M := if pMH M (mAt M (M 76 nd.toInt.toNat) (M 78 nd.toInt.toNat)) (M 70 10) then tw_set (putAll 71 nd M (dl (M (25 + (mAt M (M 76 nd.toInt.toNat) (M 78 nd.toInt.toNat)).toInt.toNat)) (nPart M (mAt M (M 76 nd.toInt.toNat) (M 78 nd.toInt.toNat))).toInt.toNat)) 70 9 0 else if mAt M (M 76 nd.toInt.toNat) (M 78 nd.toInt.toNat + 1) = -1 then failC M (M 70 8).toInt.toNat else tw_set M 78 nd.toInt.toNat (M 78 nd.toInt.toNat + 1)
def seeC (M : tw_M) : tw_M := if M 70 12 = 2 ∧ M 70 9 = 0 ∧ lenV 71 M = 0 then tw_set M 70 12 0 else M
def stepC (M : tw_M) : tw_M := if M 70 9 = 0 then seeC (takeC (tw_set M 70 11 (M 70 11 + 1))) else seeC (tryC (tw_set M 70 11 (M 70 11 + 1)) (M 70 8 - 1))
def addR (N : tw_M) : tw_M := tw_set (tw_set (tw_set (tw_set (tw_set (tw_set (tw_set (tw_set (tw_set N 88 26 (N 104 (N 88 26).toInt.toNat)) 105 (N 88 28).toInt.toNat (N 102 (N 88 26).toInt.toNat)) 106 (N 88 28).toInt.toNat (N 103 (N 88 26).toInt.toNat)) 107 (N 88 28).toInt.toNat 0) 108 (N 88 28).toInt.toNat 0) 109 (N 88 28).toInt.toNat (N 88 25)) 110 (N 88 28).toInt.toNat (N 104 (N 88 26).toInt.toNat)) 111 (N 88 28).toInt.toNat (N 88 27)) 88 28 (N 88 28 + 1)
def doneR (N : tw_M) (t : Int32) : tw_M := if t.toInt < 16 then (if pH (N 89 t.toInt.toNat) (N 90 t.toInt.toNat) (N 88 25) then tw_set N 88 25 ((N 88 25 &&& (N 92 t.toInt.toNat ^^^ (-1))) ||| N 91 t.toInt.toNat) else failR N (N 88 28).toInt.toNat) else if 0 < (N 94 (t - 16).toInt.toNat).toInt then tw_set N 88 23 1 else failR N (N 88 28).toInt.toNat
def takeR (N : tw_M) : tw_M := if N 88 28 = 48 then failR (tw_set N 88 26 (N 104 (N 88 26).toInt.toNat)) (N 88 28).toInt.toNat else doneR (addR N) (N 102 (N 88 26).toInt.toNat)
def ownR (N : tw_M) (v : Nat) : Int32 := N 95 (5 * (N 105 v - 16) + N 107 v).toInt.toNat
def tryR (N : tw_M) (v : Int32) : tw_M := if pH (N 97 (ownR N v.toInt.toNat).toInt.toNat) (N 98 (ownR N v.toInt.toNat).toInt.toNat) (N 88 25) then putRs 26 v (tw_set (tw_set N 108 v.toInt.toNat 1) 88 23 0) (dl (fun k => N 100 (5 * (ownR N v.toInt.toNat).toInt.toNat + k)) (N 99 (ownR N v.toInt.toNat).toInt.toNat).toInt.toNat) else if N 107 v.toInt.toNat + 1 = N 94 (N 105 v.toInt.toNat - 16).toInt.toNat then failR (tw_set N 107 v.toInt.toNat (N 107 v.toInt.toNat + 1)) (N 88 28).toInt.toNat else tw_set N 107 v.toInt.toNat (N 107 v.toInt.toNat + 1)
def stepR (N : tw_M) : tw_M := if N 88 23 = 0 then takeR (tw_set N 88 24 (N 88 24 + 1)) else tryR (tw_set N 88 24 (N 88 24 + 1)) (N 88 28 - 1)
theorem GoR_row {M N : tw_M} (h : GoR M N) : RowR M N := by
  obtain ⟨h1, n, o, h2, h3, h4, h5, h6, h7⟩ := h
  exact ⟨h1.2.2.2.1, h1.2.2.2.2.1, h5.2.2.2, h7.1, h7.2.1⟩
theorem add_R {M N : tw_M} {n : Nat} (hD : DR M N) (h : NodesR M N n (M 71 5).toInt) (hn : (M 70 8).toInt = (n : Int)) (hn8 : n < 48) (e8 : M 70 8 = N 88 28) (e10 : M 70 10 = N 88 25) (hr : RowR M N) (hne : ¬ M 71 4 = -1) (h5 : (M 71 5).toInt ≤ 6 + 5 * (n : Int)) :
    tskV 71 M = N 102 (N 88 26).toInt.toNat ∧ tOK M (tskV 71 M) ∧ NodesR (addC M (tskV 71 M)) (addR N) n (M 71 5).toInt ∧ (addC M (tskV 71 M) 76 n = tskV 71 M ∧ addR N 108 n = 0 ∧ addC M (tskV 71 M) 78 n = 0) ∧ ((16 ≤ (tskV 71 M).toInt → 0 < (M 20 (tskV 71 M - 16).toInt.toNat).toInt) → NodeR (addC M (tskV 71 M)) (addR N) n) ∧ (∀ i, i < n → KeptR M N i → KeptR (addC M (tskV 71 M)) (addR N) i) ∧ RowR (addC M (tskV 71 M)) (addR N) := by
  obtain ⟨r1, r2, r3, r4, r5⟩ := id hr
  have zm : (-1 : Int32).toInt = -1 := by decide
  have z0 : (0 : Int32).toInt = 0 := by decide
  have hfc := tw_ne hne
  obtain ⟨⟨c1, c2, c3⟩, c4, c5, c6⟩ := r3 (M 71 4).toInt.toNat (by omega)
  have et : tskV 71 M = M 72 (M 71 4).toInt.toNat := by unfold tskV; exact if_neg hne
  have epar : parV 71 M = M 73 (M 71 4).toInt.toNat := by unfold parV; exact if_neg hne
  have en : (M 70 8).toInt.toNat = n := by omega
  have en2 : (N 88 28).toInt.toNat = n := by rw [← e8]; exact en
  have ef : (N 88 26).toInt.toNat = (M 71 4).toInt.toNat := by rw [← r1]
  obtain ⟨g1, g2, g3, g4⟩ := h
  have hcell : ∀ c, CellR M N c → CellR (addC M (tskV 71 M)) (addR N) c := fun c hc => hc
  refine ⟨by rw [et, c1, ef], by rw [et]; exact c4, ⟨?_, ?_, ?_, ?_⟩, ⟨?_, ?_, ?_⟩, ?_, ?_, ?_⟩
  · intro i hi
    have hne : ¬ i = n := by omega
    obtain ⟨⟨f1, f2, f3, f4, f5, f6⟩, gt, gp, gx⟩ := g1 i hi
    have a1 : addC M (tskV 71 M) 76 i = M 76 i := by simp [addC, tw_set, en, hne, -Int32.toNat_toInt]
    have a2 : addC M (tskV 71 M) 77 i = M 77 i := by simp [addC, tw_set, en, hne, -Int32.toNat_toInt]
    have a3 : addC M (tskV 71 M) 78 i = M 78 i := by simp [addC, tw_set, en, hne, -Int32.toNat_toInt]
    have a4 : addC M (tskV 71 M) 81 i = M 81 i := by simp [addC, tw_set, en, hne, -Int32.toNat_toInt]
    have a5 : addC M (tskV 71 M) 79 i = M 79 i := by simp [addC, tw_set, en, hne, -Int32.toNat_toInt]
    have a6 : addC M (tskV 71 M) 80 i = M 80 i := by simp [addC, tw_set, en, hne, -Int32.toNat_toInt]
    have b1 : addR N 105 i = N 105 i := by simp [addR, tw_set, en2, hne, -Int32.toNat_toInt]
    have b2 : addR N 106 i = N 106 i := by simp [addR, tw_set, en2, hne, -Int32.toNat_toInt]
    have b3 : addR N 107 i = N 107 i := by simp [addR, tw_set, en2, hne, -Int32.toNat_toInt]
    have b4 : addR N 109 i = N 109 i := by simp [addR, tw_set, en2, hne, -Int32.toNat_toInt]
    have b5 : addR N 110 i = N 110 i := by simp [addR, tw_set, en2, hne, -Int32.toNat_toInt]
    have b6 : addR N 111 i = N 111 i := by simp [addR, tw_set, en2, hne, -Int32.toNat_toInt]
    unfold NodeR
    rw [a1, a2, a3, a4, a5, a6, b1, b2, b3, b4, b5, b6]
    exact ⟨⟨f1, f2, f3, f4, f5, f6⟩, gt, gp, gx⟩
  · intro i k h1 h2
    have a1 : addC M (tskV 71 M) 80 i = M 80 i := by simp [addC, tw_set, en, show ¬ i = n by omega, -Int32.toNat_toInt]
    have a2 : addC M (tskV 71 M) 80 k = M 80 k := by simp [addC, tw_set, en, show ¬ k = n by omega, -Int32.toNat_toInt]
    rw [a1, a2]
    exact g2 i k h1 h2
  · intro i hi
    have a1 : addC M (tskV 71 M) 80 i = M 80 i := by simp [addC, tw_set, en, show ¬ i = n by omega, -Int32.toNat_toInt]
    rw [a1]
    exact g3 i hi
  · intro c hc
    exact hcell c (g4 c hc)
  · simp [addC, tw_set, en, -Int32.toNat_toInt]
  · simp [addR, tw_set, en2, -Int32.toNat_toInt]
  · simp [addC, tw_set, en, -Int32.toNat_toInt]
  · intro hm
    have a1 : addC M (tskV 71 M) 76 n = tskV 71 M := by simp [addC, tw_set, en, -Int32.toNat_toInt]
    have a2 : addC M (tskV 71 M) 77 n = parV 71 M := by simp [addC, tw_set, en, -Int32.toNat_toInt]
    have a3 : addC M (tskV 71 M) 78 n = 0 := by simp [addC, tw_set, en, -Int32.toNat_toInt]
    have a4 : addC M (tskV 71 M) 81 n = M 70 10 := by simp [addC, tw_set, en, -Int32.toNat_toInt]
    have a5 : addC M (tskV 71 M) 79 n = M 74 (M 71 4).toInt.toNat := by simp [addC, tw_set, en, -Int32.toNat_toInt]
    have a6 : addC M (tskV 71 M) 80 n = M 71 5 := by simp [addC, tw_set, en, -Int32.toNat_toInt]
    have b1 : addR N 105 n = N 102 (N 88 26).toInt.toNat := by simp [addR, tw_set, en2, -Int32.toNat_toInt]
    have b2 : addR N 106 n = N 103 (N 88 26).toInt.toNat := by simp [addR, tw_set, en2, -Int32.toNat_toInt]
    have b3 : addR N 107 n = 0 := by simp [addR, tw_set, en2, -Int32.toNat_toInt]
    have b4 : addR N 109 n = N 88 25 := by simp [addR, tw_set, en2, -Int32.toNat_toInt]
    have b5 : addR N 110 n = N 104 (N 88 26).toInt.toNat := by simp [addR, tw_set, en2, -Int32.toNat_toInt]
    have b6 : addR N 111 n = N 88 27 := by simp [addR, tw_set, en2, -Int32.toNat_toInt]
    unfold NodeR
    rw [a1, a2, a3, a4, a5, a6, b1, b2, b3, b4, b5, b6]
    refine ⟨⟨by rw [et, c1, ef], by rw [epar, c2, ef], rfl, e10, by rw [c3, ef], r2⟩, ?_, ?_, ?_⟩
    · rw [et]; exact c4
    · intro q
      rw [z0]
      exact ⟨by omega, hm q⟩
    · omega
  · intro i hi hk
    have a1 : addC M (tskV 71 M) 76 i = M 76 i := by simp [addC, tw_set, en, show ¬ i = n by omega, -Int32.toNat_toInt]
    have b1 : addR N 108 i = N 108 i := by simp [addR, tw_set, en2, show ¬ i = n by omega, -Int32.toNat_toInt]
    unfold KeptR
    rw [a1, b1]
    exact hk
  · refine ⟨?_, r2, fun c hc => hcell c (r3 c hc), ?_, ?_⟩
    · show M 74 (M 71 4).toInt.toNat = N 104 (N 88 26).toInt.toNat
      rw [c3, ef]
    · exact c5.1
    · show (M 74 (M 71 4).toInt.toNat).toInt < (M 71 5).toInt
      omega
def sameD (M M' N N' : tw_M) : Prop := (∀ q, q < 67 → M' q = M q) ∧ (∀ q, 89 ≤ q → q ≤ 101 → N' q = N q) ∧ ∀ k, k ≤ 17 → N' 88 k = N 88 k
theorem DR_congr {M M' N N' : tw_M} (h : DR M N) (hs : sameD M M' N N') : DR M' N' := by
  obtain ⟨s1, s2, s3⟩ := hs
  have m1 := s1 1 (by omega)
  have m2 := s1 2 (by omega)
  have m3 := s1 3 (by omega)
  have m4 := s1 4 (by omega)
  have m5 := s1 5 (by omega)
  have m6 := s1 6 (by omega)
  have m20 := s1 20 (by omega)
  have m21 := s1 21 (by omega)
  have m22 := s1 22 (by omega)
  have m23 := s1 23 (by omega)
  have m65 := s1 65 (by omega)
  have m66 := s1 66 (by omega)
  have n0 := s3 0 (by omega)
  have n6 := s3 6 (by omega)
  have n9 := s3 9 (by omega)
  have n16 := s3 16 (by omega)
  have n15 := s3 15 (by omega)
  have n89 := s2 89 (by omega) (by omega)
  have n90 := s2 90 (by omega) (by omega)
  have n91 := s2 91 (by omega) (by omega)
  have n92 := s2 92 (by omega) (by omega)
  have n93 := s2 93 (by omega) (by omega)
  have n94 := s2 94 (by omega) (by omega)
  have n95 := s2 95 (by omega) (by omega)
  have n96 := s2 96 (by omega) (by omega)
  have n97 := s2 97 (by omega) (by omega)
  have n98 := s2 98 (by omega) (by omega)
  have n99 := s2 99 (by omega) (by omega)
  have n100 := s2 100 (by omega) (by omega)
  have n101 := s2 101 (by omega) (by omega)
  obtain ⟨hI, h1, h2, h3, h4, h5, h6, h7, h8, h9⟩ := h
  refine ⟨?_, ?_, ?_, ?_, ?_, ?_, ?_, ?_, ?_, ?_⟩
  · unfold DI at hI ⊢
    rw [m1, m20, m65]
    exact hI
  · rw [m1, n0, n6, n9, n16, n15]
    exact h1
  · rw [m2, m3, m4, m5, m6, m20, m21, m22, m23, m65, m66, n89, n90, n91, n92, n93, n94, n96, n97, n98, n99, n101]
    exact h2
  · intro c j hc hj
    rw [s1 (8 + c) (by omega), n95]
    exact h3 c j hc hj
  · intro m k hm hk
    rw [s1 (25 + m) (by omega), n100]
    exact h4 m k hm hk
  · rw [m1, m20]
    exact h5
  · rw [m1, m65]
    exact h6
  · intro c j hc hj
    have hI2 := hI.2.1
    rw [m1] at hc ⊢
    rw [m20] at hj
    rw [s1 (8 + c) (by omega)]
    exact h7 c j hc hj
  · intro m k hm hk
    have hI3 := hI.2.2.1
    rw [m1] at hm
    rw [m65] at hk
    rw [s1 (25 + m) (by omega)]
    unfold tOK
    rw [m1]
    exact h8 m k hm hk
  · intro k hk
    rw [m1] at hk
    unfold tOK
    rw [m66, m1]
    exact h9 k hk
theorem addC_out (M : tw_M) (t : Int32) {q : Nat} (h : q < 70) : addC M t q = M q := by
  unfold addC
  rw [tw_set_q _ _ (by omega), tw_set_q _ _ (by omega), tw_set_q _ _ (by omega), tw_set_q _ _ (by omega), tw_set_q _ _ (by omega), tw_set_q _ _ (by omega), tw_set_q _ _ (by omega), tw_set_q _ _ (by omega)]
theorem failC_out (M : tw_M) {q : Nat} (h : q < 70) : ∀ n, failC M n q = M q := by
  intro n
  induction n with
  | zero =>
    show tw_set (tw_set (tw_set M 70 8 0) 70 9 0) 70 12 1 q = M q
    rw [tw_set_q _ _ (by omega), tw_set_q _ _ (by omega), tw_set_q _ _ (by omega)]
  | succ n ih =>
    simp only [failC]
    split
    · exact ih
    · unfold reopenC
      rw [tw_set_q _ _ (by omega), tw_set_q _ _ (by omega), tw_set_q _ _ (by omega), tw_set_q _ _ (by omega), tw_set_q _ _ (by omega), tw_set_q _ _ (by omega)]
theorem addR_D (M N : tw_M) (t : Int32) : sameD M (addC M t) N (addR N) := by
  refine ⟨fun q hq => addC_out M t (by omega), fun q h1 h2 => ?_, fun k hk => ?_⟩
  · unfold addR
    rw [tw_set_q _ _ (by omega), tw_set_q _ _ (by omega), tw_set_q _ _ (by omega), tw_set_q _ _ (by omega), tw_set_q _ _ (by omega), tw_set_q _ _ (by omega), tw_set_q _ _ (by omega), tw_set_q _ _ (by omega), tw_set_q _ _ (by omega)]
  · unfold addR
    rw [tw_set_k _ _ (by omega), tw_set_q _ _ (by omega), tw_set_q _ _ (by omega), tw_set_q _ _ (by omega), tw_set_q _ _ (by omega), tw_set_q _ _ (by omega), tw_set_q _ _ (by omega), tw_set_q _ _ (by omega), tw_set_k _ _ (by omega)]
theorem NodesR_succ {M N : tw_M} {n : Nat} {b : Int} (h : NodesR M N n b) (hn : NodeR M N n) (hb : (M 80 n).toInt = b) : NodesR M N (n + 1) b := by
  obtain ⟨h1, h2, h3, h4⟩ := h
  refine ⟨fun i hi => ?_, fun i k hik hk => ?_, fun i hi => ?_, h4⟩
  · by_cases e : i = n
    · rw [e]; exact hn
    · exact h1 i (by omega)
  · by_cases e : k = n
    · subst e
      by_cases e2 : i = k
      · rw [e2]; exact Int.le_refl _
      · rw [hb]; exact h3 i (by omega)
    · exact h2 i k hik (by omega)
  · by_cases e : i = n
    · rw [e, hb]; exact Int.le_refl _
    · exact h3 i (by omega)
theorem take_R {M N : tw_M} (hD : DR M N) (h : GoR M N) (h9 : M 70 9 = 0) (hne : ¬ M 71 4 = -1) : EndR (takeC M) (takeR N) ∨ (GoR (takeC M) (takeR N) ∧ takeC M 70 12 = M 70 12) := by
  have hrow := GoR_row h
  obtain ⟨⟨e9, e11, e10, e4, e5, e8, e21, e22⟩, n, o, hn, hn8, ho, hN, hK, hh⟩ := h
  have z48 : (48 : Int32).toInt = 48 := by decide
  have z1 : (1 : Int32).toInt = 1 := by decide
  have z0 : (0 : Int32).toInt = 0 := by decide
  have z16 : (16 : Int32).toInt = 16 := by decide
  have zm : (-1 : Int32).toInt = -1 := by decide
  have hon : o = n := by
    rcases ho with ⟨_, h⟩ | ⟨h, _⟩
    · exact h
    · rw [h9] at h; exact absurd h (by decide)
  subst hon
  have en : (M 70 8).toInt.toNat = o := by omega
  have en2 : (N 88 28).toInt.toNat = o := by rw [← e8]; exact en
  by_cases h48 : 48 ≤ (M 70 8).toInt
  · have t1 : takeC M = failC M o := by unfold takeC; rw [if_pos h48, en]
    have t2 : takeR N = failR (tw_set N 88 26 (N 104 (N 88 26).toInt.toNat)) o := by
      unfold takeR
      rw [if_pos (by rw [← e8]; exact Int32.toInt_inj.mp (by omega)), en2]
    rw [t1, t2]
    have hD2 : DR M (tw_set N 88 26 (N 104 (N 88 26).toInt.toNat)) := DR_congr hD ⟨fun _ _ => rfl, fun q h1 h2 => tw_set_q _ _ (by omega), fun k hk => tw_set_k _ _ (by omega)⟩
    rcases fail_R (b := (M 71 5).toInt) (N := tw_set N 88 26 (N 104 (N 88 26).toInt.toNat)) hD2 ⟨e11, e21, e22⟩ o hn8 hN hK with q | ⟨q1, q2, q3⟩
    · exact Or.inl q
    · exact Or.inr ⟨q1, q3⟩
  · have t1 : takeC M = doneC (addC M (tskV 71 M)) (tskV 71 M) := by unfold takeC; exact if_neg h48
    obtain ⟨a1, a2, a3, ⟨a4, a5, a6⟩, a7, a8, a9⟩ := add_R hD hN hn (by omega) e8 e10 hrow hne hh.2.2
    have t2 : takeR N = doneR (addR N) (tskV 71 M) := by
      unfold takeR
      rw [if_neg (by rw [← e8]; exact fun q => h48 (by rw [q]; decide)), a1]
    rw [t1, t2]
    have hD1 : DR (addC M (tskV 71 M)) (addR N) := DR_congr hD (addR_D M N _)
    have b8 : (addC M (tskV 71 M) 70 8).toInt = (o : Int) + 1 := by
      show (M 70 8 + 1).toInt = _
      rw [tw_addI (by omega), z1, hn]
    have bR8 : (addR N 88 28).toInt.toNat = o + 1 := by
      have e : addR N 88 28 = addC M (tskV 71 M) 70 8 := by show N 88 28 + 1 = M 70 8 + 1; rw [e8]
      rw [e, b8]; omega
    have hb80 : (addC M (tskV 71 M) 80 o).toInt = (M 71 5).toInt := by simp [addC, tw_set, en, -Int32.toNat_toInt]
    have h12 : addC M (tskV 71 M) 70 12 = M 70 12 := rfl
    have f10 : addC M (tskV 71 M) 70 10 = addR N 88 25 := e10
    generalize hM1 : addC M (tskV 71 M) = M1 at *
    generalize hN1 : addR N = N1 at *
    generalize ht : tskV 71 M = t at *
    have hI := hD1.1
    have hI5 := hI.1
    have hI8 := hI.2.1
    obtain ⟨k2, k3, k4, k5, -, k20, -⟩ := hD1.2.2.1
    have m15 : M1 1 = M 1 := by rw [← hM1]; exact addC_out _ _ (by omega)
    have m20 : M1 20 = M 20 := by rw [← hM1]; exact addC_out _ _ (by omega)
    have hx : M1 70 9 = N1 88 23 ∧ M1 70 11 = N1 88 24 ∧ M1 71 5 = N1 88 27 ∧ N1 88 21 = 1 ∧ N1 88 22 = 0 ∧ M1 70 8 = N1 88 28 ∧ M1 71 5 = M 71 5 ∧ M1 70 9 = 0 := by
      rw [← hM1, ← hN1]
      refine ⟨e9, e11, e5, e21, e22, ?_, rfl, h9⟩
      show M 70 8 + 1 = N 88 28 + 1
      rw [e8]
    obtain ⟨x1, x2, x3, x4, x5, x6, x7, x8⟩ := hx
    obtain ⟨w1, w2, w3, w4, w5⟩ := id a9
    have hcap : (M1 71 5).toInt ≤ 6 + 5 * (o : Int) := by rw [x7]; exact hh.2.2
    rw [m20.symm] at a7
    rw [← x7] at a3 hb80
    by_cases hp : t.toInt < 16
    · have ha : 0 ≤ t.toInt ∧ t.toInt < (M1 1 5).toInt := by
        rw [m15]
        rcases a2 with q | q
        · exact q
        · omega
      have hnode := a7 (fun q => by omega)
      have hkept : KeptR M1 N1 o := by unfold KeptR; rw [a4, if_pos hp, a5]
      have hKs : ∀ i, i < o + 1 → KeptR M1 N1 i := by
        intro i hi
        by_cases e : i = o
        · rw [e]; exact hkept
        · exact a8 i (by omega) (hK i (by omega))
      by_cases hd : pH (M1 2 t.toInt.toNat) (M1 3 t.toInt.toNat) (M1 70 10)
      · have s1 : doneC M1 t = tw_set M1 70 10 (fAfter M1 t (M1 70 10)) := by unfold doneC; exact if_pos ⟨ha, hd⟩
        have s2 : doneR N1 t = tw_set N1 88 25 (fAfter M1 t (M1 70 10)) := by
          unfold doneR fAfter
          rw [if_pos hp, if_pos (by rw [← k2, ← k3, ← f10]; exact hd), if_pos ha, k5, k4, f10]
        rw [s1, s2]
        refine Or.inr ⟨⟨⟨x1, x2, rfl, w1, x3, x6, x4, x5⟩, o + 1, o + 1, by rw [show ((o + 1 : Nat) : Int) = (o : Int) + 1 from rfl]; exact b8, by omega, Or.inl ⟨x8, rfl⟩, NodesR_succ a3 hnode hb80, hKs, w4, w5, ?_⟩, h12⟩
        show (M1 71 5).toInt ≤ 6 + 5 * ((o + 1 : Nat) : Int)
        omega
      · have hm : mAt M1 t 0 = -1 := by unfold mAt; exact if_neg (by omega)
        have s1 : doneC M1 t = failC M1 (o + 1) := by
          unfold doneC
          rw [if_neg (fun q => hd q.2), if_pos hm, show (M1 70 8).toInt.toNat = o + 1 by omega]
        have s2 : doneR N1 t = failR N1 (o + 1) := by
          unfold doneR
          rw [if_pos hp, if_neg (by rw [← k2, ← k3, ← f10]; exact hd), bR8]
        rw [s1, s2]
        rcases fail_R (b := (M1 71 5).toInt) hD1 ⟨x2, x4, x5⟩ (o + 1) (by omega) (NodesR_succ a3 hnode hb80) hKs with q | ⟨q1, q2, q3⟩
        · exact Or.inl q
        · exact Or.inr ⟨q1, q3.trans h12⟩
    · have hnp : ¬ pDo M1 t (M1 70 10) := fun q => by have := q.1; omega
      have hc : 16 ≤ t.toInt ∧ t.toInt < 16 + (M1 1 8).toInt := by
        rw [m15]
        rcases a2 with q | q
        · have := m15 ▸ hI5; omega
        · exact q
      have es : (t - 16).toInt = t.toInt - 16 := by rw [tw_subI (by omega), z16]
      have hmc := hI.2.2.2.2.1 (t - 16).toInt.toNat (by omega)
      by_cases hpos : 0 < (M1 20 (t - 16).toInt.toNat).toInt
      · have hr := hD1.2.2.2.2.2.2.2.1 (t - 16).toInt.toNat 0 (by omega) (by omega)
        have hm : ¬ mAt M1 t 0 = -1 := by
          have e : mAt M1 t 0 = M1 (8 + (t - 16).toInt.toNat) 0 := by unfold mAt; exact if_pos ⟨hc, by omega, by omega⟩
          rw [e]
          intro q
          rw [q] at hr
          omega
        have s1 : doneC M1 t = tw_set M1 70 9 1 := by unfold doneC; rw [if_neg hnp, if_neg hm]
        have s2 : doneR N1 t = tw_set N1 88 23 1 := by unfold doneR; rw [if_neg hp, ← k20, if_pos hpos]
        rw [s1, s2]
        have hnode := a7 (fun _ => hpos)
        refine Or.inr ⟨⟨⟨rfl, x2, f10, w1, x3, x6, x4, x5⟩, o + 1, o, b8, by omega, Or.inr ⟨rfl, rfl, ?_, a5⟩, NodesR_succ a3 hnode hb80, fun i hi => a8 i hi (hK i hi), w4, w5, hcap⟩, h12⟩
        show 16 ≤ (M1 76 o).toInt
        rw [a4]; exact hc.1
      · have hm : mAt M1 t 0 = -1 := by unfold mAt; exact if_neg (by omega)
        have hm1 : mAt M1 (M1 76 o) (M1 78 o + 1) = -1 := by
          rw [a4, a6]
          have z01 : ((0 : Int32) + 1).toInt = 1 := by decide
          unfold mAt
          exact if_neg (by omega)
        have s1 : doneC M1 t = failC M1 o := by
          unfold doneC
          rw [if_neg hnp, if_pos hm, show (M1 70 8).toInt.toNat = o + 1 by omega]
          simp only [failC]
          exact if_pos hm1
        have s2 : doneR N1 t = failR N1 o := by
          unfold doneR
          rw [if_neg hp, ← k20, if_neg hpos, bR8]
          simp only [failR]
          exact if_neg (fun q => q.1 a5)
        rw [s1, s2]
        rcases fail_R (b := (M1 71 5).toInt) hD1 ⟨x2, x4, x5⟩ o (by omega) a3 (fun i hi => a8 i hi (hK i hi)) with q | ⟨q1, q2, q3⟩
        · exact Or.inl q
        · exact Or.inr ⟨q1, q3.trans h12⟩
theorem NodeR_congr {M M' N N' : tw_M} {i : Nat} (h : NodeR M N i) (hM : ∀ q, q = 1 ∨ q = 20 ∨ (76 ≤ q ∧ q ≤ 81) → M' q = M q) (hN : ∀ q, 105 ≤ q ∧ q ≠ 108 ∧ q ≤ 111 → N' q = N q) : NodeR M' N' i := by
  unfold NodeR tOK
  rw [hM 1 (by omega), hM 20 (by omega), hM 76 (by omega), hM 77 (by omega), hM 78 (by omega), hM 79 (by omega), hM 80 (by omega), hM 81 (by omega), hN 105 (by omega), hN 106 (by omega), hN 107 (by omega), hN 109 (by omega), hN 110 (by omega), hN 111 (by omega)]
  exact h
theorem try_R {M N : tw_M} (hD : DR M N) (h : GoR M N) (h9 : M 70 9 = 1) : EndR (tryC M (M 70 8 - 1)) (tryR N (N 88 28 - 1)) ∨ (GoR (tryC M (M 70 8 - 1)) (tryR N (N 88 28 - 1)) ∧ tryC M (M 70 8 - 1) 70 12 = M 70 12) := by
  have hrow := GoR_row h
  obtain ⟨⟨e9, e11, e10, e4, e5, e8, e21, e22⟩, n, o, hn, hn8, ho, hN, hK, hh⟩ := h
  have z1 : (1 : Int32).toInt = 1 := by decide
  have z5 : (5 : Int32).toInt = 5 := by decide
  have z16 : (16 : Int32).toInt = 16 := by decide
  have zm : (-1 : Int32).toInt = -1 := by decide
  obtain ⟨hno, hc, hkept⟩ : n = o + 1 ∧ 16 ≤ (M 76 o).toInt ∧ N 108 o = 0 := by
    rcases ho with ⟨h, _⟩ | ⟨_, h⟩
    · rw [h9] at h; exact absurd h (by decide)
    · exact h
  subst hno
  rw [← e8]
  have end1 : (M 70 8 - 1).toInt = (o : Int) := by rw [tw_subI (by omega), z1, hn]; omega
  have end2 : (M 70 8 - 1).toInt.toNat = o := by omega
  have en : (M 70 8).toInt.toNat = o + 1 := by omega
  have en2 : (N 88 28).toInt.toNat = o + 1 := by rw [← e8]; exact en
  obtain ⟨⟨f1, f2, f3, f4, f5, f6⟩, ht, hp, hx⟩ := hN.1 o (by omega)
  have hpp := hp hc
  have hI := hD.1
  have hI8 := hI.2.1
  have hI5 := hI.1
  have hci : 16 ≤ (M 76 o).toInt ∧ (M 76 o).toInt < 16 + (M 1 8).toInt := by
    rcases ht with q | q
    · omega
    · exact q
  have es : (M 76 o - 16).toInt = (M 76 o).toInt - 16 := by rw [tw_subI (by omega), z16]
  have hmc := hI.2.2.2.2.1 (M 76 o - 16).toInt.toNat (by omega)
  obtain ⟨k2, k3, k4, k5, k6, k20, k21, k22, k23, k65, k66⟩ := hD.2.2.1
  have em : mAt M (M 76 o) (M 78 o) = M (8 + (M 76 o - 16).toInt.toNat) (M 78 o).toInt.toNat := by unfold mAt; exact if_pos ⟨hci, hpp⟩
  have hmr := hD.2.2.2.2.2.2.2.1 (M 76 o - 16).toInt.toNat (M 78 o).toInt.toNat (by omega) (by omega)
  have eown : ownR N o = mAt M (M 76 o) (M 78 o) := by
    have a1 : ((5 : Int32) * (M 76 o - 16)).toInt = 5 * (M 76 o - 16).toInt := by rw [tw_mulI (by rw [z5]; omega), z5]
    have a2 : ((5 : Int32) * (M 76 o - 16) + M 78 o).toInt = 5 * (M 76 o - 16).toInt + (M 78 o).toInt := by rw [tw_addI (by omega), a1]
    unfold ownR
    rw [em, ← f1, ← f3, hD.2.2.2.1 (M 76 o - 16).toInt.toNat (M 78 o).toInt.toNat (by omega) (by omega)]
    congr 1
    omega
  rw [← em] at hmr
  unfold tryC tryR
  rw [end2, eown, en, en2]
  generalize hmm : mAt M (M 76 o) (M 78 o) = m at *
  have hI14 := hI.2.2.1
  by_cases hd : pH (M 22 m.toInt.toNat) (M 23 m.toInt.toNat) (M 70 10)
  · rw [if_pos (show pMH M m (M 70 10) from ⟨hmr, hd⟩), if_pos (by rw [← k22, ← k23, ← e10]; exact hd)]
    have hpc := hI.2.2.2.2.2 m.toInt.toNat (by omega)
    have enp : (nPart M m).toInt.toNat = (M 65 m.toInt.toNat).toInt.toNat := by unfold nPart; rw [if_pos hmr]
    have el : dl (fun k => N 100 (5 * m.toInt.toNat + k)) (N 99 m.toInt.toNat).toInt.toNat = dl (M (25 + m.toInt.toNat)) (M 65 m.toInt.toNat).toInt.toNat := by
      rw [← k65]
      exact dl_congr (fun k hk => (hD.2.2.2.2.1 m.toInt.toNat k (by omega) (by omega)).symm)
    rw [enp, el]
    have hlen := dl_len (M (25 + m.toInt.toNat)) (M 65 m.toInt.toNat).toInt.toNat
    have hok : ∀ x ∈ dl (M (25 + m.toInt.toNat)) (M 65 m.toInt.toNat).toInt.toNat, tOK M x := by
      intro x hx
      obtain ⟨k, hk1, rfl⟩ := dl_mem hx
      exact hD.2.2.2.2.2.2.2.2.1 m.toInt.toNat k (by omega) (by omega)
    generalize hL : dl (M (25 + m.toInt.toNat)) (M 65 m.toInt.toNat).toInt.toNat = L at *
    have hrow2 : RowR M (tw_set (tw_set N 108 o 1) 88 23 0) := hrow
    obtain ⟨p1, p2⟩ := puts_R (p := M 70 8 - 1) L M (tw_set (tw_set N 108 o 1) 88 23 0) hrow2 hok (by omega)
    generalize hM2 : putAll 71 (M 70 8 - 1) M L = M2 at *
    generalize hN2 : putRs 26 (M 70 8 - 1) (tw_set (tw_set N 108 o 1) 88 23 0) L = N2 at *
    have mo : ∀ q, q < 71 ∨ 75 < q → M2 q = M q := fun q hq => by rw [← hM2]; exact putAll_out _ (by omega) _ _
    have no : ∀ q, q ≠ 88 ∧ (q < 102 ∨ 104 < q) → N2 q = (tw_set (tw_set N 108 o 1) 88 23 0) q := fun q hq => by rw [← hN2]; exact putRs_out _ hq _ _
    have n8 : ∀ k, k ≠ 26 ∧ k ≠ 27 → N2 88 k = (tw_set (tw_set N 108 o 1) 88 23 0) 88 k := fun k hk => by rw [← hN2]; exact putRs_88 _ hk _ _
    obtain ⟨w1, w2, w3, w4, w5⟩ := p1
    have g70 := mo 70 (by omega)
    have g80 := mo 80 (by omega)
    have g76 := mo 76 (by omega)
    refine Or.inr ⟨⟨⟨?_, ?_, ?_, w1, w2, ?_, ?_, ?_⟩, o + 1, o + 1, ?_, hn8, Or.inl ⟨rfl, rfl⟩, ⟨?_, ?_, ?_, w3⟩, ?_, w4, w5, ?_⟩, ?_⟩
    · rw [n8 23 (by omega)]; rfl
    · show M2 70 11 = N2 88 24
      rw [g70, n8 24 (by omega)]; exact e11
    · show M2 70 10 = N2 88 25
      rw [g70, n8 25 (by omega)]; exact e10
    · show M2 70 8 = N2 88 28
      rw [g70, n8 28 (by omega)]; exact e8
    · rw [n8 21 (by omega)]; exact e21
    · rw [n8 22 (by omega)]; exact e22
    · show (M2 70 8).toInt = _
      rw [g70]; exact hn
    · intro i hi
      refine NodeR_congr (hN.1 i hi) (fun q hq => ?_) (fun q hq => ?_)
      · rw [tw_set_q _ _ (by omega)]; exact mo q (by omega)
      · rw [no q (by omega), tw_set_q _ _ (by omega), tw_set_q _ _ (by omega)]
    · intro i k h1 h2
      show (M2 80 i).toInt ≤ (M2 80 k).toInt
      rw [g80]; exact hN.2.1 i k h1 h2
    · intro i hi
      show (M2 80 i).toInt ≤ (M2 71 5).toInt
      have h3 := hN.2.2.1 i hi
      rw [g80, p2]
      omega
    · intro i hi
      unfold KeptR
      show N2 108 i = if (M2 76 i).toInt < 16 then 0 else 1
      rw [g76, no 108 (by omega)]
      by_cases e : i = o
      · subst e
        rw [if_neg (by omega)]
        simp [tw_set]
      · have hki := hK i (by omega)
        unfold KeptR at hki
        rw [← hki]
        simp [tw_set, e]
    · show (M2 71 5).toInt ≤ 6 + 5 * ((o + 1 : Nat) : Int)
      rw [p2]
      omega
    · show M2 70 12 = M 70 12
      rw [g70]
  · have hd2 : ¬ pH (N 97 m.toInt.toNat) (N 98 m.toInt.toNat) (N 88 25) := by rw [← k22, ← k23, ← e10]; exact hd
    rw [if_neg (show ¬ pMH M m (M 70 10) from fun q => hd q.2), if_neg hd2]
    have ep : (M 78 o + 1).toInt = (M 78 o).toInt + 1 := by rw [tw_addI (by omega), z1]
    rw [← f1, ← f3, ← k20]
    by_cases hlast : (M 78 o).toInt + 1 = (M 20 (M 76 o - 16).toInt.toNat).toInt
    · have hm1 : mAt M (M 76 o) (M 78 o + 1) = -1 := by unfold mAt; exact if_neg (by omega)
      rw [if_pos hm1, if_pos (Int32.toInt_inj.mp (by omega))]
      have s1 : failC M (o + 1) = failC M o := by simp only [failC]; exact if_pos hm1
      have s2 : failR (tw_set N 107 o (M 78 o + 1)) (o + 1) = failR (tw_set N 107 o (M 78 o + 1)) o := by
        simp only [failR]
        exact if_neg (fun q => q.1 hkept)
      rw [s1, s2]
      have hD3 : DR M (tw_set N 107 o (M 78 o + 1)) := DR_congr hD ⟨fun _ _ => rfl, fun q h1 h2 => tw_set_q _ _ (by omega), fun k hk => by rw [tw_set_q _ _ (by omega)]⟩
      have hN3 : NodesR M (tw_set N 107 o (M 78 o + 1)) o (M 71 5).toInt := by
        refine ⟨fun i hi => ?_, fun i k h1 h2 => hN.2.1 i k h1 (by omega), fun i hi => hN.2.2.1 i (by omega), hN.2.2.2⟩
        have b3 : tw_set N 107 o (M 78 o + 1) 107 i = N 107 i := by simp [tw_set, show ¬ i = o by omega]
        obtain ⟨⟨g1, g2, g3, g4, g5, g6⟩, gt, gp, gx⟩ := hN.1 i (by omega)
        exact ⟨⟨g1, g2, by rw [b3]; exact g3, g4, g5, g6⟩, gt, gp, gx⟩
      rcases fail_R hD3 ⟨e11, e21, e22⟩ o (by omega) hN3 hK with q | ⟨q1, q2, q3⟩
      · exact Or.inl q
      · exact Or.inr ⟨q1, q3⟩
    · have hm1 : ¬ mAt M (M 76 o) (M 78 o + 1) = -1 := by
        have e : mAt M (M 76 o) (M 78 o + 1) = M (8 + (M 76 o - 16).toInt.toNat) (M 78 o + 1).toInt.toNat := by unfold mAt; exact if_pos ⟨hci, by omega, by omega⟩
        have hr := hD.2.2.2.2.2.2.2.1 (M 76 o - 16).toInt.toNat (M 78 o + 1).toInt.toNat (by omega) (by omega)
        rw [e]
        intro q
        rw [q] at hr
        omega
      rw [if_neg hm1, if_neg (fun q => hlast (by rw [← q, ep]))]
      refine Or.inr ⟨⟨⟨e9, e11, e10, e4, e5, e8, e21, e22⟩, o + 1, o, hn, hn8, Or.inr ⟨h9, rfl, hc, hkept⟩, ⟨fun i hi => ?_, hN.2.1, hN.2.2.1, hN.2.2.2⟩, hK, hh⟩, rfl⟩
      obtain ⟨⟨g1, g2, g3, g4, g5, g6⟩, gt, gp, gx⟩ := hN.1 i hi
      by_cases e : i = o
      · subst e
        have b1 : tw_set M 78 i (M 78 i + 1) 78 i = M 78 i + 1 := tw_set_s _ _ _ _
        have b2 : tw_set N 107 i (M 78 i + 1) 107 i = M 78 i + 1 := tw_set_s _ _ _ _
        refine ⟨⟨g1, g2, by rw [b1, b2], g4, g5, g6⟩, gt, ?_, gx⟩
        intro _
        rw [b1, ep]
        show 0 ≤ (M 78 i).toInt + 1 ∧ (M 78 i).toInt + 1 < (M 20 (M 76 i - 16).toInt.toNat).toInt
        omega
      · have b1 : tw_set M 78 o (M 78 o + 1) 78 i = M 78 i := tw_set_k _ _ e
        have b2 : tw_set N 107 o (M 78 o + 1) 107 i = N 107 i := tw_set_k _ _ e
        refine ⟨⟨g1, g2, by rw [b1, b2]; exact g3, g4, g5, g6⟩, gt, ?_, gx⟩
        intro q
        rw [b1]
        exact gp q
def StR (M N : tw_M) : Prop := (M 70 12 = 2 ∧ GoR M N ∧ ¬ (M 70 9 = 0 ∧ M 71 4 = -1)) ∨ (M 70 12 = 0 ∧ GoR M N ∧ M 70 9 = 0 ∧ M 71 4 = -1) ∨ EndR M N
theorem see_R {M N : tw_M} (h : GoR M N) (h12 : M 70 12 = 2) : StR (seeC M) N := by
  have hp := lenV_pos (GoR_row h)
  have z0 : (0 : Int32).toInt = 0 := by decide
  by_cases hf : M 70 9 = 0 ∧ M 71 4 = -1
  · have hl : lenV 71 M = 0 := by
      rcases hp with q | q
      · exact q.2
      · exact absurd hf.2 q.1
    have e : seeC M = tw_set M 70 12 0 := by unfold seeC; exact if_pos ⟨h12, hf.1, hl⟩
    rw [e]
    exact Or.inr (Or.inl ⟨rfl, h, hf.1, hf.2⟩)
  · have e : seeC M = M := by
      unfold seeC
      refine if_neg (fun q => hf ⟨q.2.1, ?_⟩)
      rcases hp with r | r
      · exact r.1
      · have r3 := r.2.2
        rw [q.2.2, z0] at r3
        omega
    rw [e]
    exact Or.inl ⟨h12, h, hf⟩
theorem see_End {M N : tw_M} (h : EndR M N) : seeC M = M := by
  unfold seeC
  exact if_neg (fun q => by rw [h.1] at q; exact absurd q.1 (by decide))
theorem GoR_inc {M N : tw_M} (h : GoR M N) : GoR (tw_set M 70 11 (M 70 11 + 1)) (tw_set N 88 24 (N 88 24 + 1)) := by
  obtain ⟨⟨e9, e11, e10, e4, e5, e8, e21, e22⟩, h2⟩ := h
  refine ⟨⟨e9, ?_, e10, e4, e5, e8, e21, e22⟩, h2⟩
  show M 70 11 + 1 = N 88 24 + 1
  rw [e11]
theorem open_R {M N : tw_M} (h : GoR M N) : M 70 9 = 0 ∨ M 70 9 = 1 := by
  obtain ⟨-, n, o, -, -, ho, -⟩ := h
  rcases ho with ⟨q, _⟩ | ⟨q, _⟩
  · exact Or.inl q
  · exact Or.inr q
theorem step_R {M N : tw_M} (hD : DR M N) (h : GoR M N) (h12 : M 70 12 = 2) (hf : ¬ (M 70 9 = 0 ∧ M 71 4 = -1)) : StR (stepC M) (stepR N) := by
  have hD1 : DR (tw_set M 70 11 (M 70 11 + 1)) (tw_set N 88 24 (N 88 24 + 1)) := DR_congr hD ⟨fun q hq => tw_set_q _ _ (by omega), fun q h1 h2 => tw_set_q _ _ (by omega), fun k hk => tw_set_k _ _ (by omega)⟩
  have h1 := GoR_inc h
  have e9 : M 70 9 = N 88 23 := h.1.1
  rcases open_R h with h9 | h9
  · have hne : ¬ M 71 4 = -1 := fun q => hf ⟨h9, q⟩
    have s1 : stepC M = seeC (takeC (tw_set M 70 11 (M 70 11 + 1))) := by unfold stepC; exact if_pos h9
    have s2 : stepR N = takeR (tw_set N 88 24 (N 88 24 + 1)) := by unfold stepR; exact if_pos (by rw [← e9]; exact h9)
    rw [s1, s2]
    rcases take_R hD1 h1 h9 hne with q | ⟨q1, q2⟩
    · rw [see_End q]; exact Or.inr (Or.inr q)
    · exact see_R q1 (q2.trans h12)
  · have hn0 : ¬ M 70 9 = 0 := by rw [h9]; decide
    have s1 : stepC M = seeC (tryC (tw_set M 70 11 (M 70 11 + 1)) (M 70 8 - 1)) := by unfold stepC; exact if_neg hn0
    have s2 : stepR N = tryR (tw_set N 88 24 (N 88 24 + 1)) (N 88 28 - 1) := by unfold stepR; exact if_neg (by rw [← e9]; exact hn0)
    rw [s1, s2]
    rcases try_R hD1 h1 h9 with q | ⟨q1, q2⟩
    · have q' : EndR (tryC (tw_set M 70 11 (M 70 11 + 1)) (M 70 8 - 1)) (tryR (tw_set N 88 24 (N 88 24 + 1)) (N 88 28 - 1)) := q
      rw [see_End q']; exact Or.inr (Or.inr q')
    · exact see_R q1 (q2.trans h12)
theorem doneC_out (M : tw_M) (t : Int32) {q : Nat} (h : q < 70) : doneC M t q = M q := by
  unfold doneC
  split
  · exact tw_set_q _ _ (by omega)
  · split
    · exact failC_out M h _
    · exact tw_set_q _ _ (by omega)
theorem takeC_out (M : tw_M) {q : Nat} (h : q < 70) : takeC M q = M q := by
  unfold takeC
  split
  · exact failC_out M h _
  · rw [doneC_out _ _ h, addC_out _ _ h]
theorem tryC_out (M : tw_M) (nd : Int32) {q : Nat} (h : q < 70) : tryC M nd q = M q := by
  unfold tryC
  split
  · rw [tw_set_q _ _ (by omega), putAll_out _ (by omega)]
  · split
    · exact failC_out M h _
    · exact tw_set_q _ _ (by omega)
theorem seeC_out (M : tw_M) {q : Nat} (h : q < 70) : seeC M q = M q := by
  unfold seeC
  split
  · exact tw_set_q _ _ (by omega)
  · rfl
theorem stepC_out (M : tw_M) {q : Nat} (h : q < 70) : stepC M q = M q := by
  unfold stepC
  split
  · rw [seeC_out _ h, takeC_out _ h, tw_set_q _ _ (by omega)]
  · rw [seeC_out _ h, tryC_out _ _ h, tw_set_q _ _ (by omega)]
def keepR (N N' : tw_M) : Prop := (∀ q, q ≠ 88 ∧ (q < 102 ∨ 111 < q) → N' q = N q) ∧ ∀ k, k < 21 ∨ 28 < k → N' 88 k = N 88 k
theorem keepR_rf (N : tw_M) : keepR N N := ⟨fun _ _ => rfl, fun _ _ => rfl⟩
theorem keepR.tr {A B C : tw_M} (h1 : keepR A B) (h2 : keepR B C) : keepR A C := ⟨fun q hq => (h2.1 q hq).trans (h1.1 q hq), fun k hk => (h2.2 k hk).trans (h1.2 k hk)⟩
theorem keepR_set {N N' : tw_M} (h : keepR N N') {q k : Nat} {x : Int32} (hq : (q = 88 ∧ 21 ≤ k ∧ k ≤ 28) ∨ (102 ≤ q ∧ q ≤ 111)) : keepR N (tw_set N' q k x) := by
  refine ⟨fun a ha => ?_, fun b hb => ?_⟩
  · rw [tw_set_q _ _ (by omega)]; exact h.1 a ha
  · rw [show tw_set N' q k x 88 b = N' 88 b by unfold tw_set; exact if_neg (by omega)]; exact h.2 b hb
theorem keepR_fail (N : tw_M) : ∀ n, keepR N (failR N n) := by
  intro n
  induction n with
  | zero => exact keepR_set (keepR_set (keepR_rf N) (by omega)) (by omega)
  | succ n ih =>
    simp only [failR]
    split
    · exact keepR_set (keepR_set (keepR_set (keepR_set (keepR_set (keepR_set (keepR_set (keepR_rf N) (by omega)) (by omega)) (by omega)) (by omega)) (by omega)) (by omega)) (by omega)
    · exact ih
theorem keepR_add (N : tw_M) : keepR N (addR N) := keepR_set (keepR_set (keepR_set (keepR_set (keepR_set (keepR_set (keepR_set (keepR_set (keepR_set (keepR_rf N) (by omega)) (by omega)) (by omega)) (by omega)) (by omega)) (by omega)) (by omega)) (by omega)) (by omega)
theorem keepR_puts (p : Int32) : ∀ (l : List Int32) (N : tw_M), keepR N (putRs 26 p N l) := by
  intro l
  induction l with
  | nil => intro N; exact keepR_rf N
  | cons t ts ih => intro N; exact keepR.tr (keepR_set (keepR_set (keepR_set (keepR_set (keepR_set (keepR_rf N) (by omega)) (by omega)) (by omega)) (by omega)) (by omega)) (ih _)
theorem keepR_step (N : tw_M) : keepR N (stepR N) := by
  have h0 : keepR N (tw_set N 88 24 (N 88 24 + 1)) := keepR_set (keepR_rf N) (by omega)
  unfold stepR
  split
  · refine h0.tr ?_
    generalize tw_set N 88 24 (N 88 24 + 1) = A
    unfold takeR
    split
    · exact (keepR_set (keepR_rf A) (by omega)).tr (keepR_fail _ _)
    · refine (keepR_add A).tr ?_
      generalize addR A = B
      unfold doneR
      split
      · split
        · exact keepR_set (keepR_rf B) (by omega)
        · exact keepR_fail _ _
      · split
        · exact keepR_set (keepR_rf B) (by omega)
        · exact keepR_fail _ _
  · refine h0.tr ?_
    generalize tw_set N 88 24 (N 88 24 + 1) = A
    unfold tryR
    split
    · exact (keepR_set (keepR_set (keepR_rf A) (by omega)) (by omega)).tr (keepR_puts _ _ _)
    · split
      · exact (keepR_set (keepR_rf A) (by omega)).tr (keepR_fail _ _)
      · exact keepR_set (keepR_rf A) (by omega)
theorem DR_step {M N : tw_M} (hD : DR M N) : DR (stepC M) (stepR N) := DR_congr hD ⟨fun q hq => stepC_out M (by omega), fun q h1 h2 => (keepR_step N).1 q (by omega), fun k hk => (keepR_step N).2 k (by omega)⟩
def fndR (N : tw_M) : Prop := ¬ N 88 21 = 0 ∧ N 88 22 = 0 ∧ N 88 23 = 0 ∧ N 88 26 = -1
def itC : Nat → tw_M → tw_M
  | 0, M => M
  | n + 1, M => if M 70 12 = 2 then itC n (stepC M) else M
def itR : Nat → tw_M → tw_M
  | 0, N => N
  | n + 1, N => if N 88 22 = 0 ∧ ¬ (¬ N 88 21 = 0 ∧ N 88 22 = 0 ∧ N 88 23 = 0 ∧ N 88 26 = -1) then itR n (stepR N) else N
theorem on_R {M N : tw_M} (h : StR M N) : M 70 12 = 2 ↔ (N 88 22 = 0 ∧ ¬ (¬ N 88 21 = 0 ∧ N 88 22 = 0 ∧ N 88 23 = 0 ∧ N 88 26 = -1)) := by
  rcases h with ⟨a, g, f⟩ | ⟨a, g, f1, f2⟩ | g
  · obtain ⟨⟨e9, e11, e10, e4, e5, e8, e21, e22⟩, -⟩ := g
    exact ⟨fun _ => ⟨e22, fun q => f ⟨e9.trans q.2.2.1, e4.trans q.2.2.2⟩⟩, fun _ => a⟩
  · obtain ⟨⟨e9, e11, e10, e4, e5, e8, e21, e22⟩, -⟩ := g
    exact ⟨fun q => by rw [a] at q; exact absurd q (by decide), fun q => absurd ⟨by rw [e21]; decide, e22, e9.symm.trans f1, e4.symm.trans f2⟩ q.2⟩
  · obtain ⟨g1, g2, g3, g4, g5, g6, g7⟩ := g
    exact ⟨fun q => by rw [g1] at q; exact absurd q (by decide), fun q => by have := q.1; rw [g6] at this; exact absurd this (by decide)⟩
theorem it_R : ∀ (n : Nat) (M N : tw_M), DR M N → StR M N → DR (itC n M) (itR n N) ∧ StR (itC n M) (itR n N) := by
  intro n
  induction n with
  | zero => intro M N h1 h2; exact ⟨h1, h2⟩
  | succ n ih =>
    intro M N h1 h2
    have ho := on_R h2
    simp only [itC, itR]
    by_cases hc : M 70 12 = 2
    · rw [if_pos hc, if_pos (ho.mp hc)]
      rcases h2 with ⟨a, g, f⟩ | ⟨a, g, f1, f2⟩ | g
      · exact ih _ _ (DR_step h1) (step_R h1 g a f)
      · rw [a] at hc; exact absurd hc (by decide)
      · rw [g.1] at hc; exact absurd hc (by decide)
    · rw [if_neg hc, if_neg (fun q => hc (ho.mpr q))]
      exact ⟨h1, h2⟩
theorem ans_R {M N : tw_M} (h : StR M N) : M 70 12 = if N 88 22 = 0 then (if ¬ N 88 21 = 0 ∧ N 88 22 = 0 ∧ N 88 23 = 0 ∧ N 88 26 = -1 then 0 else 2) else 1 := by
  have ho := on_R h
  rcases h with ⟨a, g, f⟩ | ⟨a, g, f1, f2⟩ | g
  · have q := ho.mp a
    rw [a, if_pos q.1, if_neg q.2]
  · obtain ⟨⟨e9, e11, e10, e4, e5, e8, e21, e22⟩, -⟩ := g
    rw [a, if_pos e22, if_pos ⟨by rw [e21]; decide, e22, e9.symm.trans f1, e4.symm.trans f2⟩]
  · obtain ⟨g1, g2, g3, g4, g5, g6, g7⟩ := g
    rw [g1, g6, if_neg (by decide)]
