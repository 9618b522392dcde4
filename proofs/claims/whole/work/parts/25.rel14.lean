abbrev cy_R : Type := (Nat × (Nat → Nat) × Nat) ⊕ (Nat → Int32)
def cy_then (r : cy_R) (f : (Nat → Int32) → cy_R) : cy_R := match r with
  | .inl x => .inl x
  | .inr mz => f mz
def cy_stp (V : (Nat → Int32) → Nat → cy_R) (n : Nat) (P : Nat → Nat) (mz : Nat → Int32) (s : Nat) : cy_R := if mz s = 1 then .inl (n, P, s) else if mz s = 0 then V mz s else .inr mz
def goP (V : (Nat → Int32) → Nat → cy_R) (n : Nat) (P : Nat → Nat) : List Int32 → (Nat → Int32) → cy_R
  | [], mz => .inr mz
  | t :: ts, mz => if t.toInt < 16 then goP V n P ts mz else cy_then (cy_stp V n P mz (t - 16).toInt.toNat) (goP V n P ts)
def goM (V : (Nat → Int32) → Nat → cy_R) (n : Nat) (P : Nat → Nat) : List (List Int32) → (Nat → Int32) → cy_R
  | [], mz => .inr mz
  | l :: ls, mz => cy_then (goP V n P l mz) (goM V n P ls)
def cy_ext (n : Nat) (P : Nat → Nat) (s : Nat) : Nat → Nat := fun i => if i = n then s else P i
def vis (G : Nat → List (List Int32)) : Nat → Nat → (Nat → Nat) → (Nat → Int32) → Nat → cy_R
  | 0, _, _, mz, _ => .inr mz
  | f + 1, n, P, mz, s => cy_then (goM (vis G f (n + 1) (cy_ext n P s)) (n + 1) (cy_ext n P s) (G s) (upd mz s 1)) (fun mz' => .inr (upd mz' s 2))
def cy_top (G : Nat → List (List Int32)) : Nat → Nat → (Nat → Int32) → cy_R
  | 0, _, mz => .inr mz
  | r + 1, c, mz => cy_then (cy_stp (vis G 12 0 (fun _ => 0)) 0 (fun _ => 0) mz c) (cy_top G r (c + 1))
def cn (mz : Nat → Int32) : Nat → Nat
  | 0 => 0
  | n + 1 => cn mz n + (if mz n = 0 then 1 else 0)
theorem cn_upd_le {mz : Nat → Int32} {s : Nat} {x : Int32} (hx : ¬ x = 0) : ∀ n, cn (upd mz s x) n ≤ cn mz n := by
  intro n
  induction n with
  | zero => exact Nat.le_refl _
  | succ n ih =>
    simp only [cn]
    by_cases e : n = s
    · have h1 : upd mz s x n = x := by simp [upd, e]
      rw [h1, if_neg hx]
      omega
    · have h1 : upd mz s x n = mz n := by simp [upd, e]
      rw [h1]
      omega
theorem cn_upd_lt {mz : Nat → Int32} {s : Nat} {x : Int32} (hx : ¬ x = 0) (h0 : mz s = 0) : ∀ n, s < n → cn (upd mz s x) n + 1 ≤ cn mz n := by
  intro n
  induction n with
  | zero => intro h; omega
  | succ n ih =>
    intro h
    simp only [cn]
    by_cases e : n = s
    · have h1 : upd mz s x n = x := by simp [upd, e]
      have h2 := cn_upd_le (mz := mz) (s := s) hx n
      rw [h1, if_neg hx, e, if_pos h0]
      rw [e] at h2
      omega
    · have h1 : upd mz s x n = mz n := by simp [upd, e]
      have h2 := ih (by omega)
      rw [h1]
      omega
theorem cn_pos {mz : Nat → Int32} {s : Nat} (h0 : mz s = 0) : ∀ n, s < n → 1 ≤ cn mz n := by
  intro n
  induction n with
  | zero => intro h; omega
  | succ n ih =>
    intro h
    simp only [cn]
    by_cases e : n = s
    · rw [e, if_pos h0]; omega
    · have := ih (by omega); omega
def cyJ (n : Nat) (P : Nat → Nat) (mz : Nat → Int32) : Prop := (∀ x, mz x = 1 ↔ ∃ i, i < n ∧ P i = x) ∧ (∀ i j, i < n → j < n → P i = P j → i = j) ∧ n + cn mz 12 ≤ 12
def cyGood (n : Nat) (P : Nat → Nat) (mz : Nat → Int32) (r : cy_R) : Prop := match r with
  | .inl (n', P', s) => (∃ i, i < n' ∧ P' i = s) ∧ (∀ i j, i < n' → j < n' → P' i = P' j → i = j) ∧ n' ≤ 12
  | .inr mz' => cyJ n P mz' ∧ cn mz' 12 ≤ cn mz 12
def cyIn (b : Nat) (l : List Int32) : Prop := ∀ t ∈ l, ¬ t.toInt < 16 → (t - 16).toInt.toNat < b
theorem stp_J {V : (Nat → Int32) → Nat → cy_R} {n : Nat} {P : Nat → Nat} {mz : Nat → Int32} {s : Nat} (hJ : cyJ n P mz) (hV : mz s = 0 → cyGood n P mz (V mz s)) : cyGood n P mz (cy_stp V n P mz s) := by
  unfold cy_stp
  by_cases h1 : mz s = 1
  · rw [if_pos h1]
    obtain ⟨a, b, c⟩ := hJ
    exact ⟨(a s).mp h1, b, by omega⟩
  · rw [if_neg h1]
    by_cases h0 : mz s = 0
    · rw [if_pos h0]; exact hV h0
    · rw [if_neg h0]; exact ⟨hJ, Nat.le_refl _⟩
theorem then_J {n : Nat} {P : Nat → Nat} {mz : Nat → Int32} {r : cy_R} {F : (Nat → Int32) → cy_R} (h : cyGood n P mz r) (hF : ∀ mz', cyJ n P mz' → cn mz' 12 ≤ cn mz 12 → cyGood n P mz' (F mz')) : cyGood n P mz (cy_then r F) := by
  cases r with
  | inl x => exact h
  | inr mz' =>
    obtain ⟨h1, h2⟩ := h
    have h3 := hF mz' h1 h2
    show cyGood n P mz (F mz')
    cases hr : F mz' with
    | inl x => rw [hr] at h3; exact h3
    | inr mz2 => rw [hr] at h3; exact ⟨h3.1, Nat.le_trans h3.2 h2⟩
theorem goP_J {V : (Nat → Int32) → Nat → cy_R} {n : Nat} {P : Nat → Nat} {c0 : Nat} (hV : ∀ mz s, cyJ n P mz → cn mz 12 ≤ c0 → mz s = 0 → s < 12 → cyGood n P mz (V mz s)) : ∀ (l : List Int32) (mz : Nat → Int32), cyIn 12 l → cyJ n P mz → cn mz 12 ≤ c0 → cyGood n P mz (goP V n P l mz) := by
  intro l
  induction l with
  | nil => intro mz _ hJ _; exact ⟨hJ, Nat.le_refl _⟩
  | cons t ts ih =>
    intro mz hin hJ hc
    have hin2 : cyIn 12 ts := fun x hx => hin x (List.mem_cons_of_mem _ hx)
    simp only [goP]
    by_cases ht : t.toInt < 16
    · rw [if_pos ht]; exact ih mz hin2 hJ hc
    · rw [if_neg ht]
      have hs := hin t List.mem_cons_self ht
      exact then_J (stp_J hJ (fun h0 => hV mz _ hJ hc h0 hs)) (fun mz' hJ' hc' => ih mz' hin2 hJ' (by omega))
theorem goM_J {V : (Nat → Int32) → Nat → cy_R} {n : Nat} {P : Nat → Nat} {c0 : Nat} (hV : ∀ mz s, cyJ n P mz → cn mz 12 ≤ c0 → mz s = 0 → s < 12 → cyGood n P mz (V mz s)) : ∀ (ls : List (List Int32)) (mz : Nat → Int32), (∀ l ∈ ls, cyIn 12 l) → cyJ n P mz → cn mz 12 ≤ c0 → cyGood n P mz (goM V n P ls mz) := by
  intro ls
  induction ls with
  | nil => intro mz _ hJ _; exact ⟨hJ, Nat.le_refl _⟩
  | cons l ls ih =>
    intro mz hin hJ hc
    simp only [goM]
    exact then_J (goP_J hV l mz (hin l List.mem_cons_self) hJ hc) (fun mz' hJ' hc' => ih mz' (fun x hx => hin x (List.mem_cons_of_mem _ hx)) hJ' (by omega))
theorem ext_J {n : Nat} {P : Nat → Nat} {mz : Nat → Int32} {s : Nat} (hJ : cyJ n P mz) (h0 : mz s = 0) (hs : s < 12) : cyJ (n + 1) (cy_ext n P s) (upd mz s 1) := by
  obtain ⟨a, b, c⟩ := hJ
  have hns : ∀ i, i < n → ¬ P i = s := fun i hi e => by
    have := (a s).mpr ⟨i, hi, e⟩
    rw [h0] at this
    exact absurd this (by decide)
  have hlt := cn_upd_lt (mz := mz) (s := s) (x := 1) (by decide) h0 12 hs
  refine ⟨fun x => ?_, fun i j hi hj e => ?_, by omega⟩
  · by_cases e : x = s
    · subst e
      constructor
      · intro _; exact ⟨n, by omega, by simp [cy_ext]⟩
      · intro _; simp [upd]
    · have h1 : upd mz s 1 x = mz x := by simp [upd, e]
      rw [h1, a x]
      constructor
      · rintro ⟨i, hi, h⟩; exact ⟨i, by omega, by simp [cy_ext, show ¬ i = n by omega, h]⟩
      · rintro ⟨i, hi, h⟩
        by_cases ei : i = n
        · simp [cy_ext, ei] at h; exact absurd h.symm e
        · simp [cy_ext, ei] at h; exact ⟨i, by omega, h⟩
  · by_cases ei : i = n
    · by_cases ej : j = n
      · omega
      · simp [cy_ext, ei, ej] at e; exact absurd e.symm (hns j (by omega))
    · by_cases ej : j = n
      · simp [cy_ext, ei, ej] at e; exact absurd e (hns i (by omega))
      · simp [cy_ext, ei, ej] at e; exact b i j (by omega) (by omega) e
theorem back_J {n : Nat} {P : Nat → Nat} {mz mz' : Nat → Int32} {s : Nat} (hJ : cyJ n P mz) (h0 : mz s = 0) (hs : s < 12) (hJ' : cyJ (n + 1) (cy_ext n P s) mz') (hc : cn mz' 12 ≤ cn (upd mz s 1) 12) : cyJ n P (upd mz' s 2) ∧ cn (upd mz' s 2) 12 ≤ cn mz 12 := by
  obtain ⟨a, b, c⟩ := hJ
  obtain ⟨a', b', c'⟩ := hJ'
  have hns : ∀ i, i < n → ¬ P i = s := fun i hi e => by
    have := (a s).mpr ⟨i, hi, e⟩
    rw [h0] at this
    exact absurd this (by decide)
  have h2 := cn_upd_le (mz := mz') (s := s) (x := 2) (by decide) 12
  have h1 := cn_upd_le (mz := mz) (s := s) (x := 1) (by decide) 12
  refine ⟨⟨fun x => ?_, b, by omega⟩, by omega⟩
  by_cases e : x = s
  · subst e
    constructor
    · intro h
      simp [upd] at h
    · rintro ⟨i, hi, h⟩; exact absurd h (hns i hi)
  · have h3 : upd mz' s 2 x = mz' x := by simp [upd, e]
    rw [h3, a' x]
    constructor
    · rintro ⟨i, hi, h⟩
      by_cases ei : i = n
      · simp [cy_ext, ei] at h; exact absurd h.symm e
      · simp [cy_ext, ei] at h; exact ⟨i, by omega, h⟩
    · rintro ⟨i, hi, h⟩; exact ⟨i, by omega, by simp [cy_ext, show ¬ i = n by omega, h]⟩
theorem vis_J {G : Nat → List (List Int32)} (hG : ∀ s, s < 12 → ∀ l ∈ G s, cyIn 12 l) : ∀ (f n : Nat) (P : Nat → Nat) (mz : Nat → Int32) (s : Nat), cyJ n P mz → mz s = 0 → s < 12 → cyGood n P mz (vis G f n P mz s) := by
  intro f
  induction f with
  | zero => intro n P mz s hJ _ _; exact ⟨hJ, Nat.le_refl _⟩
  | succ f ih =>
    intro n P mz s hJ h0 hs
    simp only [vis]
    have hJ1 := ext_J hJ h0 hs
    have h1 := goM_J (V := vis G f (n + 1) (cy_ext n P s)) (n := n + 1) (P := cy_ext n P s) (c0 := cn (upd mz s 1) 12) (fun mz' s' hJ' _ h0' hs' => ih (n + 1) (cy_ext n P s) mz' s' hJ' h0' hs') (G s) (upd mz s 1) (hG s hs) hJ1 (Nat.le_refl _)
    cases hr : goM (vis G f (n + 1) (cy_ext n P s)) (n + 1) (cy_ext n P s) (G s) (upd mz s 1) with
    | inl x => rw [hr] at h1; exact h1
    | inr mz' => rw [hr] at h1; exact back_J hJ h0 hs h1.1 h1.2
def ul (f : Nat → Int32) : Nat → Nat → List Int32
  | _, 0 => []
  | i, n + 1 => f i :: ul f (i + 1) n
def gl (M : tw_M) (c : Nat) : Nat → Nat → List (List Int32)
  | _, 0 => []
  | j, n + 1 => ul (M (25 + (M (8 + c) j).toInt.toNat)) 0 (M 65 (M (8 + c) j).toInt.toNat).toInt.toNat :: gl M c (j + 1) n
def Gr (M : tw_M) (c : Nat) : List (List Int32) := gl M c 0 (M 20 c).toInt.toNat
theorem ul_mem {f : Nat → Int32} {t : Int32} : ∀ {n i : Nat}, t ∈ ul f i n → ∃ k, i ≤ k ∧ k < i + n ∧ t = f k := by
  intro n
  induction n with
  | zero => intro i h; cases h
  | succ n ih =>
    intro i h
    rcases List.mem_cons.mp h with rfl | h
    · exact ⟨i, by omega, by omega, rfl⟩
    · obtain ⟨k, h1, h2, h3⟩ := ih h
      exact ⟨k, by omega, by omega, h3⟩
theorem gl_mem {M : tw_M} {c : Nat} {l : List Int32} : ∀ {n j : Nat}, l ∈ gl M c j n → ∃ k, j ≤ k ∧ k < j + n ∧ l = ul (M (25 + (M (8 + c) k).toInt.toNat)) 0 (M 65 (M (8 + c) k).toInt.toNat).toInt.toNat := by
  intro n
  induction n with
  | zero => intro j h; cases h
  | succ n ih =>
    intro j h
    rcases List.mem_cons.mp h with rfl | h
    · exact ⟨j, by omega, by omega, rfl⟩
    · obtain ⟨k, h1, h2, h3⟩ := ih h
      exact ⟨k, by omega, by omega, h3⟩
theorem Gr_in {M N : tw_M} (hD : DR M N) : ∀ s, s < 12 → ∀ l ∈ Gr M s, cyIn 12 l := by
  intro s hs l hl t ht h16
  obtain ⟨k, -, hk, rfl⟩ := gl_mem hl
  obtain ⟨i, -, hi, rfl⟩ := ul_mem ht
  have hI := hD.1
  have h20 := hI.2.2.2.2.1 s hs
  have hsn : (s : Int) < (M 1 8).toInt := by
    apply Int.lt_of_not_ge
    intro hge
    have := hD.2.2.2.2.2.1 s (by omega)
    rw [this] at hk
    have z0 : (0 : Int32).toInt = 0 := by decide
    omega
  have hm := hD.2.2.2.2.2.2.2.1 s k hsn (by omega)
  have hI14 := hI.2.2.1
  have h65 := hI.2.2.2.2.2 (M (8 + s) k).toInt.toNat (by omega)
  have htk := hD.2.2.2.2.2.2.2.2.1 (M (8 + s) k).toInt.toNat i (by omega) (by omega)
  have z16 : (16 : Int32).toInt = 16 := by decide
  have hI5 := hI.1
  have hI8 := hI.2.1
  rcases htk with q | q
  · omega
  · rw [tw_subI (by omega), z16]; omega
