/-! What the rules say of a row, on both sides. -/
theorem partB_iff {V : xV} {row : List Nat} {e f t : Nat} : partB V row e f t = true ↔ (V.2.2.2.2.2.2 e = true ∨ t = f + 1) ∧ ∀ i, f ≤ i → i < t → inB V e (row.getD i 0) = true := by
  unfold partB allB
  rw [Bool.and_eq_true, Bool.or_eq_true, beq_iff_eq, List.all_eq_true]
  refine and_congr Iff.rfl ⟨fun h i h1 h2 => h i (List.mem_range'_1.mpr (by omega)), fun h i hi => ?_⟩
  have := List.mem_range'_1.mp hi
  exact h i (by omega) (by omega)
theorem matB_iff {V : xV} {row : List Nat} {p f t : Nat} (hft : f ≤ t) : matB V row p f t = true ↔ (V.2.2.2.2.1 p = 0 ∧ f = t) ∨ (V.2.2.2.2.1 p = 1 ∧ partB V row (2 * p) f t = true) ∨ (V.2.2.2.2.1 p ≠ 0 ∧ V.2.2.2.2.1 p ≠ 1 ∧ ∃ c, f ≤ c ∧ c ≤ t ∧ partB V row (2 * p) f c = true ∧ partB V row (2 * p + 1) c t = true) := by
  unfold matB
  by_cases e0 : V.2.2.2.2.1 p = 0
  · rw [if_pos e0, beq_iff_eq]; simp [e0]
  by_cases e1 : V.2.2.2.2.1 p = 1
  · rw [if_neg e0, if_pos e1]; simp [e1]
  rw [if_neg e0, if_neg e1, List.any_eq_true]
  constructor
  · rintro ⟨c, hc, h⟩
    rw [Bool.and_eq_true] at h
    have := List.mem_range'_1.mp hc
    exact Or.inr (Or.inr ⟨e0, e1, c, by omega, by omega, h.1, h.2⟩)
  · rintro (h | h | ⟨-, -, c, h1, h2, h3, h4⟩)
    · exact absurd h.1 e0
    · exact absurd h.1 e1
    · exact ⟨c, List.mem_range'_1.mpr (by omega), by rw [h3, h4]; rfl⟩
theorem anyD_iff {f : Nat → Bool} : ∀ n, anyD f n = true ↔ ∃ p, p < n ∧ f p = true
  | 0 => by simp [anyD]
  | n + 1 => by
    rw [anyD, Bool.or_eq_true, anyD_iff n]
    constructor
    · rintro (h | ⟨p, h1, h2⟩)
      · exact ⟨n, by omega, h⟩
      · exact ⟨p, by omega, h2⟩
    · rintro ⟨p, h1, h2⟩
      by_cases e : p = n
      · exact Or.inl (e ▸ h2)
      · exact Or.inr ⟨p, by omega, h2⟩
theorem zel_bef {V : xV} {row : List Nat} {c n k t : Nat} {q : Nat → Bool} : zel V true c n k (fun j => row.getD j 0) q t = true ↔ ∃ g, g ≤ t ∧ q g = true ∧ partB V row (zeix true c n k) g t = true := by
  unfold zel
  rw [zext_iff]
  simp only [partB_iff]
theorem zel_beh {V : xV} {row : List Nat} {c n k t : Nat} {q : Nat → Bool} (ht : t ≤ row.length) : zel V false c n k (fun j => row.getD (row.length - 1 - j) 0) q t = true ↔ ∃ g, g ≤ t ∧ q g = true ∧ partB V row (zeix false c n k) (row.length - t) (row.length - g) = true := by
  unfold zel
  rw [zext_iff]
  simp only [partB_iff]
  constructor
  · rintro ⟨g, h1, h2, h3, h4⟩
    refine ⟨g, h1, h2, h3.imp id (by omega), fun i h5 h6 => ?_⟩
    have := h4 (row.length - 1 - i) (by omega) (by omega)
    rwa [show row.length - 1 - (row.length - 1 - i) = i by omega] at this
  · rintro ⟨g, h1, h2, h3, h4⟩
    exact ⟨g, h1, h2, h3.imp id (by omega), fun i h5 h6 => h4 (row.length - 1 - i) (by omega) (by omega)⟩
theorem zq0_iff {V : xV} {fl : Bool} {c t : Nat} : zq0 V fl c t = true ↔ zopn V c = true ∧ (V.2.2.2.1 (zpix fl c) = false ∨ t = 0) := by
  unfold zq0
  rw [Bool.and_eq_true, Bool.or_eq_true, beq_iff_eq, Bool.not_eq_true']
theorem goal_bef {V : xV} {row : List Nat} {c i : Nat} : zgoal V true c (V.2.2.2.2.1 (zpix true c)) (fun j => row.getD j 0) i = (zopn V c && befB V row c i) := by
  rw [Bool.eq_iff_iff, Bool.and_eq_true]
  unfold befB
  rw [anyD_iff]
  simp only [Bool.and_eq_true, Bool.or_eq_true, beq_iff_eq, Bool.not_eq_true']
  unfold zgoal
  have hp : zpix true c = 2 * c := rfl
  rw [hp]
  by_cases e0 : V.2.2.2.2.1 (2 * c) = 0
  · rw [if_pos e0, zq0_iff, hp]
    refine and_congr Iff.rfl ⟨fun h => ⟨i, by omega, h, (matB_iff (Nat.le_refl _)).mpr (Or.inl ⟨e0, rfl⟩)⟩, ?_⟩
    rintro ⟨f, h1, h2, h3⟩
    rcases (matB_iff (by omega)).mp h3 with h | h | h
    · rw [← h.2]; exact h2
    · rw [e0] at h; exact absurd h.1 (by decide)
    · exact absurd e0 h.1
  by_cases e1 : V.2.2.2.2.1 (2 * c) = 1
  · rw [if_neg e0, if_pos e1, zel_bef]
    have hz : zeix true c 1 1 = 2 * (2 * c) := rfl
    rw [hz]
    constructor
    · rintro ⟨g, h1, h2, h3⟩
      rw [zq0_iff] at h2
      exact ⟨h2.1, g, by omega, h2.2, (matB_iff (by omega)).mpr (Or.inr (Or.inl ⟨e1, h3⟩))⟩
    · rintro ⟨h0, g, h1, h2, h3⟩
      refine ⟨g, by omega, zq0_iff.mpr ⟨h0, h2⟩, ?_⟩
      rcases (matB_iff (by omega)).mp h3 with h | h | h
      · exact absurd h.1 e0
      · exact h.2
      · exact absurd e1 h.2.1
  · rw [if_neg e0, if_neg e1, zel_bef]
    have hz : zeix true c 2 1 = 2 * (2 * c) + 1 := rfl
    have hz0 : zeix true c 2 0 = 2 * (2 * c) := rfl
    rw [hz]
    constructor
    · rintro ⟨g, h1, h2, h3⟩
      rw [zel_bef, hz0] at h2
      obtain ⟨f, h4, h5, h6⟩ := h2
      rw [zq0_iff] at h5
      exact ⟨h5.1, f, by omega, h5.2, (matB_iff (by omega)).mpr (Or.inr (Or.inr ⟨e0, e1, g, h4, h1, h6, h3⟩))⟩
    · rintro ⟨h0, f, h1, h2, h3⟩
      rcases (matB_iff (by omega)).mp h3 with h | h | ⟨-, -, g, h4, h5, h6, h7⟩
      · exact absurd h.1 e0
      · exact absurd h.1 e1
      · exact ⟨g, h5, zel_bef.mpr ⟨f, h4, zq0_iff.mpr ⟨h0, h2⟩, by rw [hz0]; exact h6⟩, h7⟩
theorem goal_beh {V : xV} {row : List Nat} {c i : Nat} (hi : i < row.length) : zgoal V false c (V.2.2.2.2.1 (zpix false c)) (fun j => row.getD (row.length - 1 - j) 0) (row.length - 1 - i) = (zopn V c && behB V row c i) := by
  rw [Bool.eq_iff_iff, Bool.and_eq_true]
  unfold behB
  rw [List.any_eq_true]
  simp only [Bool.and_eq_true, Bool.or_eq_true, beq_iff_eq, Bool.not_eq_true', List.mem_range'_1]
  unfold zgoal
  have hp : zpix false c = 2 * c + 1 := rfl
  have hli : row.length - (row.length - 1 - i) = i + 1 := by omega
  rw [hp]
  by_cases e0 : V.2.2.2.2.1 (2 * c + 1) = 0
  · rw [if_pos e0, zq0_iff, hp]
    refine and_congr Iff.rfl ⟨fun h => ⟨i + 1, by omega, h.imp id (by omega), (matB_iff (Nat.le_refl _)).mpr (Or.inl ⟨e0, rfl⟩)⟩, ?_⟩
    rintro ⟨f, h1, h2, h3⟩
    rcases (matB_iff (by omega)).mp h3 with h | h | h
    · exact h2.imp id (by omega)
    · rw [e0] at h; exact absurd h.1 (by decide)
    · exact absurd e0 h.1
  by_cases e1 : V.2.2.2.2.1 (2 * c + 1) = 1
  · rw [if_neg e0, if_pos e1, zel_beh (by omega), hli]
    have hz : zeix false c 1 1 = 2 * (2 * c + 1) := rfl
    rw [hz]
    constructor
    · rintro ⟨g, h1, h2, h3⟩
      rw [zq0_iff] at h2
      exact ⟨h2.1, row.length - g, by omega, h2.2.imp id (by omega), (matB_iff (by omega)).mpr (Or.inr (Or.inl ⟨e1, h3⟩))⟩
    · rintro ⟨h0, g, h1, h2, h3⟩
      refine ⟨row.length - g, by omega, zq0_iff.mpr ⟨h0, h2.imp id (by omega)⟩, ?_⟩
      rw [show row.length - (row.length - g) = g by omega]
      rcases (matB_iff (by omega)).mp h3 with h | h | h
      · exact absurd h.1 e0
      · exact h.2
      · exact absurd e1 h.2.1
  · rw [if_neg e0, if_neg e1, zel_beh (by omega), hli]
    have hz : zeix false c 2 1 = 2 * (2 * c + 1) := rfl
    have hz0 : zeix false c 2 0 = 2 * (2 * c + 1) + 1 := rfl
    rw [hz]
    constructor
    · rintro ⟨g, h1, h2, h3⟩
      rw [zel_beh (by omega), hz0] at h2
      obtain ⟨f, h4, h5, h6⟩ := h2
      rw [zq0_iff] at h5
      exact ⟨h5.1, row.length - f, by omega, h5.2.imp id (by omega), (matB_iff (by omega)).mpr (Or.inr (Or.inr ⟨e0, e1, row.length - g, by omega, by omega, h3, h6⟩))⟩
    · rintro ⟨h0, f, h1, h2, h3⟩
      rcases (matB_iff (by omega)).mp h3 with h | h | ⟨-, -, g, h4, h5, h6, h7⟩
      · exact absurd h.1 e0
      · exact absurd h.1 e1
      · refine ⟨row.length - g, by omega, (zel_beh (by omega)).mpr ⟨row.length - f, by omega, zq0_iff.mpr ⟨h0, h2.imp id (by omega)⟩, ?_⟩, ?_⟩
        · rw [hz0, show row.length - (row.length - g) = g by omega, show row.length - (row.length - f) = f by omega]; exact h7
        · rw [show row.length - (row.length - g) = g by omega]; exact h6
/-- class and reference hold the same rules -/
def zWV (W : xW) (V : xV) : Prop := W.1 = V.1 ∧ W.2.1 = V.2.1 ∧ W.2.2.1 = V.2.2.1 ∧ zEnc true W.2.2.2.1 V ∧ zEnc false W.2.2.2.2 V ∧ ∀ r, V.2.2.1 r ≤ 2
theorem sbef_run {W : xW} {row : List Nat} : ∀ p, p ≤ row.length → sbef W (row.take p) = zrun W.2.2.2.1 (fun j => row.getD j 0) p
  | 0, _ => rfl
  | p + 1, h => by rw [take_snoc 0 (by omega), sbef_snoc, sbef_run p (by omega), zrun]
theorem pgoal_tb {c i : Nat} : (pgoal c).testBit i = decide (i = 3 * c + 2) := by
  unfold pgoal
  rw [Nat.shiftLeft_eq, Nat.one_mul, Nat.testBit_two_pow]
  simp [eq_comm]
theorem rgoal_tb {r i : Nat} : ∀ n, (rgoal r n).testBit i = true ↔ ∃ k, k < n ∧ i = 3 * (2 * r + k) + 2
  | 0 => by simp [rgoal]
  | n + 1 => by
    rw [rgoal, Nat.testBit_or, Bool.or_eq_true, rgoal_tb n, pgoal_tb, decide_eq_true_eq]
    constructor
    · rintro (⟨k, h1, h2⟩ | h)
      · exact ⟨k, by omega, h2⟩
      · exact ⟨n, by omega, h⟩
    · rintro ⟨k, h1, h2⟩
      by_cases e : k = n
      · exact Or.inr (e ▸ h2)
      · exact Or.inl ⟨k, by omega, h2⟩
theorem rgoal_ne {m r n : Nat} : m &&& rgoal r n ≠ 0 ↔ ∃ k, k < n ∧ m.testBit (3 * (2 * r + k) + 2) = true := by
  constructor
  · intro h
    obtain ⟨i, hi⟩ := Nat.exists_testBit_of_ne_zero h
    rw [Nat.testBit_and, Bool.and_eq_true, rgoal_tb] at hi
    obtain ⟨h1, k, h2, h3⟩ := hi
    exact ⟨k, h2, h3 ▸ h1⟩
  · rintro ⟨k, h1, h2⟩ h
    have : (m &&& rgoal r n).testBit (3 * (2 * r + k) + 2) = true := by
      rw [Nat.testBit_and, h2, (rgoal_tb n).mpr ⟨k, h1, rfl⟩]; rfl
    rw [h] at this
    simp at this
theorem hold_some {W : xW} {V : xV} {row : List Nat} {i r : Nat} (H : zWV W V) (hi : i < row.length) : decide ((sbef W (row.take i) &&& zrun W.2.2.2.2 (fun j => row.getD (row.length - 1 - j) 0) (row.length - 1 - i)) &&& rgoal r (V.2.2.1 r) ≠ 0) = someB V row r i := by
  obtain ⟨-, -, -, h4, h5, h6⟩ := H
  rw [Bool.eq_iff_iff, decide_eq_true_eq, rgoal_ne]
  unfold someB
  rw [List.any_eq_true]
  have key : ∀ k, k < V.2.2.1 r → ((sbef W (row.take i) &&& zrun W.2.2.2.2 (fun j => row.getD (row.length - 1 - j) 0) (row.length - 1 - i)).testBit (3 * (2 * r + k) + 2) = holdB V row (2 * r + k) i) := by
    intro k hk
    have := h6 r
    rw [Nat.testBit_and, sbef_run i (by omega), h4.goal, h5.goal, goal_bef, goal_beh hi, show zopn V (2 * r + k) = true from by unfold zopn; rw [show (2 * r + k) % 2 = k by omega, show (2 * r + k) / 2 = r by omega, decide_eq_true_eq]; exact hk]
    rfl
  constructor
  · rintro ⟨k, h1, h2⟩
    exact ⟨k, List.mem_range'_1.mpr (by omega), (key k h1) ▸ h2⟩
  · rintro ⟨k, h1, h2⟩
    have := List.mem_range'_1.mp h1
    exact ⟨k, by omega, by rw [key k (by omega)]; exact h2⟩
theorem broken_bit {W : xW} {V : xV} {row : List Nat} {i r : Nat} (H : zWV W V) (hi : i < row.length) : (rbroken W.2.1 W.1 W.2.2.1 (row.getD i 0) (sbef W (row.take i)) (zrun W.2.2.2.2 (fun j => row.getD (row.length - 1 - j) 0) (row.length - 1 - i))).testBit r = (decide (r < V.2.1.length) && !keptAt V row r i) := by
  have hs := hold_some (r := r) H hi
  obtain ⟨h1, h2, h3, -⟩ := H
  unfold rbroken rhold
  rw [Nat.testBit_or, clr_bit, Nat.testBit_and, msk_bit, msk_bit, msk_bit, h1, h2, h3, hs]
  unfold rask rbar rrival rasks rbars keptAt wrongB ownB
  cases decide (r < V.2.1.length)
  · simp
  generalize someB V row r i = S
  cases hq : (row.getD i 0 == (V.2.1.getD r (0, 0)).2) <;> cases hr : ((V.1.getD (row.getD i 0) (0, 0)).1 == (V.1.getD (V.2.1.getD r (0, 0)).2 (0, 0)).1) <;> cases S <;> simp
theorem brk_bit {W : xW} {V : xV} {row : List Nat} {r : Nat} (H : zWV W V) : ∀ p b, p ≤ row.length → (brk W row p b (zrun W.2.2.2.2 (fun j => row.getD (row.length - 1 - j) 0) (row.length - p))).testBit r = (b.testBit r || (decide (r < V.2.1.length) && !(List.range' 0 p).all (keptAt V row r)))
  | 0, b, _ => by simp [brk]
  | p + 1, b, hp => by
    have e : row.length - (p + 1) = row.length - 1 - p := by omega
    rw [brk, e]
    have := brk_bit (row := row) (r := r) H p (b ||| rbroken W.2.1 W.1 W.2.2.1 (row.getD p 0) (sbef W (row.take p)) (zrun W.2.2.2.2 (fun j => row.getD (row.length - 1 - j) 0) (row.length - 1 - p))) (by omega)
    rw [show row.length - p = row.length - 1 - p + 1 by omega, zrun, show row.length - 1 - (row.length - 1 - p) = p by omega] at this
    rw [this, Nat.testBit_or, broken_bit H (by omega), List.range'_1_concat, List.all_append]
    simp only [Nat.zero_add, List.all_cons, List.all_nil, Bool.and_true]
    cases b.testBit r <;> cases decide (r < V.2.1.length) <;> cases (List.range' 0 p).all (keptAt V row r) <;> cases keptAt V row r p <;> rfl
theorem brkn_bit {W : xW} {V : xV} (row : List Nat) (r : Nat) (H : zWV W V) : (brkn W row).testBit r = (decide (r < V.2.1.length) && !keptB V row r) := by
  have := brk_bit (row := row) (r := r) H row.length 0 (Nat.le_refl _)
  rw [Nat.sub_self] at this
  unfold brkn
  show (brk W row row.length 0 (zrun W.2.2.2.2 (fun j => row.getD (row.length - 1 - j) 0) 0)).testBit r = _
  rw [this, Nat.zero_testBit, Bool.false_or]
  rfl
theorem brkn_zero {W : xW} {V : xV} (row : List Nat) (H : zWV W V) : brkn W row = 0 ↔ keepsB V row = true := by
  unfold keepsB
  rw [List.all_eq_true]
  constructor
  · intro h r hr
    have h2 := brkn_bit row r H
    have h3 := List.mem_range'_1.mp hr
    rw [h, Nat.zero_testBit, decide_eq_true (by omega), Bool.true_and] at h2
    simpa using h2.symm
  · intro h
    apply Nat.eq_of_testBit_eq
    intro r
    rw [brkn_bit row r H, Nat.zero_testBit]
    by_cases hr : r < V.2.1.length
    · rw [h r (List.mem_range'_1.mpr (by omega))]; simp
    · rw [decide_eq_false hr, Bool.false_and]
