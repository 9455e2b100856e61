/-! Bits of natural numbers under nI. -/
theorem nb_and (a b : Nat) : nI a &&& nI b = nI (a &&& b) := by
  apply Int32.toBitVec_inj.1
  show BitVec.ofNat 32 a &&& BitVec.ofNat 32 b = BitVec.ofNat 32 (a &&& b)
  apply BitVec.eq_of_getLsbD_eq
  intro i hi
  simp [hi]
theorem nb_or (a b : Nat) : nI a ||| nI b = nI (a ||| b) := by
  apply Int32.toBitVec_inj.1
  show BitVec.ofNat 32 a ||| BitVec.ofNat 32 b = BitVec.ofNat 32 (a ||| b)
  apply BitVec.eq_of_getLsbD_eq
  intro i hi
  simp [hi]
/-- a without the bits of b -/
def clr (a b : Nat) : Nat := a ^^^ (a &&& b)
theorem clr_bit (a b i : Nat) : (clr a b).testBit i = (a.testBit i && !b.testBit i) := by
  unfold clr
  rw [Nat.testBit_xor, Nat.testBit_and]
  cases a.testBit i <;> cases b.testBit i <;> rfl
theorem nb_clr (a b : Nat) : nI a &&& (nI b ^^^ (-1)) = nI (clr a b) := by
  apply Int32.toBitVec_inj.1
  show BitVec.ofNat 32 a &&& (BitVec.ofNat 32 b ^^^ BitVec.allOnes 32) = BitVec.ofNat 32 (clr a b)
  apply BitVec.eq_of_getLsbD_eq
  intro i hi
  rw [BitVec.getLsbD_and, BitVec.getLsbD_xor, BitVec.getLsbD_allOnes, BitVec.getLsbD_ofNat, BitVec.getLsbD_ofNat, BitVec.getLsbD_ofNat, clr_bit]
  simp only [hi, decide_true, Bool.true_and]
  cases a.testBit i <;> cases b.testBit i <;> rfl
theorem nb_cnt : ∀ j, j < 32 → ((nI j &&& 31).toBitVec.smod 32).toNat = j := by decide +kernel
theorem nb_shl {a k : Nat} (hk : k < 32) (h : a * 2 ^ k < 2 ^ 32) : nI a <<< (nI k &&& 31) = nI (a <<< k) := by
  rw [pk_shlN _ k (nb_cnt k hk) h, Nat.shiftLeft_eq]
theorem nb_shr {a k : Nat} (hk : k < 32) (h : a < 2 ^ 31) : nI a >>> (nI k &&& 31) = nI (a >>> k) := by
  rw [pk_shrN h _ k (nb_cnt k hk), Nat.shiftRight_eq_div_pow]
theorem nb_one {s i : Nat} : ((s >>> i) &&& 1 = 1) ↔ s.testBit i = true := by
  rw [Nat.and_one_is_mod, Nat.shiftRight_eq_div_pow, Nat.testBit_eq_decide_div_mod_eq, decide_eq_true_eq]
def bI (b : Bool) : Int32 := if b then 1 else 0
theorem bI_01 (b : Bool) : bI b = 0 ∨ bI b = 1 := by cases b <;> simp [bI]
theorem bI_0 {b : Bool} : bI b = 0 ↔ b = false := by cases b <;> simp [bI]
theorem bI_fits (b : Bool) : fits .boolean (.int (bI b)) = true := by cases b <;> decide
theorem bI_nar (b : Bool) : narrow .boolean (.int (bI b)) = .int (bI b) := by cases b <;> decide
theorem clr_lt {a b k : Nat} (h : a < 2 ^ k) : clr a b < 2 ^ k := by
  unfold clr
  exact Nat.xor_lt_two_pow h (Nat.lt_of_le_of_lt Nat.and_le_left h)
theorem and_ltr {a b k : Nat} (h : b < 2 ^ k) : a &&& b < 2 ^ k := Nat.lt_of_le_of_lt Nat.and_le_right h
theorem and_ltl {a b k : Nat} (h : a < 2 ^ k) : a &&& b < 2 ^ k := Nat.lt_of_le_of_lt Nat.and_le_left h
theorem shl_lt {a k j : Nat} (h : a < 2 ^ k) : a <<< j < 2 ^ (k + j) := by
  rw [Nat.shiftLeft_eq, Nat.pow_add]
  exact Nat.mul_lt_mul_of_pos_right h (Nat.two_pow_pos j)
theorem shr_lt {a k j : Nat} (h : a < 2 ^ k) : a >>> j < 2 ^ k := Nat.lt_of_le_of_lt (by rw [Nat.shiftRight_eq_div_pow]; exact Nat.div_le_self _ _) h
/-! the patterns' numbers -/
def pgoal (c : Nat) : Nat := 1 <<< (3 * c + 2)
def pfield (c : Nat) : Nat := 7 <<< (3 * c)
def plow (b c : Nat) : Nat := clr b (pfield c) ||| ((b &&& pfield c) >>> 1)
def pskip1 (st s : Nat) : Nat := s ||| ((s &&& st) <<< 1)
def pskip (st s : Nat) : Nat := pskip1 st (pskip1 st s)
def pnext (hv st ls s : Nat) : Nat := pskip st ((((s &&& hv) &&& st) ||| (clr (s &&& hv) st <<< 1)) ||| ls)
theorem pgoal_lt {c : Nat} (hc : c < 8) : pgoal c < 2 ^ 24 := by
  have : ∀ c, c < 8 → pgoal c < 2 ^ 24 := by decide +kernel
  exact this c hc
theorem pfield_lt {c : Nat} (hc : c < 8) : pfield c < 2 ^ 24 := by
  have : ∀ c, c < 8 → pfield c < 2 ^ 24 := by decide +kernel
  exact this c hc
theorem plow_lt {b c : Nat} (hb : b < 2 ^ 24) : plow b c < 2 ^ 24 := Nat.or_lt_two_pow (clr_lt hb) (shr_lt (and_ltl hb))
theorem pskip1_lt {st s : Nat} (h1 : st < 2 ^ 24) (h2 : s < 2 ^ 25) : pskip1 st s < 2 ^ 25 := Nat.or_lt_two_pow h2 (shl_lt (k := 24) (j := 1) (and_ltr h1))
theorem pskip_lt {st s : Nat} (h1 : st < 2 ^ 24) (h2 : s < 2 ^ 25) : pskip st s < 2 ^ 25 := pskip1_lt h1 (pskip1_lt h1 h2)
theorem pnext_in {hv st ls s : Nat} (h1 : hv < 2 ^ 24) (h3 : ls < 2 ^ 24) : (((s &&& hv) &&& st) ||| (clr (s &&& hv) st <<< 1)) ||| ls < 2 ^ 25 :=
  Nat.or_lt_two_pow (Nat.or_lt_two_pow (and_ltl (Nat.lt_of_lt_of_le (and_ltr h1) (by decide))) (shl_lt (k := 24) (j := 1) (clr_lt (and_ltr h1)))) (Nat.lt_of_lt_of_le h3 (by decide))
theorem pnext_lt {hv st ls s : Nat} (h1 : hv < 2 ^ 24) (h2 : st < 2 ^ 24) (h3 : ls < 2 ^ 24) : pnext hv st ls s < 2 ^ 25 := pskip_lt h2 (pnext_in h1 h3)
