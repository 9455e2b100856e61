/-! Alignments: the class meets them in another order than the reference. -/
def zpre (W : xW) (w : List Nat) (tk : Nat → Nat → Bool) (me : Nat → Bool) : Nat → List Nat → Nat → Nat → List (List Nat)
  | 0, row, ld, ud => if ld = w.length ∧ me ud = true then [row] else []
  | f + 1, row, ld, ud => (if ld = w.length ∧ me ud = true then [row] else []) ++ (List.range W.1.length).flatMap (fun p => if fitL W w row ld p && fitU tk W ud p then zpre W w tk me f (row ++ [p]) (if lowp W p = 0 then ld else ld + 1) (if upp W p = 0 then ud else ud + 1) else [])
theorem fold_flat {σ α β : Type} {f : σ → β → σ} {g : α → List β} : ∀ (l : List α) (s : σ), (l.flatMap g).foldl f s = l.foldl (fun s x => (g x).foldl f s) s
  | [], s => rfl
  | x :: l, s => by rw [List.flatMap_cons, List.foldl_append, fold_flat l, List.foldl_cons]
theorem fold_dn {σ β : Type} {dn : σ → Bool} {mt : σ → β → σ} {s : σ} (h : dn s = true) : ∀ l : List β, l.foldl (fun s r => if dn s then s else mt s r) s = s
  | [] => rfl
  | x :: l => by rw [List.foldl_cons, if_pos h, fold_dn h l]
theorem fold_ext {σ α : Type} {f g : σ → α → σ} : ∀ (l : List α) (s : σ), (∀ s x, f s x = g s x) → l.foldl f s = l.foldl g s
  | [], _, _ => rfl
  | x :: l, s, h => by rw [List.foldl_cons, List.foldl_cons, h, fold_ext l _ h]
theorem sExt_pre {σ : Type} {W : xW} {w : List Nat} {tk : Nat → Nat → Bool} {me : Nat → Bool} {mt : σ → List Nat → σ} {dn : σ → Bool} : ∀ (f : Nat) (row : List Nat) (ld ud : Nat) (s : σ), dn s = false → sExt W w tk me mt dn f row ld ud s = (zpre W w tk me f row ld ud).foldl (fun s r => if dn s then s else mt s r) s
  | 0, row, ld, ud, s, h => by
    unfold sExt zpre
    split
    · simp [h]
    · rfl
  | f + 1, row, ld, ud, s, h => by
    unfold sExt zpre
    rw [List.foldl_append, fold_flat]
    have e : (if ld = w.length ∧ me ud = true then [row] else []).foldl (fun s r => if dn s then s else mt s r) s = if ld = w.length ∧ me ud = true then mt s row else s := by
      split
      · simp [h]
      · rfl
    rw [e]
    refine fold_ext _ _ (fun s p => ?_)
    by_cases hs : dn s = true
    · rw [if_pos hs, fold_dn hs]
    · rw [if_neg hs]
      split
      · exact sExt_pre f _ _ _ s (by simpa using hs)
      · rfl
theorem fitL_wv {W : xW} {V : xV} (h : W.1 = V.1) (w row : List Nat) (ld p : Nat) : fitL W w row ld p = fitL (wv V) w row ld p := by
  unfold fitL lowp
  rw [h]; rfl
theorem fitU_wv {W : xW} {V : xV} (h : W.1 = V.1) (tk : Nat → Nat → Bool) (ud p : Nat) : fitU tk W ud p = fitU tk (wv V) ud p := by
  unfold fitU upp
  rw [h]; rfl
theorem low_wv {W : xW} {V : xV} (h : W.1 = V.1) (p : Nat) : lowp W p = lowp (wv V) p := by
  unfold lowp
  rw [h]; rfl
theorem up_wv {W : xW} {V : xV} (h : W.1 = V.1) (p : Nat) : upp W p = upp (wv V) p := by
  unfold upp
  rw [h]; rfl
theorem pre_post {W : xW} {V : xV} {w u : List Nat} {gv : Bool} {a : List Nat} (h : W.1 = V.1) : ∀ (f : Nat) (row : List Nat), a ∈ zpre W w (tkG gv u) (meG gv u) f row (lowc V row) (upc V row) ↔ a ∈ post V w u gv (f + 1) row
  | 0, row => by
    have hf : (lowc V row = w.length ∧ meG gv u (upc V row) = true) ↔ fullR V w u gv row = true := by unfold fullR; rw [Bool.and_eq_true, beq_iff_eq]
    unfold zpre post
    simp only [hf]
    have : (List.range' 0 V.1.length).flatMap (fun p => if okR V w u gv row p = true then post V w u gv 0 (row ++ [p]) else []) = [] := by
      rw [List.flatMap_eq_nil_iff]
      intro x _
      split
      · rfl
      · rfl
    rw [this, List.nil_append]
  | f + 1, row => by
    have hf : (lowc V row = w.length ∧ meG gv u (upc V row) = true) ↔ fullR V w u gv row = true := by unfold fullR; rw [Bool.and_eq_true, beq_iff_eq]
    rw [zpre, post, List.mem_append, List.mem_append, or_comm]
    simp only [hf]
    refine or_congr ?_ Iff.rfl
    rw [List.mem_flatMap, List.mem_flatMap, h, List.range_eq_range']
    refine exists_congr (fun p => and_congr Iff.rfl ?_)
    rw [show (fitL W w row (lowc V row) p && fitU (tkG gv u) W (upc V row) p) = okR V w u gv row p from by unfold okR; rw [fitL_wv h, fitU_wv h]]
    by_cases ho : okR V w u gv row p = true
    · rw [if_pos ho, if_pos ho, low_wv h, up_wv h, ← lowc_snoc, ← upc_snoc]
      exact pre_post h f (row ++ [p])
    · rw [if_neg ho, if_neg ho]
/-- what the comparison has found after some alignments -/
theorem meet_fold {W : xW} : ∀ (l : List (List Nat)) (s : Bool × Bool × Nat), s.2.1 = false → (l.foldl (fun s r => if dnC s then s else meetC W s r) s).1 = (s.1 || !l.isEmpty) ∧ (l.foldl (fun s r => if dnC s then s else meetC W s r) s).2.1 = l.any (fun a => brkn W a == 0) ∧ ∀ i, (l.foldl (fun s r => if dnC s then s else meetC W s r) s).2.2.testBit i = (s.2.2.testBit i && l.all (fun a => (brkn W a).testBit i))
  | [], s, h => by simp [h]
  | a :: l, s, h => by
    rw [List.foldl_cons]
    have e : (if dnC s then s else meetC W s a) = meetC W s a := by unfold dnC; rw [h]; rfl
    rw [e]
    by_cases hz : brkn W a = 0
    · have hd : dnC (meetC W s a) = true := by unfold dnC meetC; simp [hz]
      rw [fold_dn hd]
      refine ⟨by simp [meetC], by simp [meetC, hz], fun i => ?_⟩
      simp [meetC, hz]
    · have ih := meet_fold (W := W) l (meetC W s a) (by unfold meetC; simp [h, hz])
      refine ⟨by rw [ih.1]; simp [meetC], by rw [ih.2.1]; simp [hz], fun i => ?_⟩
      rw [ih.2.2 i]
      unfold meetC
      simp only [Nat.testBit_and, List.all_cons, Bool.and_assoc]
theorem cmp_fold {W : xW} {w u : List Nat} (hw : w.length ≤ 4) (hu : u.length ≤ 5) : cmp W w u = (zpre W w (tkG true u) (meG true u) 9 [] 0 0).foldl (fun s r => if dnC s then s else meetC W s r) (false, false, 15) := by
  unfold cmp sExtC
  rw [List.take_of_length_le hw, List.take_of_length_le hu]
  exact sExt_pre _ _ _ _ _ rfl
theorem pre_root {W : xW} {V : xV} {w u : List Nat} {gv : Bool} {a : List Nat} (h : W.1 = V.1) : a ∈ zpre W w (tkG gv u) (meG gv u) 9 [] 0 0 ↔ a ∈ post V w u gv 10 [] := pre_post h 9 []
theorem any_mem {l l' : List (List Nat)} {f g : List Nat → Bool} (h : ∀ a, a ∈ l ↔ a ∈ l') (hf : ∀ a, f a = g a) : l.any f = l'.any g := by
  rw [Bool.eq_iff_iff, List.any_eq_true, List.any_eq_true]
  exact exists_congr (fun a => by rw [h a, hf a])
theorem cmp_bel {W : xW} {V : xV} {w u : List Nat} (H : zWV W V) (hw : w.length ≤ 4) (hu : u.length ≤ 5) : (cmp W w u).2.1 = belB V w u := by
  rw [cmp_fold hw hu, (meet_fold _ _ rfl).2.1]
  unfold belB
  refine any_mem (fun a => pre_root H.1) (fun a => ?_)
  rw [Bool.eq_iff_iff, beq_iff_eq]
  exact brkn_zero a H
theorem fbit_no {b : Nat} : ∀ j i : Nat, (∀ x, i ≤ x → x < i + j → b.testBit x = false) → fbit b j i = -1
  | 0, _, _ => rfl
  | j + 1, i, h => by
    rw [fbit, h i (Nat.le_refl _) (by omega)]
    exact fbit_no j (i + 1) (fun x h1 h2 => h x (by omega) (by omega))
theorem fbit_fzero {b k n : Nat} : ∀ m j i : Nat, i + j = 4 → i + m = n → (∀ x, x < 4 → b.testBit x = (decide (x < n) && !k.testBit x)) → n ≤ 4 → fbit b j i = fzero k m i
  | 0, j, i, h1, h2, h3, h4 => by
    rw [fzero]
    exact fbit_no j i (fun x h5 h6 => by rw [h3 x (by omega), decide_eq_false (by omega), Bool.false_and])
  | m + 1, 0, i, h1, h2, h3, h4 => by omega
  | m + 1, j + 1, i, h1, h2, h3, h4 => by
    rw [fbit, fzero, h3 i (by omega), decide_eq_true (by omega), Bool.true_and]
    cases k.testBit i
    · rfl
    · exact fbit_fzero m j (i + 1) (by omega) (by omega) h3 h4
theorem tb15 {x : Nat} (h : x < 4) : (15 : Nat).testBit x = true := by
  have : ∀ x, x < 4 → (15 : Nat).testBit x = true := by decide
  exact this x h
theorem culp_bla {W : xW} {V : xV} {w u : List Nat} (H : zWV W V) (hr : V.2.1.length ≤ 4) (hw : w.length ≤ 4) (hu : u.length ≤ 5) : culp (cmp W w u) = blaB V w u := by
  obtain ⟨m1, m2, m3⟩ := meet_fold (W := W) (zpre W w (tkG true u) (meG true u) 9 [] 0 0) (false, false, 15) rfl
  have hm : ∀ a, a ∈ zpre W w (tkG true u) (meG true u) 9 [] 0 0 ↔ a ∈ post V w u true 10 [] := fun a => pre_root H.1
  rw [cmp_fold hw hu]
  unfold culp blaB
  rw [m1]
  generalize zpre W w (tkG true u) (meG true u) 9 [] 0 0 = L at hm m3 ⊢
  generalize post V w u true 10 [] = P at hm ⊢
  cases L with
  | nil =>
    cases P with
    | nil => rfl
    | cons a P => exact absurd ((hm a).mpr List.mem_cons_self) (by simp)
  | cons a L =>
    cases P with
    | nil => exact absurd ((hm a).mp List.mem_cons_self) (by simp)
    | cons b P =>
      rw [if_pos (by rfl), if_neg (by simp)]
      refine fbit_fzero V.2.1.length 4 0 rfl (by omega) (fun x hx => ?_) hr
      rw [m3 x]
      unfold keptM
      rw [msk_bit]
      show ((15 : Nat).testBit x && _) = _
      rw [tb15 hx, Bool.true_and]
      by_cases hxr : x < V.2.1.length
      · rw [decide_eq_true hxr, Bool.true_and, Bool.true_and, Bool.eq_iff_iff, List.all_eq_true, Bool.not_eq_true', List.any_eq_false]
        constructor
        · intro h c hc
          have := h c ((hm c).mpr hc)
          rw [brkn_bit c x H, decide_eq_true hxr, Bool.true_and] at this
          simpa using this
        · intro h c hc
          have := h c ((hm c).mp hc)
          rw [brkn_bit c x H, decide_eq_true hxr, Bool.true_and]
          simpa using this
      · rw [decide_eq_false hxr, Bool.false_and, List.all_cons, brkn_bit a x H, decide_eq_false hxr, Bool.false_and, Bool.false_and]
theorem chk_chkB {W : xW} {V : xV} {ss : List (List Nat × List Nat)} (H : zWV W V) (hs : ∀ j, (ss.getD j ([], [])).1.length ≤ 4 ∧ (ss.getD j ([], [])).2.length ≤ 5) : ∀ j i, chk W ss j i = chkB V ss j i
  | 0, _ => rfl
  | j + 1, i => by rw [chk, chkB, cmp_bel H (hs i).1 (hs i).2, chk_chkB H hs j (i + 1)]
