/-! Results depend on the numbers found, not on their order. -/
def zkf (s : List Nat × Bool) (l : List Nat) : List Nat × Bool := l.foldl (fun s k => if s.2 then s else radd s k) s
theorem nod_len : ∀ (xs ys : List Nat), xs.Nodup → (∀ x ∈ xs, x ∈ ys) → xs.length ≤ ys.length
  | [], _, _, _ => Nat.zero_le _
  | x :: xs, ys, hn, hs => by
    rw [List.nodup_cons] at hn
    have hx := hs x List.mem_cons_self
    have := nod_len xs (ys.erase x) hn.2 (fun y hy => (List.mem_erase_of_ne (fun e : y = x => hn.1 (e ▸ hy))).mpr (hs y (List.mem_cons_of_mem _ hy)))
    rw [List.length_erase_of_mem hx] at this
    have h1 : 0 < ys.length := List.length_pos_of_mem hx
    rw [List.length_cons]
    omega
theorem srt_eq : ∀ (xs ys : List Nat), xs.Pairwise (· < ·) → ys.Pairwise (· < ·) → (∀ x, x ∈ xs ↔ x ∈ ys) → xs = ys
  | [], [], _, _, _ => rfl
  | [], y :: ys, _, _, h => absurd ((h y).mpr List.mem_cons_self) (by simp)
  | x :: xs, [], _, _, h => absurd ((h x).mp List.mem_cons_self) (by simp)
  | x :: xs, y :: ys, hx, hy, h => by
    rw [List.pairwise_cons] at hx hy
    have e : x = y := by
      rcases List.mem_cons.mp ((h x).mp List.mem_cons_self) with q | q
      · exact q
      rcases List.mem_cons.mp ((h y).mpr List.mem_cons_self) with r | r
      · exact r.symm
      · have := hx.1 y r
        have := hy.1 x q
        omega
    subst e
    rw [srt_eq xs ys hx.2 hy.2 (fun z => ?_)]
    have hz := h z
    rw [List.mem_cons, List.mem_cons] at hz
    constructor
    · intro q
      rcases hz.mp (Or.inr q) with r | r
      · exact absurd (hx.1 z q) (by omega)
      · exact r
    · intro q
      rcases hz.mpr (Or.inr q) with r | r
      · exact absurd (hy.1 z q) (by omega)
      · exact r
theorem zkf_true {s : List Nat × Bool} (h : s.2 = true) (l : List Nat) : zkf s l = s := fold_dn (dn := fun s : List Nat × Bool => s.2) (mt := radd) h l
theorem zkf_cons {s : List Nat × Bool} (h : s.2 = false) (k : Nat) (l : List Nat) : zkf s (k :: l) = zkf (radd s k) l := by
  unfold zkf
  rw [List.foldl_cons, h]; rfl
theorem zkf_spec : ∀ (l : List Nat) (ks : List Nat), ks.Pairwise (· < ·) → ks.length ≤ 60 → ((zkf (ks, false) l).2 = false → (zkf (ks, false) l).1.Pairwise (· < ·) ∧ (zkf (ks, false) l).1.length ≤ 60 ∧ ∀ x, x ∈ (zkf (ks, false) l).1 ↔ x ∈ ks ∨ x ∈ l) ∧ ((zkf (ks, false) l).2 = true → ∃ ys : List Nat, ys.Nodup ∧ ys.length = 61 ∧ ∀ y ∈ ys, y ∈ ks ∨ y ∈ l)
  | [], ks, h1, h2 => ⟨fun _ => ⟨h1, h2, by simp [zkf]⟩, fun h => absurd h (by simp [zkf])⟩
  | k :: l, ks, h1, h2 => by
    rw [zkf_cons rfl]
    unfold radd
    by_cases hm : k ∈ ks
    · rw [if_pos hm]
      obtain ⟨a, b⟩ := zkf_spec l ks h1 h2
      refine ⟨fun h => ?_, fun h => ?_⟩
      · obtain ⟨c1, c2, c3⟩ := a h
        refine ⟨c1, c2, fun x => ?_⟩
        rw [c3 x, List.mem_cons]
        constructor
        · rintro (q | q)
          · exact Or.inl q
          · exact Or.inr (Or.inr q)
        · rintro (q | q | q)
          · exact Or.inl q
          · exact Or.inl (q ▸ hm)
          · exact Or.inr q
      · obtain ⟨ys, c1, c2, c3⟩ := b h
        exact ⟨ys, c1, c2, fun y hy => (c3 y hy).imp id (List.mem_cons_of_mem _)⟩
    · rw [if_neg hm]
      by_cases hf : 60 ≤ ks.length
      · have e : (ks, false).1 = ks := rfl
        rw [if_pos hf, zkf_true rfl]
        refine ⟨fun h => absurd h (by simp), fun _ => ⟨k :: ks, ?_, ?_, ?_⟩⟩
        · rw [List.nodup_cons]
          exact ⟨hm, h1.imp (fun q => Nat.ne_of_lt q)⟩
        · rw [List.length_cons]; omega
        · intro y hy
          rcases List.mem_cons.mp hy with q | q
          · exact Or.inr (q ▸ List.mem_cons_self)
          · exact Or.inl q
      · rw [if_neg hf]
        obtain ⟨a, b⟩ := zkf_spec l (ins k ks) (ins_sorted h1 hm) (by rw [ins_len]; omega)
        refine ⟨fun h => ?_, fun h => ?_⟩
        · obtain ⟨c1, c2, c3⟩ := a h
          refine ⟨c1, c2, fun x => ?_⟩
          rw [c3 x, ins_mem, List.mem_cons]
          constructor
          · rintro ((q | q) | q)
            · exact Or.inr (Or.inl q)
            · exact Or.inl q
            · exact Or.inr (Or.inr q)
          · rintro (q | q | q)
            · exact Or.inl (Or.inr q)
            · exact Or.inl (Or.inl q)
            · exact Or.inr q
        · obtain ⟨ys, c1, c2, c3⟩ := b h
          refine ⟨ys, c1, c2, fun y hy => ?_⟩
          rcases c3 y hy with q | q
          · rcases ins_mem.mp q with r | r
            · exact Or.inr (r ▸ List.mem_cons_self)
            · exact Or.inl r
          · exact Or.inr (List.mem_cons_of_mem _ q)
theorem zkf_eq {l l' : List Nat} (h : ∀ x, x ∈ l ↔ x ∈ l') : (zkf ([], false) l).2 = (zkf ([], false) l').2 ∧ ((zkf ([], false) l).2 = false → (zkf ([], false) l).1 = (zkf ([], false) l').1) := by
  obtain ⟨a, b⟩ := zkf_spec l [] List.Pairwise.nil (by decide)
  obtain ⟨a', b'⟩ := zkf_spec l' [] List.Pairwise.nil (by decide)
  have hno : ∀ m m' : List Nat, (∀ x, x ∈ m → x ∈ m') → (∃ ys : List Nat, ys.Nodup ∧ ys.length = 61 ∧ ∀ y ∈ ys, y ∈ ([] : List Nat) ∨ y ∈ m) → ∀ r : List Nat, r.length ≤ 60 → (∀ x, x ∈ r ↔ x ∈ ([] : List Nat) ∨ x ∈ m') → False := by
    rintro m m' hmm ⟨ys, c1, c2, c3⟩ r hr hx
    have := nod_len ys r c1 (fun y hy => (hx y).mpr ((c3 y hy).imp id (hmm y)))
    omega
  have e2 : (zkf ([], false) l).2 = (zkf ([], false) l').2 := by
    cases h1 : (zkf ([], false) l).2 <;> cases h2 : (zkf ([], false) l').2
    · rfl
    · exact absurd (hno l' l (fun x q => (h x).mpr q) (b' h2) _ (a h1).2.1 (a h1).2.2) id
    · exact absurd (hno l l' (fun x q => (h x).mp q) (b h1) _ (a' h2).2.1 (a' h2).2.2) id
    · rfl
  refine ⟨e2, fun h1 => srt_eq _ _ (a h1).1 (a' (e2 ▸ h1)).1 (fun x => ?_)⟩
  rw [(a h1).2.2 x, (a' (e2 ▸ h1)).2.2 x, h x]
/-- the number of a result, as the reference has it -/
theorem rkey_kk {w wd : List Nat} (hw : w.length ≤ 5) (hd : wd.length ≤ 4) : rkey w (fun j => wd.getD j 0) wd.length = kk w.length (val8 w) wd.length (val8 wd) := by
  have key : ∀ w : List Nat, w.length ≤ 5 → kcat w.length (fun i => w.getD i 0) 5 = w.length * 8 ^ 5 + val8 w * 8 ^ (5 - w.length) := by
    intro w hw
    match w, hw with
    | [], _ => rfl
    | [a], _ => simp [kcat, val8]; omega
    | [a, b], _ => simp [kcat, val8]; omega
    | [a, b, c], _ => simp [kcat, val8]; omega
    | [a, b, c, d], _ => simp [kcat, val8]; omega
    | [a, b, c, d, e], _ => simp [kcat, val8]
                            try omega
    | a :: b :: c :: d :: e :: f :: t, h => simp at h
  have key2 : ∀ k : Nat, ∀ wd : List Nat, wd.length ≤ 4 → kcat k (fun i => if i < wd.length then wd.getD i 0 else 0) 4 = k * 8 ^ 4 + val8 wd * 8 ^ (4 - wd.length) := by
    intro k wd hd
    match wd, hd with
    | [], _ => simp [kcat, val8]
               try omega
    | [a], _ => simp [kcat, val8]; omega
    | [a, b], _ => simp [kcat, val8]; omega
    | [a, b, c], _ => simp [kcat, val8]; omega
    | [a, b, c, d], _ => simp [kcat, val8]; omega
    | a :: b :: c :: d :: e :: t, h => simp at h
  unfold rkey kk
  rw [key w hw, key2 _ wd hd]
theorem upw_wv {W : xW} {V : xV} (h : W.1 = V.1) (row : List Nat) : upw W row = upw (wv V) row := by
  unfold upw
  rw [show upp W = upp (wv V) from funext (up_wv h)]
theorem wkey_wk {W : xW} {V : xV} (h : W.1 = V.1) {row : List Nat} (hu : upc V row ≤ 5) : wkey W row = wk V row := by
  unfold wkey wk
  have hl := upw_len V row
  rw [upw_wv h, List.take_of_length_le (by omega)]
  have := rkey_kk (w := upw (wv V) row) (wd := []) (by omega) (by decide)
  exact this
theorem wfold_kf {V : xV} : ∀ (rows : List (List Nat)) (ks : List Nat), wfold V rows ks = zkf (ks, false) ((rows.filter (keepsB V)).map (wk V))
  | [], ks => rfl
  | a :: more, ks => by
    rw [wfold, List.filter_cons]
    by_cases hk : keepsB V a = true
    · rw [if_pos hk, if_pos hk, List.map_cons, zkf_cons rfl]
      have hr : (radd (ks, false) (wk V a)).2 = true → (radd (ks, false) (wk V a)) = (ks, true) := by
        unfold radd
        split
        · intro h; exact absurd h (by simp)
        · split
          · intro _; rfl
          · intro h; exact absurd h (by simp)
      by_cases h2 : (radd (ks, false) (wk V a)).2 = true
      · rw [if_pos h2, hr h2, zkf_true rfl]
      · rw [if_neg h2, wfold_kf more]
        congr 1
        exact Prod.ext rfl (by simpa using (Bool.eq_false_iff.mpr h2).symm)
    · rw [if_neg hk, if_neg hk, wfold_kf more]
theorem wfold_pre {W : xW} : ∀ (rows : List (List Nat)) (s : List Nat × Bool), rows.foldl (fun s r => if dnW s then s else meetW W s r) s = zkf s ((rows.filter (fun a => brkn W a == 0)).map (wkey W))
  | [], s => rfl
  | a :: more, s => by
    rw [List.foldl_cons, List.filter_cons]
    by_cases hs : s.2 = true
    · rw [zkf_true hs, if_pos (show dnW s = true from hs), fold_dn (show dnW s = true from hs)]
    · have hd : dnW s = false := by simpa [dnW] using hs
      rw [hd, if_neg (by decide), wfold_pre more]
      unfold meetW
      by_cases hk : brkn W a = 0
      · rw [if_pos hk, if_pos (by rw [hk]; rfl), List.map_cons, zkf_cons (by simpa using hs)]
      · rw [if_neg hk, if_neg (by simpa using hk)]
theorem wrt_wfold {W : xW} {V : xV} {w u : List Nat} (H : zWV W V) (hw : w.length ≤ 4) : (wrt W w ([], false)).2 = (wfold V (post V w u false 10 []) []).2 ∧ ((wrt W w ([], false)).2 = false → (wrt W w ([], false)).1 = (wfold V (post V w u false 10 []) []).1) := by
  have e : wrt W w ([], false) = zkf ([], false) (((zpre W w (tkG false u) (meG false u) 9 [] 0 0).filter (fun a => brkn W a == 0)).map (wkey W)) := by
    unfold wrt sExtW
    rw [List.take_of_length_le hw, sExt_pre _ _ _ _ _ (by rfl), wfold_pre]
    rfl
  rw [e, wfold_kf]
  refine zkf_eq (fun x => ?_)
  rw [List.mem_map, List.mem_map]
  refine exists_congr (fun a => ?_)
  rw [List.mem_filter, List.mem_filter, pre_root H.1, beq_iff_eq, brkn_zero a H]
  constructor
  · rintro ⟨⟨h1, h2⟩, h3⟩
    exact ⟨⟨h1, h2⟩, by rw [← h3, wkey_wk H.1 (post_up 10 [] (Nat.zero_le _) a h1)]⟩
  · rintro ⟨⟨h1, h2⟩, h3⟩
    exact ⟨⟨h1, h2⟩, by rw [← h3, wkey_wk H.1 (post_up 10 [] (Nat.zero_le _) a h1)]⟩
