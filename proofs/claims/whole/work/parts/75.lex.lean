/-! Analysing: the class goes along the parts, the reference over all words of entries. -/
def zlw (W : xW) (es : List xEn) (u : List Nat) : Nat → Nat → List Nat → List Nat → List (List Nat)
  | 0, _, _, _ => []
  | f + 1, part, wd, ws => (List.range es.length).flatMap (fun e => if (es.getD e en0).1 = part ∧ ws.length + (esg es e).length ≤ 4 then (match (es.getD e en0).2.1 with
    | some p => zlw W es u f p (wd ++ [e]) (ws ++ esg es e)
    | none => if (cmp W (ws ++ esg es e) u).2.1 then [wd ++ [e]] else []) else [])
theorem zkf_flat {α : Type} {g : α → List Nat} (l : List α) (s : List Nat × Bool) : zkf s (l.flatMap g) = l.foldl (fun s x => zkf s (g x)) s := fold_flat l s
theorem lxGo_kf {W : xW} {es : List xEn} {u : List Nat} : ∀ (f part : Nat) (wd : List Nat) (s : List Nat × Bool), wd.length + f ≤ 4 → (ews es wd).length ≤ 4 → lxGo W es u f part wd (ews es wd) s = zkf s ((zlw W es u f part wd (ews es wd)).map (ak es))
  | 0, part, wd, s, _, _ => rfl
  | f + 1, part, wd, s, hl, hw => by
    rw [lxGo, zlw, List.map_flatMap, zkf_flat]
    refine fold_ext _ _ (fun s e => ?_)
    by_cases hs : s.2 = true
    · rw [if_pos hs, zkf_true hs]
    · rw [if_neg hs]
      by_cases hc : (es.getD e en0).1 = part ∧ (ews es wd).length + (esg es e).length ≤ 4
      · rw [if_pos hc, if_pos hc]
        unfold lxPut
        have hn : (ews es (wd ++ [e])).length ≤ 4 := by rw [ews_snoc, List.length_append]; exact hc.2
        cases hx : (es.getD e en0).2.1 with
        | some p =>
          show lxGo W es u f p (wd ++ [e]) (ews es wd ++ esg es e) s = zkf s ((zlw W es u f p (wd ++ [e]) (ews es wd ++ esg es e)).map (ak es))
          rw [← ews_snoc]
          exact lxGo_kf f p (wd ++ [e]) s (by rw [List.length_append, List.length_singleton]; omega) hn
        | none =>
          show (if (cmp W (ews es wd ++ esg es e) u).2.1 then radd s (rkey (ews es wd ++ esg es e) (fun j => (wd ++ [e]).getD j 0) (wd.length + 1)) else s) = zkf s ((if (cmp W (ews es wd ++ esg es e) u).2.1 then [wd ++ [e]] else []).map (ak es))
          split
          · rw [List.map_cons, List.map_nil, zkf_cons (by simpa using hs)]
            have hk := rkey_kk (w := ews es wd ++ esg es e) (wd := wd ++ [e]) (by rw [← ews_snoc]; omega) (by rw [List.length_append, List.length_singleton]; omega)
            rw [List.length_append (as := wd), List.length_singleton] at hk
            rw [hk]
            unfold ak zkf
            rw [ews_snoc, List.length_append (as := wd), List.length_singleton]
            rfl
          · rfl
      · rw [if_neg hc, if_neg hc]; rfl
/-- a way through the parts -/
def zch (es : List xEn) : Nat → List Nat → Prop
  | _, [] => False
  | part, e :: t => (es.getD e en0).1 = part ∧ ((t = [] ∧ (es.getD e en0).2.1 = none) ∨ ∃ p, (es.getD e en0).2.1 = some p ∧ zch es p t)
theorem zlw_mem {W : xW} {V : xV} {es : List xEn} {u a : List Nat} (H : zWV W V) (hu : u.length ≤ 5) : ∀ (f part : Nat) (wd : List Nat), a ∈ zlw W es u f part wd (ews es wd) ↔ ∃ t, a = wd ++ t ∧ t.length ≤ f ∧ (∀ e ∈ t, e < es.length) ∧ zch es part t ∧ (ews es a).length ≤ 4 ∧ belB V (ews es a) u = true
  | 0, part, wd => by
    constructor
    · intro h; exact absurd h (by simp [zlw])
    · rintro ⟨t, -, h1, -, h2, -⟩
      cases t with
      | nil => exact absurd h2 id
      | cons e t => simp at h1
  | f + 1, part, wd => by
    rw [zlw, List.mem_flatMap]
    constructor
    · rintro ⟨e, he, ha⟩
      rw [List.mem_range] at he
      by_cases hc : (es.getD e en0).1 = part ∧ (ews es wd).length + (esg es e).length ≤ 4
      · rw [if_pos hc] at ha
        cases hx : (es.getD e en0).2.1 with
        | some p =>
          rw [hx] at ha
          rw [show (match (some p : Option Nat) with
            | some p => zlw W es u f p (wd ++ [e]) (ews es wd ++ esg es e)
            | none => if (cmp W (ews es wd ++ esg es e) u).2.1 then [wd ++ [e]] else []) = zlw W es u f p (wd ++ [e]) (ews es wd ++ esg es e) from rfl, ← ews_snoc, zlw_mem H hu f p (wd ++ [e])] at ha
          obtain ⟨t, h1, h2, h3, h4, h5⟩ := ha
          refine ⟨e :: t, by rw [h1]; simp, by rw [List.length_cons]; omega, fun x hx => ?_, ⟨hc.1, Or.inr ⟨p, hx, h4⟩⟩, h5⟩
          rcases List.mem_cons.mp hx with q | q
          · rw [q]; exact he
          · exact h3 x q
        | none =>
          rw [hx] at ha
          have ha : a ∈ (if (cmp W (ews es wd ++ esg es e) u).2.1 then [wd ++ [e]] else []) := ha
          by_cases hm : (cmp W (ews es wd ++ esg es e) u).2.1 = true
          · rw [if_pos hm, List.mem_singleton] at ha
            rw [cmp_bel H (by rw [List.length_append]; exact hc.2) hu, ← ews_snoc, ← ha] at hm
            refine ⟨[e], ha, by rw [List.length_singleton]; omega, fun x hx => by rw [List.mem_singleton] at hx; rw [hx]; exact he, ⟨hc.1, Or.inl ⟨rfl, hx⟩⟩, ?_, hm⟩
            rw [ha, ews_snoc, List.length_append]; exact hc.2
          · rw [if_neg hm] at ha; exact absurd ha (by simp)
      · rw [if_neg hc] at ha; exact absurd ha (by simp)
    · rintro ⟨t, h1, h2, h3, h4, h5, h6⟩
      cases t with
      | nil => exact absurd h4 id
      | cons e t =>
        have e1 : a = (wd ++ [e]) ++ t := by rw [h1]; simp
        have hle : (ews es wd).length + (esg es e).length ≤ 4 := by
          have : ews es a = ews es wd ++ esg es e ++ ews es t := by rw [e1]; simp [ews]
          rw [this, List.length_append, List.length_append] at h5
          omega
        refine ⟨e, List.mem_range.mpr (h3 e List.mem_cons_self), ?_⟩
        rw [if_pos ⟨h4.1, hle⟩]
        rcases h4.2 with ⟨q1, q2⟩ | ⟨p, q1, q2⟩
        · rw [q2]
          show a ∈ (if (cmp W (ews es wd ++ esg es e) u).2.1 then [wd ++ [e]] else [])
          subst q1
          rw [List.append_nil] at e1
          rw [cmp_bel H (by rw [List.length_append]; exact hle) hu, ← ews_snoc, ← e1, if_pos h6]
          exact List.mem_singleton.mpr rfl
        · rw [q1]
          show a ∈ zlw W es u f p (wd ++ [e]) (ews es wd ++ esg es e)
          rw [← ews_snoc, zlw_mem H hu f p (wd ++ [e])]
          exact ⟨t, e1, by rw [List.length_cons] at h2; omega, fun x hx => h3 x (List.mem_cons_of_mem _ hx), q2, h5, h6⟩
theorem zch_iff {es : List xEn} : ∀ (t : List Nat) (part : Nat), t ≠ [] → (zch es part t ↔ (es.getD (t.getD 0 0) en0).1 = part ∧ (es.getD (t.getD (t.length - 1) 0) en0).2.1 = none ∧ ∀ i, 1 ≤ i → i < t.length → (es.getD (t.getD (i - 1) 0) en0).2.1 = some (es.getD (t.getD i 0) en0).1)
  | [], _, h => absurd rfl h
  | [e], part, _ => by
    constructor
    · rintro ⟨h1, ⟨-, h2⟩ | ⟨p, -, h2⟩⟩
      · exact ⟨h1, h2, fun i h3 h4 => absurd h4 (by simp; omega)⟩
      · exact absurd h2 id
    · rintro ⟨h1, h2, -⟩
      exact ⟨h1, Or.inl ⟨rfl, h2⟩⟩
  | e :: e2 :: t, part, _ => by
    have ih := zch_iff (es := es) (e2 :: t)
    have hl : (e :: e2 :: t).getD ((e :: e2 :: t).length - 1) 0 = (e2 :: t).getD ((e2 :: t).length - 1) 0 := by simp
    rw [hl]
    constructor
    · rintro ⟨h1, ⟨h2, -⟩ | ⟨p, h2, h3⟩⟩
      · exact absurd h2 (by simp)
      · obtain ⟨a1, a2, a3⟩ := (ih p (by simp)).mp h3
        refine ⟨h1, a2, fun i h4 h5 => ?_⟩
        match i, h4 with
        | 1, _ =>
          show (es.getD e en0).2.1 = some (es.getD e2 en0).1
          rw [h2, ← a1]; rfl
        | i + 2, _ =>
          have := a3 (i + 1) (by omega) (by simpa using h5)
          simpa using this
    · rintro ⟨h1, h2, h3⟩
      have h4 := h3 1 (by omega) (by simp)
      refine ⟨h1, Or.inr ⟨_, h4, (ih _ (by simp)).mpr ⟨rfl, h2, fun i h5 h6 => ?_⟩⟩⟩
      have := h3 (i + 1) (by omega) (by simpa using h6)
      rw [show i + 1 - 1 = (i - 1) + 1 by omega] at this
      simpa using this
theorem chB_iff {es : List xEn} {t : List Nat} (h : t ≠ []) : chB es t = true ↔ zch es 0 t := by
  rw [zch_iff t 0 h]
  unfold chB
  rw [Bool.and_eq_true, Bool.and_eq_true, decide_eq_true_eq, decide_eq_true_eq, List.all_eq_true, and_assoc]
  refine and_congr Iff.rfl (and_congr Iff.rfl ⟨fun q i h1 h2 => ?_, fun q i hi => ?_⟩)
  · exact of_decide_eq_true (q i (List.mem_range'_1.mpr (by omega)))
  · have := List.mem_range'_1.mp hi
    exact decide_eq_true (q i (by omega) (by omega))
theorem digs_all {E : Nat} : ∀ (n : Nat) (a : List Nat), a.length = n → (∀ e ∈ a, e < E) → ∃ v, v < E ^ n ∧ digs E n v = a
  | 0, a, h, _ => ⟨0, by simp, by rw [List.length_eq_zero_iff] at h; rw [h]; rfl⟩
  | n + 1, a, h, hb => by
    have hne : a ≠ [] := by intro e; rw [e] at h; simp at h
    have hs := List.dropLast_concat_getLast hne
    obtain ⟨v, h1, h2⟩ := digs_all n a.dropLast (by rw [List.length_dropLast]; omega) (fun e he => hb e (List.dropLast_subset a he))
    have hx := hb _ (List.getLast_mem hne)
    refine ⟨v * E + a.getLast hne, ?_, ?_⟩
    · rw [Nat.pow_succ]
      calc v * E + a.getLast hne < v * E + E := by omega
        _ = (v + 1) * E := by rw [Nat.add_mul, Nat.one_mul]
        _ ≤ E ^ n * E := Nat.mul_le_mul_right E h1
    · rw [digs, Nat.mul_comm v E, Nat.mul_add_div (by omega), Nat.div_eq_of_lt hx, Nat.add_zero, h2, Nat.mul_add_mod, Nat.mod_eq_of_lt hx]
      exact hs
theorem words_mem {E n : Nat} {a : List Nat} (hE : 0 < E) : a ∈ words E n ↔ a.length = n ∧ ∀ e ∈ a, e < E := by
  unfold words
  rw [List.mem_map]
  constructor
  · rintro ⟨v, -, h⟩
    rw [← h]
    exact ⟨digs_len E n v, digs_lt hE n v⟩
  · rintro ⟨h1, h2⟩
    obtain ⟨v, h3, h4⟩ := digs_all n a h1 h2
    exact ⟨v, List.mem_range'_1.mpr (by omega), h4⟩
theorem remN_mem {E : Nat} {a : List Nat} (hE : 0 < E) : a ∈ remN E 4 ↔ a ≠ [] ∧ a.length ≤ 4 ∧ ∀ e ∈ a, e < E := by
  simp only [remN, List.mem_append, words_mem hE, List.not_mem_nil, or_false]
  have : a ≠ [] ↔ 0 < a.length := by rw [List.length_pos_iff]
  rw [this]
  constructor
  · rintro (⟨h, k⟩ | ⟨h, k⟩ | ⟨h, k⟩ | ⟨h, k⟩) <;> exact ⟨by omega, by omega, k⟩
  · rintro ⟨h1, h2, k⟩
    have : a.length = 1 ∨ a.length = 2 ∨ a.length = 3 ∨ a.length = 4 := by omega
    rcases this with q | q | q | q
    · exact Or.inl ⟨q, k⟩
    · exact Or.inr (Or.inl ⟨q, k⟩)
    · exact Or.inr (Or.inr (Or.inl ⟨q, k⟩))
    · exact Or.inr (Or.inr (Or.inr ⟨q, k⟩))
theorem afold_kf {V : xV} {es : List xEn} {u : List Nat} : ∀ (rows : List (List Nat)) (ks : List Nat), afold V es u rows ks = zkf (ks, false) ((rows.filter (fdB V es u)).map (ak es))
  | [], ks => rfl
  | a :: more, ks => by
    rw [afold, List.filter_cons]
    by_cases hk : fdB V es u a = true
    · rw [if_pos hk, if_pos hk, List.map_cons, zkf_cons rfl]
      have hr : (radd (ks, false) (ak es a)).2 = true → (radd (ks, false) (ak es a)) = (ks, true) := by
        unfold radd
        split
        · intro h; exact absurd h (by simp)
        · split
          · intro _; rfl
          · intro h; exact absurd h (by simp)
      by_cases h2 : (radd (ks, false) (ak es a)).2 = true
      · rw [if_pos h2, hr h2, zkf_true rfl]
      · rw [if_neg h2, afold_kf more]
        congr 1
        exact Prod.ext rfl (by simpa using (Bool.eq_false_iff.mpr h2).symm)
    · rw [if_neg hk, if_neg hk, afold_kf more]
theorem ana_afold {W : xW} {V : xV} {es : List xEn} {u : List Nat} (H : zWV W V) (hu : u.length ≤ 5) : (lxGo W es u 4 0 [] [] ([], false)).2 = (afold V es u (remN es.length 4) []).2 ∧ ((lxGo W es u 4 0 [] [] ([], false)).2 = false → (lxGo W es u 4 0 [] [] ([], false)).1 = (afold V es u (remN es.length 4) []).1) := by
  have e : lxGo W es u 4 0 [] [] ([], false) = zkf ([], false) ((zlw W es u 4 0 [] []).map (ak es)) := lxGo_kf (W := W) (es := es) (u := u) 4 0 [] ([], false) (by simp) (by simp [ews])
  rw [e, afold_kf]
  refine zkf_eq (fun x => ?_)
  rw [List.mem_map, List.mem_map]
  refine exists_congr (fun a => and_congr ?_ Iff.rfl)
  have hz := zlw_mem (a := a) (es := es) H hu 4 0 []
  rw [show zlw W es u 4 0 [] [] = zlw W es u 4 0 [] (ews es []) from rfl, hz, List.mem_filter]
  unfold fdB
  rw [Bool.and_eq_true, Bool.and_eq_true, decide_eq_true_eq]
  constructor
  · rintro ⟨t, h1, h2, h3, h4, h5, h6⟩
    rw [List.nil_append] at h1
    subst h1
    have hne : a ≠ [] := by intro q; subst q; exact h4
    have hE : 0 < es.length := by
      cases a with
      | nil => exact absurd rfl hne
      | cons y t => have := h3 y List.mem_cons_self; omega
    exact ⟨(remN_mem hE).mpr ⟨hne, h2, h3⟩, ⟨(chB_iff hne).mpr h4, h5⟩, h6⟩
  · rintro ⟨h1, ⟨h2, h3⟩, h4⟩
    by_cases hE : 0 < es.length
    · obtain ⟨a1, a2, a3⟩ := (remN_mem hE).mp h1
      exact ⟨a, rfl, a2, a3, (chB_iff a1).mp h2, h3, h4⟩
    · have e0 : es.length = 0 := by omega
      rw [e0] at h1
      exact absurd h1 (by simp [remN, words])
