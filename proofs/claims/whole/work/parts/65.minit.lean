/-! The reference's constructor. MI: its first k arrays are laid. -/
def mrf (m k a : Nat) : Value := if a ≤ k then .ref (m + a) else .null
def mfK (m k : Nat) : List Value := [.int 0, .int 0, mrf m k 1, mrf m k 2, .int 0, mrf m k 3, mrf m k 4, mrf m k 5, mrf m k 6, mrf m k 7, mrf m k 8, mrf m k 9, .int 0, mrf m k 10, mrf m k 11, mrf m k 12, mrf m k 13, mrf m k 14, mrf m k 15, .int 0, mrf m k 16, mrf m k 17, mrf m k 18, mrf m k 19, .int 0, mrf m k 20, mrf m k 21, mrf m k 22, mrf m k 23, .int 0, mrf m k 24, mrf m k 25, .int 0, mrf m k 26, .int 0, mrf m k 27, .int 0, mrf m k 28, mrf m k 29, mrf m k 30, mrf m k 31, mrf m k 32]
def MI (m : Nat) (h0 : xH) (k : Nat) (h : xH) : Prop := h.1 = m + 1 + k ∧ h.2 m = some (.inr (10, mfK m k)) ∧ (∀ q : Nat, q < m → h.2 q = h0.2 q) ∧ ∀ j, 1 ≤ j → j ≤ k → h.2 (m + j) = some (.inl (mknd j, mlen j, .inl (fun _ => 0)))
theorem MI.nx {m k t N : Nat} {h0 h : xH} (H : MI m h0 k h) (ht : mknd (k + 1) = t) (hN : mlen (k + 1) = N) : MI m h0 (k + 1) (xup (xnew h (.inl (t, N, .inl (fun _ => 0)))) m (.inr (10, mfK m (k + 1)))) := by
  obtain ⟨h1, h2, h3, h4⟩ := H
  refine ⟨by rw [xup_1]; show h.1 + 1 = _; omega, xup_self _ _ _, fun q hq => ?_, fun j j1 j2 => ?_⟩
  · rw [xup_ne _ _ (by omega), xnew_ne _ (by omega)]; exact h3 q hq
  · rw [xup_ne _ _ (by omega)]
    by_cases e : j = k + 1
    · subst e
      rw [show m + (k + 1) = h.1 by omega, xnew_self, ht, hN]
    · rw [xnew_ne _ (by omega)]; exact h4 j j1 (by omega)
section MINIT
variable {C : xCt} {M : xMt} {pc : Nat} {L : List (Option Value)} {h h0 : xH} {c n m k N idx ps : Nat} {ty : FieldType}
theorem mi_i (d1 : decode M.2.1 pc = .ok (.newarray .int, 2)) (d2 : decode M.2.1 (pc + 2) = .ok (.putfield idx, 3)) (hw : xFw M.1.cls M.1.name idx 10 ps ty) (hk : mknd (k + 1) = 0) (hN : mlen (k + 1) = N) (hN2 : N < 65536) (hnar : narrow ty (.ref (m + 1 + k)) = .ref (m + 1 + k)) (hft : fits ty (.ref (m + 1 + k)) = true) (hps : ps < (mfK m k).length) (hset : (mfK m k).set ps (.ref (m + 1 + k)) = mfK m (k + 1)) (hc : c + 1 ≤ C.2.2.2.1) (hn : n + N ≤ C.2.2.2.2.1) (H : MI m h0 k h) (kk : ∀ h' : xH, MI m h0 (k + 1) h' → Ex C M (pc + 2 + 3) L [] h' (c + 1) (n + N)) : Ex C M pc L [.int (nI N), .ref m] h c n := by
  refine ex_newi d1 aw_int rfl hN2 hc hn ?_
  rw [H.1]
  refine ex_put d2 hw (by rw [xnew_ne _ (by have := H.1; omega)]; exact H.2.1) hnar hft hps hset ?_
  exact kk _ (H.nx hk hN)
theorem mi_z (d1 : decode M.2.1 pc = .ok (.newarray .boolean, 2)) (d2 : decode M.2.1 (pc + 2) = .ok (.putfield idx, 3)) (hw : xFw M.1.cls M.1.name idx 10 ps ty) (hk : mknd (k + 1) = 3) (hN : mlen (k + 1) = N) (hN2 : N < 65536) (hnar : narrow ty (.ref (m + 1 + k)) = .ref (m + 1 + k)) (hft : fits ty (.ref (m + 1 + k)) = true) (hps : ps < (mfK m k).length) (hset : (mfK m k).set ps (.ref (m + 1 + k)) = mfK m (k + 1)) (hc : c + 1 ≤ C.2.2.2.1) (hn : n + N ≤ C.2.2.2.2.1) (H : MI m h0 k h) (kk : ∀ h' : xH, MI m h0 (k + 1) h' → Ex C M (pc + 2 + 3) L [] h' (c + 1) (n + N)) : Ex C M pc L [.int (nI N), .ref m] h c n := by
  refine ex_newz d1 aw_boolean rfl hN2 hc hn ?_
  rw [H.1]
  refine ex_put d2 hw (by rw [xnew_ne _ (by have := H.1; omega)]; exact H.2.1) hnar hft hps hset ?_
  exact kk _ (H.nx hk hN)
end MINIT
section MINITB
variable {l : Launch} {G : xG} {d m : Nat} {h h0 : xH} {Q : xO → xH → Prop}
theorem mi_0 (H0 : MI m h0 0 h) (kk : ∀ h' : xH, MI m h0 4 h' → Ex (l, G, d, 32, 829, h0, Q) mMod_init 34 [some (.ref m)] [] h' 4 28) : Ex (l, G, d, 32, 829, h0, Q) mMod_init 4 [some (.ref m)] [] h 0 0 := by
  refine ex_aload_n dMod_init_4 rfl ?_
  refine ex_bipush (v := nI 10) dMod_init_5 (by decide) ?_
  refine mi_i (k := 0) (N := 10) (ps := 2) dMod_init_7 dMod_init_9 (fp_Mod_7 _) rfl rfl (by decide) rfl rfl (Nat.le_of_ble_eq_true rfl) rfl (Nat.le_of_ble_eq_true rfl) (Nat.le_of_ble_eq_true rfl) H0 (fun k1 H1 => ?_)
  clear H0
  refine ex_aload_n dMod_init_12 rfl ?_
  refine ex_bipush (v := nI 10) dMod_init_13 (by decide) ?_
  refine mi_i (k := 1) (N := 10) (ps := 3) dMod_init_15 dMod_init_17 (fp_Mod_13 _) rfl rfl (by decide) rfl rfl (Nat.le_of_ble_eq_true rfl) rfl (Nat.le_of_ble_eq_true rfl) (Nat.le_of_ble_eq_true rfl) H1 (fun k2 H2 => ?_)
  clear H1
  refine ex_aload_n dMod_init_20 rfl ?_
  refine ex_iconst (v := nI 4) dMod_init_21 (by decide) ?_
  refine mi_i (k := 2) (N := 4) (ps := 5) dMod_init_22 dMod_init_24 (fp_Mod_16 _) rfl rfl (by decide) rfl rfl (Nat.le_of_ble_eq_true rfl) rfl (Nat.le_of_ble_eq_true rfl) (Nat.le_of_ble_eq_true rfl) H2 (fun k3 H3 => ?_)
  clear H2
  refine ex_aload_n dMod_init_27 rfl ?_
  refine ex_iconst (v := nI 4) dMod_init_28 (by decide) ?_
  refine mi_i (k := 3) (N := 4) (ps := 6) dMod_init_29 dMod_init_31 (fp_Mod_19 _) rfl rfl (by decide) rfl rfl (Nat.le_of_ble_eq_true rfl) rfl (Nat.le_of_ble_eq_true rfl) (Nat.le_of_ble_eq_true rfl) H3 (fun k4 H4 => ?_)
  clear H3
  exact kk _ H4
theorem mi_1 (H4 : MI m h0 4 h) (kk : ∀ h' : xH, MI m h0 8 h' → Ex (l, G, d, 32, 829, h0, Q) mMod_init 65 [some (.ref m)] [] h' 8 96) : Ex (l, G, d, 32, 829, h0, Q) mMod_init 34 [some (.ref m)] [] h 4 28 := by
  refine ex_aload_n dMod_init_34 rfl ?_
  refine ex_iconst (v := nI 4) dMod_init_35 (by decide) ?_
  refine mi_i (k := 4) (N := 4) (ps := 7) dMod_init_36 dMod_init_38 (fp_Mod_22 _) rfl rfl (by decide) rfl rfl (Nat.le_of_ble_eq_true rfl) rfl (Nat.le_of_ble_eq_true rfl) (Nat.le_of_ble_eq_true rfl) H4 (fun k5 H5 => ?_)
  clear H4
  refine ex_aload_n dMod_init_41 rfl ?_
  refine ex_bipush (v := nI 16) dMod_init_42 (by decide) ?_
  refine mi_z (k := 5) (N := 16) (ps := 8) dMod_init_44 dMod_init_46 (fp_Mod_25 _) rfl rfl (by decide) rfl rfl (Nat.le_of_ble_eq_true rfl) rfl (Nat.le_of_ble_eq_true rfl) (Nat.le_of_ble_eq_true rfl) H5 (fun k6 H6 => ?_)
  clear H5
  refine ex_aload_n dMod_init_49 rfl ?_
  refine ex_bipush (v := nI 16) dMod_init_50 (by decide) ?_
  refine mi_i (k := 6) (N := 16) (ps := 9) dMod_init_52 dMod_init_54 (fp_Mod_29 _) rfl rfl (by decide) rfl rfl (Nat.le_of_ble_eq_true rfl) rfl (Nat.le_of_ble_eq_true rfl) (Nat.le_of_ble_eq_true rfl) H6 (fun k7 H7 => ?_)
  clear H6
  refine ex_aload_n dMod_init_57 rfl ?_
  refine ex_bipush (v := nI 32) dMod_init_58 (by decide) ?_
  refine mi_i (k := 7) (N := 32) (ps := 10) dMod_init_60 dMod_init_62 (fp_Mod_32 _) rfl rfl (by decide) rfl rfl (Nat.le_of_ble_eq_true rfl) rfl (Nat.le_of_ble_eq_true rfl) (Nat.le_of_ble_eq_true rfl) H7 (fun k8 H8 => ?_)
  clear H7
  exact kk _ H8
theorem mi_2 (H8 : MI m h0 8 h) (kk : ∀ h' : xH, MI m h0 12 h' → Ex (l, G, d, 32, 829, h0, Q) mMod_init 97 [some (.ref m)] [] h' 12 152) : Ex (l, G, d, 32, 829, h0, Q) mMod_init 65 [some (.ref m)] [] h 8 96 := by
  refine ex_aload_n dMod_init_65 rfl ?_
  refine ex_bipush (v := nI 32) dMod_init_66 (by decide) ?_
  refine mi_z (k := 8) (N := 32) (ps := 11) dMod_init_68 dMod_init_70 (fp_Mod_35 _) rfl rfl (by decide) rfl rfl (Nat.le_of_ble_eq_true rfl) rfl (Nat.le_of_ble_eq_true rfl) (Nat.le_of_ble_eq_true rfl) H8 (fun k9 H9 => ?_)
  clear H8
  refine ex_aload_n dMod_init_73 rfl ?_
  refine ex_bipush (v := nI 8) dMod_init_74 (by decide) ?_
  refine mi_i (k := 9) (N := 8) (ps := 13) dMod_init_76 dMod_init_78 (fp_Mod_38 _) rfl rfl (by decide) rfl rfl (Nat.le_of_ble_eq_true rfl) rfl (Nat.le_of_ble_eq_true rfl) (Nat.le_of_ble_eq_true rfl) H9 (fun k10 H10 => ?_)
  clear H9
  refine ex_aload_n dMod_init_81 rfl ?_
  refine ex_bipush (v := nI 8) dMod_init_82 (by decide) ?_
  refine mi_i (k := 10) (N := 8) (ps := 14) dMod_init_84 dMod_init_86 (fp_Mod_41 _) rfl rfl (by decide) rfl rfl (Nat.le_of_ble_eq_true rfl) rfl (Nat.le_of_ble_eq_true rfl) (Nat.le_of_ble_eq_true rfl) H10 (fun k11 H11 => ?_)
  clear H10
  refine ex_aload_n dMod_init_89 rfl ?_
  refine ex_bipush (v := nI 8) dMod_init_90 (by decide) ?_
  refine mi_i (k := 11) (N := 8) (ps := 15) dMod_init_92 dMod_init_94 (fp_Mod_44 _) rfl rfl (by decide) rfl rfl (Nat.le_of_ble_eq_true rfl) rfl (Nat.le_of_ble_eq_true rfl) (Nat.le_of_ble_eq_true rfl) H11 (fun k12 H12 => ?_)
  clear H11
  exact kk _ H12
theorem mi_3 (H12 : MI m h0 12 h) (kk : ∀ h' : xH, MI m h0 16 h' → Ex (l, G, d, 32, 829, h0, Q) mMod_init 128 [some (.ref m)] [] h' 16 248) : Ex (l, G, d, 32, 829, h0, Q) mMod_init 97 [some (.ref m)] [] h 12 152 := by
  refine ex_aload_n dMod_init_97 rfl ?_
  refine ex_bipush (v := nI 24) dMod_init_98 (by decide) ?_
  refine mi_i (k := 12) (N := 24) (ps := 16) dMod_init_100 dMod_init_102 (fp_Mod_47 _) rfl rfl (by decide) rfl rfl (Nat.le_of_ble_eq_true rfl) rfl (Nat.le_of_ble_eq_true rfl) (Nat.le_of_ble_eq_true rfl) H12 (fun k13 H13 => ?_)
  clear H12
  refine ex_aload_n dMod_init_105 rfl ?_
  refine ex_iconst (v := nI 2) dMod_init_106 (by decide) ?_
  refine mi_i (k := 13) (N := 2) (ps := 17) dMod_init_107 dMod_init_109 (fp_Mod_50 _) rfl rfl (by decide) rfl rfl (Nat.le_of_ble_eq_true rfl) rfl (Nat.le_of_ble_eq_true rfl) (Nat.le_of_ble_eq_true rfl) H13 (fun k14 H14 => ?_)
  clear H13
  refine ex_aload_n dMod_init_112 rfl ?_
  refine ex_bipush (v := nI 10) dMod_init_113 (by decide) ?_
  refine mi_i (k := 14) (N := 10) (ps := 18) dMod_init_115 dMod_init_117 (fp_Mod_53 _) rfl rfl (by decide) rfl rfl (Nat.le_of_ble_eq_true rfl) rfl (Nat.le_of_ble_eq_true rfl) (Nat.le_of_ble_eq_true rfl) H14 (fun k15 H15 => ?_)
  clear H14
  refine ex_aload_n dMod_init_120 rfl ?_
  refine ex_bipush (v := nI 60) dMod_init_121 (by decide) ?_
  refine mi_i (k := 15) (N := 60) (ps := 20) dMod_init_123 dMod_init_125 (fp_Mod_56 _) rfl rfl (by decide) rfl rfl (Nat.le_of_ble_eq_true rfl) rfl (Nat.le_of_ble_eq_true rfl) (Nat.le_of_ble_eq_true rfl) H15 (fun k16 H16 => ?_)
  clear H15
  exact kk _ H16
theorem mi_4 (H16 : MI m h0 16 h) (kk : ∀ h' : xH, MI m h0 20 h' → Ex (l, G, d, 32, 829, h0, Q) mMod_init 160 [some (.ref m)] [] h' 20 489) : Ex (l, G, d, 32, 829, h0, Q) mMod_init 128 [some (.ref m)] [] h 16 248 := by
  refine ex_aload_n dMod_init_128 rfl ?_
  refine ex_bipush (v := nI 60) dMod_init_129 (by decide) ?_
  refine mi_i (k := 16) (N := 60) (ps := 21) dMod_init_131 dMod_init_133 (fp_Mod_59 _) rfl rfl (by decide) rfl rfl (Nat.le_of_ble_eq_true rfl) rfl (Nat.le_of_ble_eq_true rfl) (Nat.le_of_ble_eq_true rfl) H16 (fun k17 H17 => ?_)
  clear H16
  refine ex_aload_n dMod_init_136 rfl ?_
  refine ex_bipush (v := nI 60) dMod_init_137 (by decide) ?_
  refine mi_i (k := 17) (N := 60) (ps := 22) dMod_init_139 dMod_init_141 (fp_Mod_62 _) rfl rfl (by decide) rfl rfl (Nat.le_of_ble_eq_true rfl) rfl (Nat.le_of_ble_eq_true rfl) (Nat.le_of_ble_eq_true rfl) H17 (fun k18 H18 => ?_)
  clear H17
  refine ex_aload_n dMod_init_144 rfl ?_
  refine ex_bipush (v := nI 60) dMod_init_145 (by decide) ?_
  refine mi_i (k := 18) (N := 60) (ps := 23) dMod_init_147 dMod_init_149 (fp_Mod_65 _) rfl rfl (by decide) rfl rfl (Nat.le_of_ble_eq_true rfl) rfl (Nat.le_of_ble_eq_true rfl) (Nat.le_of_ble_eq_true rfl) H18 (fun k19 H19 => ?_)
  clear H18
  refine ex_aload_n dMod_init_152 rfl ?_
  refine ex_bipush (v := nI 61) dMod_init_153 (by decide) ?_
  refine mi_i (k := 19) (N := 61) (ps := 25) dMod_init_155 dMod_init_157 (fp_Mod_68 _) rfl rfl (by decide) rfl rfl (Nat.le_of_ble_eq_true rfl) rfl (Nat.le_of_ble_eq_true rfl) (Nat.le_of_ble_eq_true rfl) H19 (fun k20 H20 => ?_)
  clear H19
  exact kk _ H20
theorem mi_5 (H20 : MI m h0 20 h) (kk : ∀ h' : xH, MI m h0 24 h' → Ex (l, G, d, 32, 829, h0, Q) mMod_init 192 [some (.ref m)] [] h' 24 688) : Ex (l, G, d, 32, 829, h0, Q) mMod_init 160 [some (.ref m)] [] h 20 489 := by
  refine ex_aload_n dMod_init_160 rfl ?_
  refine ex_bipush (v := nI 61) dMod_init_161 (by decide) ?_
  refine mi_i (k := 20) (N := 61) (ps := 26) dMod_init_163 dMod_init_165 (fp_Mod_71 _) rfl rfl (by decide) rfl rfl (Nat.le_of_ble_eq_true rfl) rfl (Nat.le_of_ble_eq_true rfl) (Nat.le_of_ble_eq_true rfl) H20 (fun k21 H21 => ?_)
  clear H20
  refine ex_aload_n dMod_init_168 rfl ?_
  refine ex_bipush (v := nI 61) dMod_init_169 (by decide) ?_
  refine mi_i (k := 21) (N := 61) (ps := 27) dMod_init_171 dMod_init_173 (fp_Mod_74 _) rfl rfl (by decide) rfl rfl (Nat.le_of_ble_eq_true rfl) rfl (Nat.le_of_ble_eq_true rfl) (Nat.le_of_ble_eq_true rfl) H21 (fun k22 H22 => ?_)
  clear H21
  refine ex_aload_n dMod_init_176 rfl ?_
  refine ex_bipush (v := nI 61) dMod_init_177 (by decide) ?_
  refine mi_i (k := 22) (N := 61) (ps := 28) dMod_init_179 dMod_init_181 (fp_Mod_77 _) rfl rfl (by decide) rfl rfl (Nat.le_of_ble_eq_true rfl) rfl (Nat.le_of_ble_eq_true rfl) (Nat.le_of_ble_eq_true rfl) H22 (fun k23 H23 => ?_)
  clear H22
  refine ex_aload_n dMod_init_184 rfl ?_
  refine ex_bipush (v := nI 16) dMod_init_185 (by decide) ?_
  refine mi_i (k := 23) (N := 16) (ps := 30) dMod_init_187 dMod_init_189 (fp_Mod_80 _) rfl rfl (by decide) rfl rfl (Nat.le_of_ble_eq_true rfl) rfl (Nat.le_of_ble_eq_true rfl) (Nat.le_of_ble_eq_true rfl) H23 (fun k24 H24 => ?_)
  clear H23
  exact kk _ H24
theorem mi_6 (H24 : MI m h0 24 h) (kk : ∀ h' : xH, MI m h0 28 h' → Ex (l, G, d, 32, 829, h0, Q) mMod_init 222 [some (.ref m)] [] h' 28 789) : Ex (l, G, d, 32, 829, h0, Q) mMod_init 192 [some (.ref m)] [] h 24 688 := by
  refine ex_aload_n dMod_init_192 rfl ?_
  refine ex_bipush (v := nI 80) dMod_init_193 (by decide) ?_
  refine mi_i (k := 24) (N := 80) (ps := 31) dMod_init_195 dMod_init_197 (fp_Mod_83 _) rfl rfl (by decide) rfl rfl (Nat.le_of_ble_eq_true rfl) rfl (Nat.le_of_ble_eq_true rfl) (Nat.le_of_ble_eq_true rfl) H24 (fun k25 H25 => ?_)
  clear H24
  refine ex_aload_n dMod_init_200 rfl ?_
  refine ex_iconst (v := nI 4) dMod_init_201 (by decide) ?_
  refine mi_i (k := 25) (N := 4) (ps := 33) dMod_init_202 dMod_init_204 (fp_Mod_86 _) rfl rfl (by decide) rfl rfl (Nat.le_of_ble_eq_true rfl) rfl (Nat.le_of_ble_eq_true rfl) (Nat.le_of_ble_eq_true rfl) H25 (fun k26 H26 => ?_)
  clear H25
  refine ex_aload_n dMod_init_207 rfl ?_
  refine ex_iconst (v := nI 5) dMod_init_208 (by decide) ?_
  refine mi_i (k := 26) (N := 5) (ps := 35) dMod_init_209 dMod_init_211 (fp_Mod_89 _) rfl rfl (by decide) rfl rfl (Nat.le_of_ble_eq_true rfl) rfl (Nat.le_of_ble_eq_true rfl) (Nat.le_of_ble_eq_true rfl) H26 (fun k27 H27 => ?_)
  clear H26
  refine ex_aload_n dMod_init_214 rfl ?_
  refine ex_bipush (v := nI 12) dMod_init_215 (by decide) ?_
  refine mi_i (k := 27) (N := 12) (ps := 37) dMod_init_217 dMod_init_219 (fp_Mod_92 _) rfl rfl (by decide) rfl rfl (Nat.le_of_ble_eq_true rfl) rfl (Nat.le_of_ble_eq_true rfl) (Nat.le_of_ble_eq_true rfl) H27 (fun k28 H28 => ?_)
  clear H27
  exact kk _ H28
theorem mi_7 (H28 : MI m h0 28 h) (kk : ∀ h' : xH, MI m h0 32 h' → Ex (l, G, d, 32, 829, h0, Q) mMod_init 253 [some (.ref m)] [] h' 32 829) : Ex (l, G, d, 32, 829, h0, Q) mMod_init 222 [some (.ref m)] [] h 28 789 := by
  refine ex_aload_n dMod_init_222 rfl ?_
  refine ex_bipush (v := nI 12) dMod_init_223 (by decide) ?_
  refine mi_i (k := 28) (N := 12) (ps := 38) dMod_init_225 dMod_init_227 (fp_Mod_95 _) rfl rfl (by decide) rfl rfl (Nat.le_of_ble_eq_true rfl) rfl (Nat.le_of_ble_eq_true rfl) (Nat.le_of_ble_eq_true rfl) H28 (fun k29 H29 => ?_)
  clear H28
  refine ex_aload_n dMod_init_230 rfl ?_
  refine ex_bipush (v := nI 12) dMod_init_231 (by decide) ?_
  refine mi_i (k := 29) (N := 12) (ps := 39) dMod_init_233 dMod_init_235 (fp_Mod_98 _) rfl rfl (by decide) rfl rfl (Nat.le_of_ble_eq_true rfl) rfl (Nat.le_of_ble_eq_true rfl) (Nat.le_of_ble_eq_true rfl) H29 (fun k30 H30 => ?_)
  clear H29
  refine ex_aload_n dMod_init_238 rfl ?_
  refine ex_bipush (v := nI 12) dMod_init_239 (by decide) ?_
  refine mi_i (k := 30) (N := 12) (ps := 40) dMod_init_241 dMod_init_243 (fp_Mod_101 _) rfl rfl (by decide) rfl rfl (Nat.le_of_ble_eq_true rfl) rfl (Nat.le_of_ble_eq_true rfl) (Nat.le_of_ble_eq_true rfl) H30 (fun k31 H31 => ?_)
  clear H30
  refine ex_aload_n dMod_init_246 rfl ?_
  refine ex_iconst (v := nI 4) dMod_init_247 (by decide) ?_
  refine mi_i (k := 31) (N := 4) (ps := 41) dMod_init_248 dMod_init_250 (fp_Mod_104 _) rfl rfl (by decide) rfl rfl (Nat.le_of_ble_eq_true rfl) rfl (Nat.le_of_ble_eq_true rfl) (Nat.le_of_ble_eq_true rfl) H31 (fun k32 H32 => ?_)
  clear H31
  exact kk _ H32
theorem c_Mod_init (hz : h.1 = m + 1) (h1 : h.2 m = some (.inr (10, [.int 0, .int 0, .null, .null, .int 0, .null, .null, .null, .null, .null, .null, .null, .int 0, .null, .null, .null, .null, .null, .null, .int 0, .null, .null, .null, .null, .int 0, .null, .null, .null, .null, .int 0, .null, .null, .int 0, .null, .int 0, .null, .int 0, .null, .null, .null, .null, .null]))) : xMet l G mMod_init d 32 829 [.ref m] h (fun o h' => o = .inl none ∧ MM h' m (fun _ _ => 0) ∧ h'.1 = m + 33 ∧ ∀ q : Nat, q < m → h'.2 q = h.2 q) := by
  refine xMet_of (L := [_]) (by decide) (Nat.le_of_ble_eq_true rfl) rfl ?_
  refine ex_aload_n dMod_init_0 rfl ?_
  refine ex_objInit dMod_init_1 oi_Mod_1 oi_1 oi_2 (by decide) ?_
  have H0 : MI m h 0 h := ⟨hz, h1, fun _ _ => rfl, fun j j1 j2 => by omega⟩
  refine mi_0 H0 (fun k4 H4 => ?_)
  refine mi_1 H4 (fun k8 H8 => ?_)
  refine mi_2 H8 (fun k12 H12 => ?_)
  refine mi_3 H12 (fun k16 H16 => ?_)
  refine mi_4 H16 (fun k20 H20 => ?_)
  refine mi_5 H20 (fun k24 H24 => ?_)
  refine mi_6 H24 (fun k28 H28 => ?_)
  refine mi_7 H28 (fun k32 H32 => ?_)
  exact ex_vret dMod_init_253 rfl (Nat.le_of_ble_eq_true rfl) (Nat.le_of_ble_eq_true rfl) ⟨rfl, ⟨H32.2.1, fun j j1 j2 => H32.2.2.2 j j1 j2⟩, H32.1, H32.2.2.1⟩
end MINITB
