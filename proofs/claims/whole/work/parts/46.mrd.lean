/-! ===== the reference: a statement comes ===== -/
def cmF (so : Nat) (fi no : Nat → Nat) : Nat → Nat := if so = 0 then va_up (va_up (va_up (va_up no (10 + no 0) (fi 1)) (20 + no 0) (fi 2)) (30 + no 0) (fi 3)) 0 (no 0 + 1) else if so = 1 then va_up (va_up no 2 (fi 0)) 3 (fi 1) else va_up (va_up (va_up (va_up (va_up no (40 + no 1) (fi 0)) (50 + no 1) (fi 1)) (60 + no 1) (fi 2)) (70 + no 1) (fi 3)) 1 (no 1 + 1)
def mCome (M : Md) : Md := mNw M (cmF (mso M) (mfi M) (mno M))
theorem mdNw (M : Md) (f : Nat → Nat) (k v : Nat) : (mdB (mNw M f)).set 2 (.inl (0, 80, upd (fun j => nI (f j)) k (nI v))) = mdB (mNw M (va_up f k v)) := by
  rw [upd_nI]; rfl
theorem pm_mcome (M : Md) (hs : mso M < 3) (h0 : mno M 0 < 10) (h1 : mno M 1 < 10) : PM mu_X7_come 0 0 0 [.ref 0] (mdB M) (eqP none (mdB (mCome M))) := by
  refine PM.start (Or.inl (by decide +kernel)) rfl rfl rfl ?_
  intro X hX hR hx hin
  by_cases s0 : mso M = 0
  · have e : mCome M = mNw M (va_up (va_up (va_up (va_up (mno M) (10 + mno M 0) (mfi M 1)) (20 + mno M 0) (mfi M 2)) (30 + mno M 0) (mfi M 3)) 0 (mno M 0 + 1)) := by unfold mCome cmF; rw [if_pos s0]
    rw [e] at hR
    have h92 : ∀ f : Nat → Nat, f 0 = mno M 0 → va_up (va_up (va_up (mno M) (10 + mno M 0) (mfi M 1)) (20 + mno M 0) (mfi M 2)) (30 + mno M 0) (mfi M 3) = f → PW X 92 [some (.ref 0)] [] (mdB (mNw M f)) 0 0 := by
      intro f hf ef
      rw [ef] at hR
      refine PW.aload_n hX dX7_come_92 rfl rfl ?_
      refine PW.getfield hX fl_X7_13 dX7_come_93 rfl rfl ?_
      refine PW.iconst (v := nI 0) hX dX7_come_96 (by decide) ?_
      refine PW.dup2 hX dX7_come_97 rfl rfl ?_
      refine PW.iaload hX dX7_come_98 rfl rfl rfl (by omega) ?_
      refine PW.iconst (v := nI 1) hX dX7_come_99 (by decide) ?_
      refine PW.iadd hX dX7_come_100 ?_
      refine PW.top (show nI (f 0) + nI 1 = nI (mno M 0 + 1) by rw [hf, nI_add]) ?_
      refine PW.iastore hX dX7_come_101 rfl rfl rfl (by omega) ?_
      refine PW.goto (tgt := 222) hX dX7_come_102 (by decide) ?_
      refine PW.vret hX hR dX7_come_222 rfl rfl ?_
      exact ⟨rfl, mdNw M f 0 (mno M 0 + 1)⟩
    have h72 : ∀ f : Nat → Nat, f 0 = mno M 0 → va_up (va_up (mno M) (10 + mno M 0) (mfi M 1)) (20 + mno M 0) (mfi M 2) = f → PW X 72 [some (.ref 0)] [] (mdB (mNw M f)) 0 0 := by
      intro f hf ef
      have nx := h92 (va_up f (30 + mno M 0) (mfi M 3)) (by rw [va_up_ne _ _ (by omega)]; exact hf) (by rw [ef])
      refine PW.aload_n hX dX7_come_72 rfl rfl ?_
      refine PW.getfield hX fl_X7_13 dX7_come_73 rfl rfl ?_
      refine PW.bipush (v := nI 30) hX dX7_come_76 (by decide) ?_
      refine PW.aload_n hX dX7_come_78 rfl rfl ?_
      refine PW.getfield hX fl_X7_13 dX7_come_79 rfl rfl ?_
      refine PW.iconst (v := nI 0) hX dX7_come_82 (by decide) ?_
      refine PW.iaload hX dX7_come_83 rfl rfl rfl (by omega) ?_
      refine PW.iadd hX dX7_come_84 ?_
      refine PW.top (show nI 30 + nI (f 0) = nI (30 + mno M 0) by rw [hf, nI_add]) ?_
      refine PW.aload_n hX dX7_come_85 rfl rfl ?_
      refine PW.getfield hX fl_X7_32 dX7_come_86 rfl rfl ?_
      refine PW.iconst (v := nI 3) hX dX7_come_89 (by decide) ?_
      refine PW.iaload hX dX7_come_90 rfl rfl rfl (by omega) ?_
      refine PW.iastore hX dX7_come_91 rfl rfl rfl (by omega) ?_
      refine PW.heap (mdNw M f (30 + mno M 0) (mfi M 3)) ?_
      exact nx
    have h52 : ∀ f : Nat → Nat, f 0 = mno M 0 → va_up (mno M) (10 + mno M 0) (mfi M 1) = f → PW X 52 [some (.ref 0)] [] (mdB (mNw M f)) 0 0 := by
      intro f hf ef
      have nx := h72 (va_up f (20 + mno M 0) (mfi M 2)) (by rw [va_up_ne _ _ (by omega)]; exact hf) (by rw [ef])
      refine PW.aload_n hX dX7_come_52 rfl rfl ?_
      refine PW.getfield hX fl_X7_13 dX7_come_53 rfl rfl ?_
      refine PW.bipush (v := nI 20) hX dX7_come_56 (by decide) ?_
      refine PW.aload_n hX dX7_come_58 rfl rfl ?_
      refine PW.getfield hX fl_X7_13 dX7_come_59 rfl rfl ?_
      refine PW.iconst (v := nI 0) hX dX7_come_62 (by decide) ?_
      refine PW.iaload hX dX7_come_63 rfl rfl rfl (by omega) ?_
      refine PW.iadd hX dX7_come_64 ?_
      refine PW.top (show nI 20 + nI (f 0) = nI (20 + mno M 0) by rw [hf, nI_add]) ?_
      refine PW.aload_n hX dX7_come_65 rfl rfl ?_
      refine PW.getfield hX fl_X7_32 dX7_come_66 rfl rfl ?_
      refine PW.iconst (v := nI 2) hX dX7_come_69 (by decide) ?_
      refine PW.iaload hX dX7_come_70 rfl rfl rfl (by omega) ?_
      refine PW.iastore hX dX7_come_71 rfl rfl rfl (by omega) ?_
      refine PW.heap (mdNw M f (20 + mno M 0) (mfi M 2)) ?_
      exact nx
    have nx := h52 (va_up (mno M) (10 + mno M 0) (mfi M 1)) (by rw [va_up_ne _ _ (by omega)]) rfl
    refine PW.aload_n hX dX7_come_0 rfl rfl ?_
    refine PW.getfield hX fl_X7_82 dX7_come_1 rfl rfl ?_
    refine PW.top (show _ = nI 0 by rw [s0]) ?_
    refine PW.lookup (off := 28) (tgt := 32) hX dX7_come_4 (by decide) (by decide) (by decide) ?_
    refine PW.aload_n hX dX7_come_32 rfl rfl ?_
    refine PW.getfield hX fl_X7_13 dX7_come_33 rfl rfl ?_
    refine PW.bipush (v := nI 10) hX dX7_come_36 (by decide) ?_
    refine PW.aload_n hX dX7_come_38 rfl rfl ?_
    refine PW.getfield hX fl_X7_13 dX7_come_39 rfl rfl ?_
    refine PW.iconst (v := nI 0) hX dX7_come_42 (by decide) ?_
    refine PW.iaload hX dX7_come_43 rfl rfl rfl (by omega) ?_
    refine PW.iadd hX dX7_come_44 ?_
    refine PW.top (nI_add 10 (mno M 0)) ?_
    refine PW.aload_n hX dX7_come_45 rfl rfl ?_
    refine PW.getfield hX fl_X7_32 dX7_come_46 rfl rfl ?_
    refine PW.iconst (v := nI 1) hX dX7_come_49 (by decide) ?_
    refine PW.iaload hX dX7_come_50 rfl rfl rfl (by omega) ?_
    refine PW.iastore hX dX7_come_51 rfl rfl rfl (by omega) ?_
    refine PW.heap (mdNw M (mno M) (10 + mno M 0) (mfi M 1)) ?_
    exact nx
  · by_cases s1 : mso M = 1
    · have e : mCome M = mNw M (va_up (va_up (mno M) 2 (mfi M 0)) 3 (mfi M 1)) := by unfold mCome cmF; rw [if_neg s0, if_pos s1]
      rw [e] at hR
      have h117 : ∀ f : Nat → Nat, va_up (mno M) 2 (mfi M 0) = f → PW X 117 [some (.ref 0)] [] (mdB (mNw M f)) 0 0 := by
        intro f ef
        rw [ef] at hR
        refine PW.aload_n hX dX7_come_117 rfl rfl ?_
        refine PW.getfield hX fl_X7_13 dX7_come_118 rfl rfl ?_
        refine PW.iconst (v := nI 3) hX dX7_come_121 (by decide) ?_
        refine PW.aload_n hX dX7_come_122 rfl rfl ?_
        refine PW.getfield hX fl_X7_32 dX7_come_123 rfl rfl ?_
        refine PW.iconst (v := nI 1) hX dX7_come_126 (by decide) ?_
        refine PW.iaload hX dX7_come_127 rfl rfl rfl (by omega) ?_
        refine PW.iastore hX dX7_come_128 rfl rfl rfl (by omega) ?_
        refine PW.goto (tgt := 222) hX dX7_come_129 (by decide) ?_
        refine PW.vret hX hR dX7_come_222 rfl rfl ?_
        exact ⟨rfl, mdNw M f 3 (mfi M 1)⟩
      have nx := h117 (va_up (mno M) 2 (mfi M 0)) rfl
      refine PW.aload_n hX dX7_come_0 rfl rfl ?_
      refine PW.getfield hX fl_X7_82 dX7_come_1 rfl rfl ?_
      refine PW.top (show _ = nI 1 by rw [s1]) ?_
      refine PW.lookup (off := 101) (tgt := 105) hX dX7_come_4 (by decide) (by decide) (by decide) ?_
      refine PW.aload_n hX dX7_come_105 rfl rfl ?_
      refine PW.getfield hX fl_X7_13 dX7_come_106 rfl rfl ?_
      refine PW.iconst (v := nI 2) hX dX7_come_109 (by decide) ?_
      refine PW.aload_n hX dX7_come_110 rfl rfl ?_
      refine PW.getfield hX fl_X7_32 dX7_come_111 rfl rfl ?_
      refine PW.iconst (v := nI 0) hX dX7_come_114 (by decide) ?_
      refine PW.iaload hX dX7_come_115 rfl rfl rfl (by omega) ?_
      refine PW.iastore hX dX7_come_116 rfl rfl rfl (by omega) ?_
      refine PW.heap (mdNw M (mno M) 2 (mfi M 0)) ?_
      exact nx
    · have s2 : mso M = 2 := by omega
      have e : mCome M = mNw M (va_up (va_up (va_up (va_up (va_up (mno M) (40 + mno M 1) (mfi M 0)) (50 + mno M 1) (mfi M 1)) (60 + mno M 1) (mfi M 2)) (70 + mno M 1) (mfi M 3)) 1 (mno M 1 + 1)) := by unfold mCome cmF; rw [if_neg s0, if_neg s1]
      rw [e] at hR
      have h212 : ∀ f : Nat → Nat, f 1 = mno M 1 → va_up (va_up (va_up (va_up (mno M) (40 + mno M 1) (mfi M 0)) (50 + mno M 1) (mfi M 1)) (60 + mno M 1) (mfi M 2)) (70 + mno M 1) (mfi M 3) = f → PW X 212 [some (.ref 0)] [] (mdB (mNw M f)) 0 0 := by
        intro f hf ef
        rw [ef] at hR
        refine PW.aload_n hX dX7_come_212 rfl rfl ?_
        refine PW.getfield hX fl_X7_13 dX7_come_213 rfl rfl ?_
        refine PW.iconst (v := nI 1) hX dX7_come_216 (by decide) ?_
        refine PW.dup2 hX dX7_come_217 rfl rfl ?_
        refine PW.iaload hX dX7_come_218 rfl rfl rfl (by omega) ?_
        refine PW.iconst (v := nI 1) hX dX7_come_219 (by decide) ?_
        refine PW.iadd hX dX7_come_220 ?_
        refine PW.top (show nI (f 1) + nI 1 = nI (mno M 1 + 1) by rw [hf, nI_add]) ?_
        refine PW.iastore hX dX7_come_221 rfl rfl rfl (by omega) ?_
        refine PW.vret hX hR dX7_come_222 rfl rfl ?_
        exact ⟨rfl, mdNw M f 1 (mno M 1 + 1)⟩
      have h192 : ∀ f : Nat → Nat, f 1 = mno M 1 → va_up (va_up (va_up (mno M) (40 + mno M 1) (mfi M 0)) (50 + mno M 1) (mfi M 1)) (60 + mno M 1) (mfi M 2) = f → PW X 192 [some (.ref 0)] [] (mdB (mNw M f)) 0 0 := by
        intro f hf ef
        have nx := h212 (va_up f (70 + mno M 1) (mfi M 3)) (by rw [va_up_ne _ _ (by omega)]; exact hf) (by rw [ef])
        refine PW.aload_n hX dX7_come_192 rfl rfl ?_
        refine PW.getfield hX fl_X7_13 dX7_come_193 rfl rfl ?_
        refine PW.bipush (v := nI 70) hX dX7_come_196 (by decide) ?_
        refine PW.aload_n hX dX7_come_198 rfl rfl ?_
        refine PW.getfield hX fl_X7_13 dX7_come_199 rfl rfl ?_
        refine PW.iconst (v := nI 1) hX dX7_come_202 (by decide) ?_
        refine PW.iaload hX dX7_come_203 rfl rfl rfl (by omega) ?_
        refine PW.iadd hX dX7_come_204 ?_
        refine PW.top (show nI 70 + nI (f 1) = nI (70 + mno M 1) by rw [hf, nI_add]) ?_
        refine PW.aload_n hX dX7_come_205 rfl rfl ?_
        refine PW.getfield hX fl_X7_32 dX7_come_206 rfl rfl ?_
        refine PW.iconst (v := nI 3) hX dX7_come_209 (by decide) ?_
        refine PW.iaload hX dX7_come_210 rfl rfl rfl (by omega) ?_
        refine PW.iastore hX dX7_come_211 rfl rfl rfl (by omega) ?_
        refine PW.heap (mdNw M f (70 + mno M 1) (mfi M 3)) ?_
        exact nx
      have h172 : ∀ f : Nat → Nat, f 1 = mno M 1 → va_up (va_up (mno M) (40 + mno M 1) (mfi M 0)) (50 + mno M 1) (mfi M 1) = f → PW X 172 [some (.ref 0)] [] (mdB (mNw M f)) 0 0 := by
        intro f hf ef
        have nx := h192 (va_up f (60 + mno M 1) (mfi M 2)) (by rw [va_up_ne _ _ (by omega)]; exact hf) (by rw [ef])
        refine PW.aload_n hX dX7_come_172 rfl rfl ?_
        refine PW.getfield hX fl_X7_13 dX7_come_173 rfl rfl ?_
        refine PW.bipush (v := nI 60) hX dX7_come_176 (by decide) ?_
        refine PW.aload_n hX dX7_come_178 rfl rfl ?_
        refine PW.getfield hX fl_X7_13 dX7_come_179 rfl rfl ?_
        refine PW.iconst (v := nI 1) hX dX7_come_182 (by decide) ?_
        refine PW.iaload hX dX7_come_183 rfl rfl rfl (by omega) ?_
        refine PW.iadd hX dX7_come_184 ?_
        refine PW.top (show nI 60 + nI (f 1) = nI (60 + mno M 1) by rw [hf, nI_add]) ?_
        refine PW.aload_n hX dX7_come_185 rfl rfl ?_
        refine PW.getfield hX fl_X7_32 dX7_come_186 rfl rfl ?_
        refine PW.iconst (v := nI 2) hX dX7_come_189 (by decide) ?_
        refine PW.iaload hX dX7_come_190 rfl rfl rfl (by omega) ?_
        refine PW.iastore hX dX7_come_191 rfl rfl rfl (by omega) ?_
        refine PW.heap (mdNw M f (60 + mno M 1) (mfi M 2)) ?_
        exact nx
      have h152 : ∀ f : Nat → Nat, f 1 = mno M 1 → va_up (mno M) (40 + mno M 1) (mfi M 0) = f → PW X 152 [some (.ref 0)] [] (mdB (mNw M f)) 0 0 := by
        intro f hf ef
        have nx := h172 (va_up f (50 + mno M 1) (mfi M 1)) (by rw [va_up_ne _ _ (by omega)]; exact hf) (by rw [ef])
        refine PW.aload_n hX dX7_come_152 rfl rfl ?_
        refine PW.getfield hX fl_X7_13 dX7_come_153 rfl rfl ?_
        refine PW.bipush (v := nI 50) hX dX7_come_156 (by decide) ?_
        refine PW.aload_n hX dX7_come_158 rfl rfl ?_
        refine PW.getfield hX fl_X7_13 dX7_come_159 rfl rfl ?_
        refine PW.iconst (v := nI 1) hX dX7_come_162 (by decide) ?_
        refine PW.iaload hX dX7_come_163 rfl rfl rfl (by omega) ?_
        refine PW.iadd hX dX7_come_164 ?_
        refine PW.top (show nI 50 + nI (f 1) = nI (50 + mno M 1) by rw [hf, nI_add]) ?_
        refine PW.aload_n hX dX7_come_165 rfl rfl ?_
        refine PW.getfield hX fl_X7_32 dX7_come_166 rfl rfl ?_
        refine PW.iconst (v := nI 1) hX dX7_come_169 (by decide) ?_
        refine PW.iaload hX dX7_come_170 rfl rfl rfl (by omega) ?_
        refine PW.iastore hX dX7_come_171 rfl rfl rfl (by omega) ?_
        refine PW.heap (mdNw M f (50 + mno M 1) (mfi M 1)) ?_
        exact nx
      have nx := h152 (va_up (mno M) (40 + mno M 1) (mfi M 0)) (by rw [va_up_ne _ _ (by omega)]) rfl
      refine PW.aload_n hX dX7_come_0 rfl rfl ?_
      refine PW.getfield hX fl_X7_82 dX7_come_1 rfl rfl ?_
      refine PW.top (show _ = nI 2 by rw [s2]) ?_
      refine PW.lookup (off := 128) (tgt := 132) hX dX7_come_4 (by decide) (by decide) (by decide) ?_
      refine PW.aload_n hX dX7_come_132 rfl rfl ?_
      refine PW.getfield hX fl_X7_13 dX7_come_133 rfl rfl ?_
      refine PW.bipush (v := nI 40) hX dX7_come_136 (by decide) ?_
      refine PW.aload_n hX dX7_come_138 rfl rfl ?_
      refine PW.getfield hX fl_X7_13 dX7_come_139 rfl rfl ?_
      refine PW.iconst (v := nI 1) hX dX7_come_142 (by decide) ?_
      refine PW.iaload hX dX7_come_143 rfl rfl rfl (by omega) ?_
      refine PW.iadd hX dX7_come_144 ?_
      refine PW.top (nI_add 40 (mno M 1)) ?_
      refine PW.aload_n hX dX7_come_145 rfl rfl ?_
      refine PW.getfield hX fl_X7_32 dX7_come_146 rfl rfl ?_
      refine PW.iconst (v := nI 0) hX dX7_come_149 (by decide) ?_
      refine PW.iaload hX dX7_come_150 rfl rfl rfl (by omega) ?_
      refine PW.iastore hX dX7_come_151 rfl rfl rfl (by omega) ?_
      refine PW.heap (mdNw M (mno M) (40 + mno M 1) (mfi M 0)) ?_
      exact nx
