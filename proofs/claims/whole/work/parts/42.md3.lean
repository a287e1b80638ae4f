/-! ===== the reference: a statement of the text ===== -/
def mSs (M : Md) (s : Nat) : Md := sB M (mta M, mtn M, mat' M, mwe M, s, mfi M)
def mFf (M : Md) (k v : Nat) : Md := sB M (mta M, mtn M, mat' M, mwe M, mso M, va_up (mfi M) k v)
def mS1 (A : Md) : Md := mFf (mOne A 6 maF).2 0 (mOne A 6 maF).1
def mSf (A : Md) (k r : Nat) : Md := mFf (mFig A r).2 k (mFig A r).1
def mS2 (A : Md) : Md := mFf (mOne A 6 tkF).2 0 (mOne A 6 tkF).1
def mS3 (A : Md) : Md := mSf (mExp (mSf (mSf A 1 1) 2 1) 44) 3 2
def mS0 (M : Md) : Md := mSs (mOne M 3 bgF).2 (mOne M 3 bgF).1
def mStm (M : Md) : Md := if mso (mS0 M) = 1 then mExp (mSf (mS1 (mS0 M)) 1 1) 59 else if mso (mS0 M) = 2 then mExp (mS3 (mS2 (mS0 M))) 59 else mExp (mS3 (mFf (mS0 M) 0 0)) 59
theorem fgL_le (ta : Nat → Nat) (tn : Nat) : ∀ r v n p, p ≤ tn → (fgL ta tn r v n p).2.2 ≤ tn
  | 0, _, _, _, h => h
  | r + 1, v, n, p, h => by
    rw [show fgL ta tn (r + 1) v n p = if p < tn ∧ 48 ≤ ta p ∧ ta p ≤ 57 then fgL ta tn r (10 * v + ta p - 48) (n + 1) (p + 1) else (v, n, p) from rfl]
    by_cases hc : p < tn ∧ 48 ≤ ta p ∧ ta p ≤ 57
    · rw [if_pos hc]; exact fgL_le ta tn r _ _ _ (by omega)
    · rw [if_neg hc]; exact h
theorem MtR_at {M : Md} (h : MtR M) {p : Nat} (w : Bool) (hp : p ≤ mtn M) : MtR (mAt M p w) := ⟨h.1, hp, h.2.2⟩
theorem MtR_exp {M : Md} (h : MtR M) (c : Nat) : MtR (mExp M c) := by
  unfold mExp
  by_cases hc : mwe M = true ∧ mat' M < mtn M ∧ mta M (mat' M) = c
  · rw [if_pos hc]; exact MtR_at h _ (by omega)
  · rw [if_neg hc]; exact MtR_at h _ h.2.1
theorem MtR_one {M : Md} (h : MtR M) (n : Nat) (f : Nat → Int32) : MtR (mOne M n f).2 := by
  unfold mOne
  by_cases hc : mwe M = true ∧ mat' M < mtn M
  · rw [if_pos hc]
    cases ooF f (mta M (mat' M)) n 0 with
    | none => exact MtR_at h _ h.2.1
    | some k => exact MtR_at h _ (by omega)
  · rw [if_neg hc]; exact MtR_at h _ h.2.1
theorem MtR_fig {M : Md} (h : MtR M) (r : Nat) : MtR (mFig M r).2 := by
  unfold mFig
  cases mwe M with
  | false => exact h
  | true => exact MtR_at h _ (fgL_le _ _ _ _ _ _ h.2.1)
theorem MtR_ss {M : Md} (h : MtR M) (s : Nat) : MtR (mSs M s) := h
theorem MtR_ff {M : Md} (h : MtR M) (k v : Nat) : MtR (mFf M k v) := h
theorem MtR_sf {M : Md} (h : MtR M) (k r : Nat) : MtR (mSf M k r) := MtR_ff (MtR_fig h r) k _
theorem MtR_s0 {M : Md} (h : MtR M) : MtR (mS0 M) := MtR_ss (MtR_one h 3 bgF) _
theorem MtR_s1 {M : Md} (h : MtR M) : MtR (mS1 M) := MtR_ff (MtR_one h 6 maF) _ _
theorem MtR_s2 {M : Md} (h : MtR M) : MtR (mS2 M) := MtR_ff (MtR_one h 6 tkF) _ _
theorem MtR_s3 {M : Md} (h : MtR M) : MtR (mS3 M) := MtR_sf (MtR_exp (MtR_sf (MtR_sf h 1 1) 2 1) 44) 3 2
theorem MtR_stm {M : Md} (h : MtR M) : MtR (mStm M) := by
  unfold mStm
  by_cases h1 : mso (mS0 M) = 1
  · rw [if_pos h1]; exact MtR_exp (MtR_sf (MtR_s1 (MtR_s0 h)) 1 1) 59
  · rw [if_neg h1]
    by_cases h2 : mso (mS0 M) = 2
    · rw [if_pos h2]; exact MtR_exp (MtR_s3 (MtR_s2 (MtR_s0 h))) 59
    · rw [if_neg h2]; exact MtR_exp (MtR_s3 (MtR_ff (MtR_s0 h) 0 0)) 59
theorem mdFf (M : Md) (k v : Nat) : (mdB M).set 8 (.inl (0, 4, upd (fun j => nI (mfi M j)) k (nI v))) = mdB (mFf M k v) := by
  rw [upd_nI]; rfl
theorem mOne_lt (M : Md) (n : Nat) (f : Nat → Int32) (hn : 0 < n) : (mOne M n f).1 < n := by
  unfold mOne
  by_cases hc : mwe M = true ∧ mat' M < mtn M
  · rw [if_pos hc]
    cases h : ooF f (mta M (mat' M)) n 0 with
    | none => exact hn
    | some k => have := ooF_lt _ _ _ _ _ h; simpa using this
  · rw [if_neg hc]; exact hn
theorem pm_mstm (M : Md) (tr : MtR M) : PM mu_X7_statement 1 0 0 [.ref 0] (mdB M) (eqP none (mdB (mStm M))) := by
  refine PM.start (Or.inl (by decide +kernel)) rfl rfl rfl ?_
  intro X hX hR hx hin
  have h113 : ∀ C : Md, MtR C → mStm M = mExp C 59 → PW X 113 [some (.ref 0)] [] (mdB C) 0 0 := by
    intro C tc e
    rw [e] at hR
    refine PW.aload_n hX dX7_statement_113 rfl rfl ?_
    refine PW.bipush (v := nI 59) hX dX7_statement_114 (by decide) ?_
    refine PW.vVi hX ml_X7_88 (pm_mexpect C tc 59 (by decide)) dX7_statement_116 17 rfl rfl rfl rfl rfl rfl rfl rfl rfl rfl rfl rfl rfl rfl rfl ?_
    refine PW.vret hX hR dX7_statement_119 rfl rfl ?_
    exact ⟨rfl, rfl⟩
  have h112 : ∀ (v : Nat) (C : Md), MtR C → mStm M = mExp (mFf C 3 v) 59 → PW X 112 [some (.ref 0)] [.int (nI v), .int (nI 3), .ref 8] (mdB C) 0 0 := by
    intro v C tc e
    have nx := h113 (mFf C 3 v) (MtR_ff tc 3 v) e
    refine PW.iastore hX dX7_statement_112 rfl rfl rfl (by omega) ?_
    refine PW.heap (mdFf C 3 v) ?_
    exact nx
  have h102 : ∀ C : Md, MtR C → mStm M = mExp (mSf C 3 2) 59 → PW X 102 [some (.ref 0)] [] (mdB C) 0 0 := by
    intro C tc e
    have nx := h112 (mFig C 2).1 (mFig C 2).2 (MtR_fig tc 2) e
    refine PW.aload_n hX dX7_statement_102 rfl rfl ?_
    refine PW.getfield hX fl_X7_32 dX7_statement_103 rfl rfl ?_
    refine PW.iconst (v := nI 3) hX dX7_statement_106 (by decide) ?_
    refine PW.aload_n hX dX7_statement_107 rfl rfl ?_
    refine PW.iconst (v := nI 2) hX dX7_statement_108 (by decide) ?_
    refine PW.vIi hX ml_X7_85 (pm_mfigures C tc 2 (by decide)) dX7_statement_109 17 rfl rfl rfl rfl rfl rfl rfl rfl rfl rfl rfl rfl rfl rfl rfl ?_
    exact nx
  have h95 : ∀ (v : Nat) (C : Md), MtR C → mStm M = mExp (mSf (mExp (mFf C 2 v) 44) 3 2) 59 → PW X 95 [some (.ref 0)] [.int (nI v), .int (nI 2), .ref 8] (mdB C) 0 0 := by
    intro v C tc e
    have t2 : MtR (mFf C 2 v) := MtR_ff tc 2 v
    have nx := h102 (mExp (mFf C 2 v) 44) (MtR_exp t2 44) e
    refine PW.iastore hX dX7_statement_95 rfl rfl rfl (by omega) ?_
    refine PW.heap (mdFf C 2 v) ?_
    refine PW.aload_n hX dX7_statement_96 rfl rfl ?_
    refine PW.bipush (v := nI 44) hX dX7_statement_97 (by decide) ?_
    refine PW.vVi hX ml_X7_88 (pm_mexpect (mFf C 2 v) t2 44 (by decide)) dX7_statement_99 17 rfl rfl rfl rfl rfl rfl rfl rfl rfl rfl rfl rfl rfl rfl rfl ?_
    exact nx
  have h84 : ∀ (v : Nat) (C : Md), MtR C → mStm M = mExp (mSf (mExp (mSf (mFf C 1 v) 2 1) 44) 3 2) 59 → PW X 84 [some (.ref 0)] [.int (nI v), .int (nI 1), .ref 8] (mdB C) 0 0 := by
    intro v C tc e
    have t2 : MtR (mFf C 1 v) := MtR_ff tc 1 v
    have nx := h95 (mFig (mFf C 1 v) 1).1 (mFig (mFf C 1 v) 1).2 (MtR_fig t2 1) e
    refine PW.iastore hX dX7_statement_84 rfl rfl rfl (by omega) ?_
    refine PW.heap (mdFf C 1 v) ?_
    refine PW.aload_n hX dX7_statement_85 rfl rfl ?_
    refine PW.getfield hX fl_X7_32 dX7_statement_86 rfl rfl ?_
    refine PW.iconst (v := nI 2) hX dX7_statement_89 (by decide) ?_
    refine PW.aload_n hX dX7_statement_90 rfl rfl ?_
    refine PW.iconst (v := nI 1) hX dX7_statement_91 (by decide) ?_
    refine PW.vIi hX ml_X7_85 (pm_mfigures (mFf C 1 v) t2 1 (by decide)) dX7_statement_92 17 rfl rfl rfl rfl rfl rfl rfl rfl rfl rfl rfl rfl rfl rfl rfl ?_
    exact nx
  have h73 : ∀ (v : Nat) (C : Md), MtR C → mStm M = mExp (mS3 (mFf C 0 v)) 59 → PW X 73 [some (.ref 0)] [.int (nI v), .int (nI 0), .ref 8] (mdB C) 0 0 := by
    intro v C tc e
    have t2 : MtR (mFf C 0 v) := MtR_ff tc 0 v
    have nx := h84 (mFig (mFf C 0 v) 1).1 (mFig (mFf C 0 v) 1).2 (MtR_fig t2 1) e
    refine PW.iastore hX dX7_statement_73 rfl rfl rfl (by omega) ?_
    refine PW.heap (mdFf C 0 v) ?_
    refine PW.aload_n hX dX7_statement_74 rfl rfl ?_
    refine PW.getfield hX fl_X7_32 dX7_statement_75 rfl rfl ?_
    refine PW.iconst (v := nI 1) hX dX7_statement_78 (by decide) ?_
    refine PW.aload_n hX dX7_statement_79 rfl rfl ?_
    refine PW.iconst (v := nI 1) hX dX7_statement_80 (by decide) ?_
    refine PW.vIi hX ml_X7_85 (pm_mfigures (mFf C 0 v) t2 1 (by decide)) dX7_statement_81 17 rfl rfl rfl rfl rfl rfl rfl rfl rfl rfl rfl rfl rfl rfl rfl ?_
    exact nx
  have h44 : ∀ (v : Nat) (C : Md), MtR C → mStm M = mExp (mFf C 1 v) 59 → PW X 44 [some (.ref 0)] [.int (nI v), .int (nI 1), .ref 8] (mdB C) 0 0 := by
    intro v C tc e
    have nx := h113 (mFf C 1 v) (MtR_ff tc 1 v) e
    refine PW.iastore hX dX7_statement_44 rfl rfl rfl (by omega) ?_
    refine PW.heap (mdFf C 1 v) ?_
    refine PW.goto (tgt := 113) hX dX7_statement_45 (by decide) ?_
    exact nx
  have h33 : ∀ (v : Nat) (C : Md), MtR C → mStm M = mExp (mSf (mFf C 0 v) 1 1) 59 → PW X 33 [some (.ref 0)] [.int (nI v), .int (nI 0), .ref 8] (mdB C) 0 0 := by
    intro v C tc e
    have t2 : MtR (mFf C 0 v) := MtR_ff tc 0 v
    have nx := h44 (mFig (mFf C 0 v) 1).1 (mFig (mFf C 0 v) 1).2 (MtR_fig t2 1) e
    refine PW.iastore hX dX7_statement_33 rfl rfl rfl (by omega) ?_
    refine PW.heap (mdFf C 0 v) ?_
    refine PW.aload_n hX dX7_statement_34 rfl rfl ?_
    refine PW.getfield hX fl_X7_32 dX7_statement_35 rfl rfl ?_
    refine PW.iconst (v := nI 1) hX dX7_statement_38 (by decide) ?_
    refine PW.aload_n hX dX7_statement_39 rfl rfl ?_
    refine PW.iconst (v := nI 1) hX dX7_statement_40 (by decide) ?_
    refine PW.vIi hX ml_X7_85 (pm_mfigures (mFf C 0 v) t2 1 (by decide)) dX7_statement_41 17 rfl rfl rfl rfl rfl rfl rfl rfl rfl rfl rfl rfl rfl rfl rfl ?_
    exact nx
  have h12 : ∀ A : Md, MtR A → mso A < 3 → mStm M = (if mso A = 1 then mExp (mSf (mS1 A) 1 1) 59 else if mso A = 2 then mExp (mS3 (mS2 A)) 59 else mExp (mS3 (mFf A 0 0)) 59) → PW X 12 [some (.ref 0)] [] (mdB A) 0 0 := by
    intro A ta hs e
    have n1 := fun q => h33 (mOne A 6 maF).1 (mOne A 6 maF).2 (MtR_one ta 6 maF) q
    have n2 := fun q => h73 (mOne A 6 tkF).1 (mOne A 6 tkF).2 (MtR_one ta 6 tkF) q
    have n3 := fun q => h73 0 A ta q
    refine PW.aload_n hX dX7_statement_12 rfl rfl ?_
    refine PW.getfield hX fl_X7_82 dX7_statement_13 rfl rfl ?_
    refine PW.iconst (v := nI 1) hX dX7_statement_16 (by decide) ?_
    refine PW.icmp_ne (tgt := 48) hX dX7_statement_17 (by decide) (fun c17 => ?_) (fun c17 => ?_)
    · first | rw [nI_eq (by omega) (by omega)] at c17 | rw [oI_eq9] at c17 | skip
      rw [if_neg c17] at e
      refine PW.aload_n hX dX7_statement_48 rfl rfl ?_
      refine PW.getfield hX fl_X7_32 dX7_statement_49 rfl rfl ?_
      refine PW.iconst (v := nI 0) hX dX7_statement_52 (by decide) ?_
      refine PW.aload_n hX dX7_statement_53 rfl rfl ?_
      refine PW.getfield hX fl_X7_82 dX7_statement_54 rfl rfl ?_
      refine PW.iconst (v := nI 2) hX dX7_statement_57 (by decide) ?_
      refine PW.icmp_ne (tgt := 72) hX dX7_statement_58 (by decide) (fun c58 => ?_) (fun c58 => ?_)
      · first | rw [nI_eq (by omega) (by omega)] at c58 | rw [oI_eq9] at c58 | skip
        rw [if_neg c58] at e
        refine PW.iconst (v := nI 0) hX dX7_statement_72 (by decide) ?_
        exact n3 e
      · first | rw [nI_eq (by omega) (by omega)] at c58 | rw [oI_eq9] at c58 | skip
        rw [if_pos c58] at e
        refine PW.aload_n hX dX7_statement_61 rfl rfl ?_
        refine PW.aload_n hX dX7_statement_62 rfl rfl ?_
        refine PW.getfield hX fl_X7_29 dX7_statement_63 rfl rfl ?_
        refine PW.vIi hX ml_X7_78 (pm_moneOf A ta 7 6 tkF rfl (by decide)) dX7_statement_66 17 rfl rfl rfl rfl rfl rfl rfl rfl rfl rfl rfl rfl rfl rfl rfl ?_
        refine PW.goto (tgt := 73) hX dX7_statement_69 (by decide) ?_
        exact n2 e
    · first | rw [nI_eq (by omega) (by omega)] at c17 | rw [oI_eq9] at c17 | skip
      rw [if_pos c17] at e
      refine PW.aload_n hX dX7_statement_20 rfl rfl ?_
      refine PW.getfield hX fl_X7_32 dX7_statement_21 rfl rfl ?_
      refine PW.iconst (v := nI 0) hX dX7_statement_24 (by decide) ?_
      refine PW.aload_n hX dX7_statement_25 rfl rfl ?_
      refine PW.aload_n hX dX7_statement_26 rfl rfl ?_
      refine PW.getfield hX fl_X7_26 dX7_statement_27 rfl rfl ?_
      refine PW.vIi hX ml_X7_78 (pm_moneOf A ta 6 6 maF rfl (by decide)) dX7_statement_30 17 rfl rfl rfl rfl rfl rfl rfl rfl rfl rfl rfl rfl rfl rfl rfl ?_
      exact n1 e
  have h9 : ∀ (v : Nat) (A : Md), MtR A → v < 3 → mStm M = (if v = 1 then mExp (mSf (mS1 (mSs A v)) 1 1) 59 else if v = 2 then mExp (mS3 (mS2 (mSs A v))) 59 else mExp (mS3 (mFf (mSs A v) 0 0)) 59) → PW X 9 [some (.ref 0)] [.int (nI v), .ref 0] (mdB A) 0 0 := by
    intro v A ta hv e
    have nx := h12 (mSs A v) (MtR_ss ta v) hv e
    refine PW.putI hX fp_X7_82 dX7_statement_9 rfl rfl ?_
    exact nx
  have nx := h9 (mOne M 3 bgF).1 (mOne M 3 bgF).2 (MtR_one tr 3 bgF) (mOne_lt M 3 bgF (by decide)) rfl
  refine PW.aload_n hX dX7_statement_0 rfl rfl ?_
  refine PW.aload_n hX dX7_statement_1 rfl rfl ?_
  refine PW.aload_n hX dX7_statement_2 rfl rfl ?_
  refine PW.getfield hX fl_X7_22 dX7_statement_3 rfl rfl ?_
  refine PW.vIi hX ml_X7_78 (pm_moneOf M tr 5 3 bgF rfl (by decide)) dX7_statement_6 17 rfl rfl rfl rfl rfl rfl rfl rfl rfl rfl rfl rfl rfl rfl rfl ?_
  exact nx
