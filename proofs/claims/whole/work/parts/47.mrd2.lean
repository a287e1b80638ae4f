/-! ===== the reference: read, floor ===== -/
def tO (M : Md) : Te := (mta M, mtn M, mat' M, 0, 0, 0, 0, 0)
theorem AR_o (M : Md) : AR (tO M) M := ⟨rfl, rfl, rfl⟩
theorem tO_R {M : Md} (tr : MtR M) : TeR (tO M) := tr
theorem stm_K {M : Md} (tr : MtR M) (w : mwe M = true) : mta (mStm M) = mta M ∧ mtn (mStm M) = mtn M ∧ (mwe (mStm M) = true → mat' M < mat' (mStm M)) := by
  obtain ⟨a, b, _⟩ := stm_R (AR_o M) w (tO_R tr).2.2
  obtain ⟨r1, r2, r3, r4, r5⟩ := rSt_R (tO M) (tO_R tr)
  refine ⟨a.1.trans r2, a.2.1.trans r3, fun h => ?_⟩
  rw [a.2.2]
  exact r5 (b.symm.trans h)
theorem sb_no {A B : Md} (h : SB A B) : mno B = mno A := by
  show B.1.2.1 = A.1.2.1
  rw [h.1]
def sm (M N : Md) : Prop := mta N = mta M ∧ mtn N = mtn M ∧ mat' N = mat' M ∧ mwe N = mwe M
theorem AR_sm {T : Te} {M N : Md} (s : sm M N) (h : AR T M) : AR T N := ⟨s.1.trans h.1, s.2.1.trans h.2.1, s.2.2.1.trans h.2.2⟩
theorem MtR_sm {M N : Md} (s : sm M N) (h : MtR M) : MtR N := by
  obtain ⟨s1, s2, s3, s4⟩ := s
  unfold MtR
  rw [s1, s2, s3]
  exact h
theorem F3_eq {Z : Te} {M N : Md} (h : F3 Z M) (k : F3 Z N) : mfi M 1 = mfi N 1 ∧ mfi M 2 = mfi N 2 ∧ mfi M 3 = mfi N 3 := by
  obtain ⟨a1, a2, a3, a4, a5, a6⟩ := h
  obtain ⟨b1, b2, b3, b4, b5, b6⟩ := k
  exact ⟨(nI_eq (by omega) (by omega)).mp (a1.symm.trans b1), (nI_eq (by omega) (by omega)).mp (a2.symm.trans b2), (nI_eq (by omega) (by omega)).mp (a3.symm.trans b3)⟩
theorem SF_eq {Z : Te} {M N : Md} (h : SF Z M) (k : SF Z N) : mso M = mso N ∧ ∀ j c, mAim M j c = mAim N j c := by
  rcases h with ⟨h1, h2, h3⟩ | ⟨h1, h2, h3⟩ | ⟨h1, h2, h3, h4, h5⟩
  · rcases k with ⟨k1, k2, k3⟩ | ⟨k1, k2, k3⟩ | ⟨k1, k2, k3, k4, k5⟩
    · obtain ⟨e1, e2, e3⟩ := F3_eq h3 k3
      refine ⟨h2.trans k2.symm, fun j c => ?_⟩
      unfold mAim
      rw [e1, e2, e3, h2, k2]
    · rw [h1] at k1; exact absurd k1 (by decide)
    · rw [h1] at k1; exact absurd k1 (by decide)
  · rcases k with ⟨k1, k2, k3⟩ | ⟨k1, k2, k3⟩ | ⟨k1, k2, k3, k4, k5⟩
    · rw [h1] at k1; exact absurd k1 (by decide)
    · refine ⟨h2.trans k2.symm, fun j c => ?_⟩
      unfold mAim
      rw [decide_eq_true (Or.inl h2), decide_eq_true (Or.inl k2)]
    · rw [h1] at k1; exact absurd k1 (by decide)
  · rcases k with ⟨k1, k2, k3⟩ | ⟨k1, k2, k3⟩ | ⟨k1, k2, k3, k4, k5⟩
    · rw [h1] at k1; exact absurd k1 (by decide)
    · rw [h1] at k1; exact absurd k1 (by decide)
    · obtain ⟨e1, e2, e3⟩ := F3_eq h5 k5
      refine ⟨h2.trans k2.symm, fun j c => ?_⟩
      unfold mAim
      rw [e1, e2, e3, h2, k2]
theorem stm_sm {M N : Md} (tr : MtR M) (w : mwe M = true) (s : sm M N) : sm (mStm M) (mStm N) ∧ (mwe (mStm M) = true → mso (mStm M) = mso (mStm N) ∧ ∀ j c, mAim (mStm M) j c = mAim (mStm N) j c) := by
  have wN : mwe N = true := s.2.2.2.trans w
  obtain ⟨a, b, c⟩ := stm_R (AR_o M) w (tO_R tr).2.2
  obtain ⟨a', b', c'⟩ := stm_R (AR_sm s (AR_o M)) wN (tO_R tr).2.2
  refine ⟨⟨a'.1.trans a.1.symm, a'.2.1.trans a.2.1.symm, a'.2.2.trans a.2.2.symm, b'.trans b.symm⟩, fun h => ?_⟩
  have h1 : (rSt (tO M)).1 = true := b.symm.trans h
  exact SF_eq (c h1) (c' h1)
def gd : Nat → Md → Prop
  | 0, M => mtn M ≤ mat' M
  | k + 1, M => mtn M ≤ mat' M ∨ (mwe (mStm M) = true ∧ gd k (mStm M))
theorem gd_sm : ∀ (k : Nat) {M N : Md}, MtR M → mwe M = true → sm M N → gd k M → gd k N
  | 0, M, N, _, _, s, h => by
    show mtn N ≤ mat' N
    rw [s.2.1, s.2.2.1]; exact h
  | k + 1, M, N, tr, w, s, h => by
    rcases h with h | ⟨h1, h2⟩
    · refine Or.inl ?_
      rw [s.2.1, s.2.2.1]; exact h
    · obtain ⟨s2, _⟩ := stm_sm tr w s
      exact Or.inr ⟨s2.2.2.2.trans h1, gd_sm k (MtR_stm tr) h1 s2 h2⟩
def jn (M : Md) (j : Nat) : Nat := j + (if mso M = 0 then 1 else 0)
def cn' (M : Md) (c : Nat) : Nat := c + (if mso M = 2 then 1 else 0)
def gdA : Nat → Nat → Nat → Md → Prop
  | 0, _, _, M => mtn M ≤ mat' M
  | k + 1, j, c, M => mtn M ≤ mat' M ∨ (mwe (mStm M) = true ∧ mAim (mStm M) j c = true ∧ gdA k (jn (mStm M) j) (cn' (mStm M) c) (mStm M))
theorem gdA_sm : ∀ (k j c : Nat) {M N : Md}, MtR M → mwe M = true → sm M N → gdA k j c M → gdA k j c N
  | 0, j, c, M, N, _, _, s, h => by
    show mtn N ≤ mat' N
    rw [s.2.1, s.2.2.1]; exact h
  | k + 1, j, c, M, N, tr, w, s, h => by
    rcases h with h | ⟨h1, h2, h3⟩
    · refine Or.inl ?_
      rw [s.2.1, s.2.2.1]; exact h
    · obtain ⟨s2, s3⟩ := stm_sm tr w s
      obtain ⟨e1, e2⟩ := s3 h1
      refine Or.inr ⟨s2.2.2.2.trans h1, (e2 j c).symm.trans h2, ?_⟩
      have h4 := gdA_sm k _ _ (MtR_stm tr) h1 s2 h3
      unfold jn cn' at h4 ⊢
      rw [← e1]
      exact h4
def rd1 : Nat → Nat → Md → Nat × Md
  | 0, n, M => (n, M)
  | k + 1, n, M => bif mwe (mStm M) && decide (mat' (mStm M) < mtn (mStm M)) then rd1 k (n + 1) (mStm M) else (n + 1, mStm M)
def rd2 : Nat → Nat → Nat → Md → Option Nat × Md
  | 0, _, _, M => (none, M)
  | k + 1, j, c, M => if mat' M < mtn M then (bif mAim (mStm M) j c then rd2 k (jn (mStm M) j) (cn' (mStm M) c) (mStm M) else (some (mat' M), mStm M)) else (none, M)
def rd3 : Nat → Md → Md
  | 0, M => M
  | k + 1, M => if mat' M < mtn M then rd3 k (mCome (mStm M)) else M
def rdG (n : Nat) (Z : Option Nat × Md) : Int32 × Md := match Z.1 with
  | some b => (-2000 - nI b, Z.2)
  | none => (nI n, rd3 81 (mAt Z.2 0 (mwe Z.2)))
def rdF (Z : Nat × Md) : Int32 × Md := bif mwe Z.2 then rdG Z.1 (rd2 81 (mno Z.2 0) (mno Z.2 1) (mAt Z.2 0 (mwe Z.2))) else (-1000 - nI (mat' Z.2), Z.2)
def mRead (M : Md) : Int32 × Md := rdF (rd1 81 0 (mAt M 0 true))
theorem cm_0 (M : Md) (h0 : mno M 0 < 10) (h1 : mno M 1 < 10) : mno (mCome M) 0 = jn M (mno M 0) ∧ (mso M < 3 → mno (mCome M) 1 = cn' M (mno M 1)) := by
  show cmF (mso M) (mfi M) (mno M) 0 = jn M (mno M 0) ∧ (mso M < 3 → cmF (mso M) (mfi M) (mno M) 1 = cn' M (mno M 1))
  unfold cmF jn cn'
  by_cases s0 : mso M = 0
  · rw [if_pos s0, if_pos s0, va_up_self, va_up_ne _ _ (by decide), va_up_ne _ _ (by omega), va_up_ne _ _ (by omega), va_up_ne _ _ (by omega), if_neg (by omega)]
    exact ⟨rfl, fun _ => rfl⟩
  · rw [if_neg s0, if_neg s0]
    by_cases s1 : mso M = 1
    · rw [if_pos s1, va_up_ne _ _ (by decide), va_up_ne _ _ (by decide), va_up_ne _ _ (by decide), va_up_ne _ _ (by decide), if_neg (by omega)]
      exact ⟨rfl, fun _ => rfl⟩
    · rw [if_neg s1, va_up_ne _ _ (by decide), va_up_ne _ _ (by omega), va_up_ne _ _ (by omega), va_up_ne _ _ (by omega), va_up_ne _ _ (by omega), va_up_self]
      exact ⟨rfl, fun h => by rw [if_pos (by omega)]⟩
theorem aim_lt {M : Md} {j c : Nat} (h : mAim M j c = true) : (mso M = 0 → j < 6) ∧ (mso M = 2 → c < 6) := by
  unfold mAim at h
  have h := of_decide_eq_true h
  omega
theorem pm_mread (M : Md) (tr : mtn M ≤ 80 ∧ ∀ i, i < mtn M → mta M i < 256) (mf : MfR M) (h0 : mno M 0 ≤ 6) (h1 : mno M 1 ≤ 6) : PM mu_X7_read 2 0 0 [.ref 0] (mdB M) (eqP (some (.int (mRead M).1)) (mdB (mRead M).2)) := by
  refine PM.start (Or.inl (by decide +kernel)) rfl rfl rfl ?_
  intro X hX hR hx hin
  -- the third pass
  have loop3 : ∀ (q k n j c : Nat) (A : Md), MtR A → mwe A = true → MfR A → mtn A < mat' A + q → mno A 0 = j → mno A 1 = c → j ≤ 6 → c ≤ 6 → gdA k j c A → mRead M = (nI n, rd3 q A) → PW X 148 [some (.ref 0), some (.int (nI n)), none, none, none] [] (mdB A) 0 0 := by
    intro q
    induction q with
    | zero => intro k n j c A ta; have := ta.2.1; omega
    | succ q ih =>
      intro k n j c A ta w fa hm e0 e1 j6 c6 g e
      obtain ⟨t1, t2, t3⟩ := id ta
      rw [rd3] at e
      by_cases hp : mat' A < mtn A
      · rw [if_pos hp] at e
        have g2 : ∃ k2, mwe (mStm A) = true ∧ mAim (mStm A) j c = true ∧ gdA k2 (jn (mStm A) j) (cn' (mStm A) c) (mStm A) := by
          cases k with
          | zero => exact absurd hp (by have : mtn A ≤ mat' A := g; omega)
          | succ k2 => exact ⟨k2, Or.resolve_left g (by omega)⟩
        obtain ⟨k2, w2, ai, g3⟩ := g2
        obtain ⟨s1, s2, s3⟩ := stm_K ta w
        have s3 := s3 w2
        have en : mno (mStm A) = mno A := sb_no (sb_stm A)
        obtain ⟨f2, so⟩ := MfR_stm fa
        obtain ⟨l1, l2⟩ := aim_lt ai
        have b0 : mno (mStm A) 0 < 10 := by rw [en]; omega
        have b1 : mno (mStm A) 1 < 10 := by rw [en]; omega
        obtain ⟨c0, c1⟩ := cm_0 (mStm A) b0 b1
        have c1 := c1 so
        rw [en, e0] at c0
        rw [en, e1] at c1
        have tc : MtR (mCome (mStm A)) := MtR_stm ta
        have nx := ih k2 n (jn (mStm A) j) (cn' (mStm A) c) (mCome (mStm A)) tc w2 f2 (by show mtn (mStm A) < mat' (mStm A) + q; omega) c0 c1 (by unfold jn; split <;> omega) (by unfold cn'; split <;> omega) (gdA_sm k2 _ _ (MtR_stm ta) w2 ⟨rfl, rfl, rfl, rfl⟩ g3) e
        refine PW.aload_n hX dX7_read_148 rfl rfl ?_
        refine PW.getfield hX fl_X7_75 dX7_read_149 rfl rfl ?_
        refine PW.aload_n hX dX7_read_152 rfl rfl ?_
        refine PW.getfield hX fl_X7_68 dX7_read_153 rfl rfl ?_
        refine PW.icmp_ge (tgt := 170) hX dX7_read_156 (by decide) (fun c156 => ?_) (fun c156 => ?_)
        · try rw [nI_leI (by omega) (by omega)] at c156
          exfalso; omega -- CLOSED
        · try rw [nI_leI (by omega) (by omega)] at c156
          refine PW.aload_n hX dX7_read_159 rfl rfl ?_
          refine PW.vVi hX ml_X7_92 (pm_mstm A ta) dX7_read_160 17 rfl rfl rfl rfl rfl rfl rfl rfl rfl rfl rfl rfl rfl rfl rfl ?_
          refine PW.aload_n hX dX7_read_163 rfl rfl ?_
          refine PW.vVi hX ml_X7_99 (pm_mcome (mStm A) so b0 b1) dX7_read_164 17 rfl rfl rfl rfl rfl rfl rfl rfl rfl rfl rfl rfl rfl rfl rfl ?_
          refine PW.goto (tgt := 148) hX dX7_read_167 (by decide) ?_
          exact nx
      · rw [if_neg hp] at e
        rw [e] at hR
        refine PW.aload_n hX dX7_read_148 rfl rfl ?_
        refine PW.getfield hX fl_X7_75 dX7_read_149 rfl rfl ?_
        refine PW.aload_n hX dX7_read_152 rfl rfl ?_
        refine PW.getfield hX fl_X7_68 dX7_read_153 rfl rfl ?_
        refine PW.icmp_ge (tgt := 170) hX dX7_read_156 (by decide) (fun c156 => ?_) (fun c156 => ?_)
        · try rw [nI_leI (by omega) (by omega)] at c156
          refine PW.iload_n hX dX7_read_170 rfl rfl ?_
          refine PW.iret hX hR dX7_read_171 rfl rfl ?_
          exact ⟨rfl, rfl⟩
        · try rw [nI_leI (by omega) (by omega)] at c156
          exfalso; omega -- CLOSED
  -- the second pass
  have loop2 : ∀ (q k i n j c : Nat) (A S : Md) (js cs : Nat), MtR A → mwe A = true → MfR A → mtn A < mat' A + q → mno A 0 = js → mno A 1 = cs → js ≤ 6 → cs ≤ 6 → j ≤ 6 → c ≤ 6 → gd k A → MtR S → mwe S = true → mtn S = mtn A → mta S = mta A → mat' S = 0 → (∀ k', gdA k' j c A → gdA (i + k') js cs S) → mRead M = rdG n (rd2 q j c A) → PW X 72 [some (.ref 0), some (.int (nI n)), some (.int (nI j)), some (.int (nI c)), none] [] (mdB A) 0 0 := by
    intro q
    induction q with
    | zero => intro k i n j c A S js cs ta; have := ta.2.1; omega
    | succ q ih =>
      intro k i n j c A S js cs ta w fa hm e0 e1 js6 cs6 j6 c6 g tS wS z1 z2 z3 gS e
      obtain ⟨t1, t2, t3⟩ := id ta
      rw [rd2] at e
      by_cases hp : mat' A < mtn A
      · rw [if_pos hp] at e
        have g2 : ∃ k2, mwe (mStm A) = true ∧ gd k2 (mStm A) := by
          cases k with
          | zero => exact absurd hp (by have : mtn A ≤ mat' A := g; omega)
          | succ k2 => exact ⟨k2, Or.resolve_left g (by omega)⟩
        obtain ⟨k2, w2, g3⟩ := g2
        obtain ⟨s1, s2, s3⟩ := stm_K ta w
        have s3 := s3 w2
        have en : mno (mStm A) = mno A := sb_no (sb_stm A)
        obtain ⟨f2, so⟩ := MfR_stm fa
        cases ai : mAim (mStm A) j c with
        | false =>
          rw [ai] at e
          have e : mRead M = (-2000 - nI (mat' A), mStm A) := e
          rw [e] at hR
          refine PW.aload_n hX dX7_read_72 rfl rfl ?_
          refine PW.getfield hX fl_X7_75 dX7_read_73 rfl rfl ?_
          refine PW.aload_n hX dX7_read_76 rfl rfl ?_
          refine PW.getfield hX fl_X7_68 dX7_read_77 rfl rfl ?_
          refine PW.icmp_ge (tgt := 143) hX dX7_read_80 (by decide) (fun c80 => ?_) (fun c80 => ?_)
          · try rw [nI_leI (by omega) (by omega)] at c80
            exfalso; omega -- CLOSED
          · try rw [nI_leI (by omega) (by omega)] at c80
            refine PW.aload_n hX dX7_read_83 rfl rfl ?_
            refine PW.getfield hX fl_X7_75 dX7_read_84 rfl rfl ?_
            refine PW.istore hX dX7_read_87 rfl ?_
            refine PW.aload_n hX dX7_read_89 rfl rfl ?_
            refine PW.vVi hX ml_X7_92 (pm_mstm A ta) dX7_read_90 17 rfl rfl rfl rfl rfl rfl rfl rfl rfl rfl rfl rfl rfl rfl rfl ?_
            refine PW.aload_n hX dX7_read_93 rfl rfl ?_
            refine PW.iload_n hX dX7_read_94 rfl rfl ?_
            refine PW.iload_n hX dX7_read_95 rfl rfl ?_
            refine PW.vIi hX ml_X7_95 (pm_maim (mStm A) f2 so j c (by omega) (by omega)) dX7_read_96 17 rfl rfl rfl rfl rfl rfl rfl rfl rfl rfl rfl rfl rfl rfl rfl ?_
            rw [ai]
            refine PW.if_ne (tgt := 109) hX dX7_read_99 (by decide) (fun c99 => ?_) (fun c99 => ?_)
            · first | rw [bI_d0] at c99 | rw [bI_eq0] at c99 | rw [nI_eq0 (by omega)] at c99 | skip
              exact absurd c99 (by decide) -- CLOSED
            · first | rw [bI_d0] at c99 | rw [bI_eq0] at c99 | rw [nI_eq0 (by omega)] at c99 | skip
              refine PW.sipush (v := (-2000)) hX dX7_read_102 (by decide) ?_
              refine PW.iload hX dX7_read_105 rfl ?_
              refine PW.isub hX dX7_read_107 ?_
              refine PW.iret hX hR dX7_read_108 rfl rfl ?_
              exact ⟨rfl, rfl⟩
        | true =>
          rw [ai] at e
          have e : mRead M = rdG n (rd2 q (jn (mStm A) j) (cn' (mStm A) c) (mStm A)) := e
          obtain ⟨l1, l2⟩ := aim_lt ai
          have nx := ih k2 (i + 1) n (jn (mStm A) j) (cn' (mStm A) c) (mStm A) S js cs (MtR_stm ta) w2 f2 (by omega) (by rw [en]; exact e0) (by rw [en]; exact e1) js6 cs6 (by unfold jn; split <;> omega) (by unfold cn'; split <;> omega) g3 tS wS (z1.trans s2.symm) (z2.trans s1.symm) z3 (fun k' hk => by
            have := gS (k' + 1) (Or.inr ⟨w2, ai, hk⟩)
            rw [show i + 1 + k' = i + (k' + 1) by omega]
            exact this) e
          have h139 : ∀ j', j' = jn (mStm A) j → ∀ v : Int32, nI c + v = nI (cn' (mStm A) c) → PW X 138 [some (.ref 0), some (.int (nI n)), some (.int (nI j')), some (.int (nI c)), some (.int (nI (mat' A)))] [.int v, .int (nI c)] (mdB (mStm A)) 0 0 := by
            rintro j' rfl v hv
            refine PW.iadd hX dX7_read_138 ?_
            refine PW.top hv ?_
            refine PW.istore_n hX dX7_read_139 rfl rfl ?_
            refine PW.goto (tgt := 72) hX dX7_read_140 (by decide) ?_
            refine PW.clr 4 ?_
            exact nx
          have h122 : ∀ v : Int32, nI j + v = nI (jn (mStm A) j) → PW X 122 [some (.ref 0), some (.int (nI n)), some (.int (nI j)), some (.int (nI c)), some (.int (nI (mat' A)))] [.int v, .int (nI j)] (mdB (mStm A)) 0 0 := by
            intro v hv
            refine PW.iadd hX dX7_read_122 ?_
            refine PW.top hv ?_
            refine PW.istore_n hX dX7_read_123 rfl rfl ?_
            refine PW.iload_n hX dX7_read_124 rfl rfl ?_
            refine PW.aload_n hX dX7_read_125 rfl rfl ?_
            refine PW.getfield hX fl_X7_82 dX7_read_126 rfl rfl ?_
            refine PW.iconst (v := nI 2) hX dX7_read_129 (by decide) ?_
            refine PW.icmp_ne (tgt := 137) hX dX7_read_130 (by decide) (fun c130 => ?_) (fun c130 => ?_)
            · first | rw [nI_eq (by omega) (by omega)] at c130 | rw [oI_eq9] at c130 | skip
              refine PW.iconst (v := nI 0) hX dX7_read_137 (by decide) ?_
              exact h139 _ rfl _ (by unfold cn'; rw [if_neg c130]; exact nI_add c 0)
            · first | rw [nI_eq (by omega) (by omega)] at c130 | rw [oI_eq9] at c130 | skip
              refine PW.iconst (v := nI 1) hX dX7_read_133 (by decide) ?_
              refine PW.goto (tgt := 138) hX dX7_read_134 (by decide) ?_
              exact h139 _ rfl _ (by unfold cn'; rw [if_pos c130]; exact nI_add c 1)
          refine PW.aload_n hX dX7_read_72 rfl rfl ?_
          refine PW.getfield hX fl_X7_75 dX7_read_73 rfl rfl ?_
          refine PW.aload_n hX dX7_read_76 rfl rfl ?_
          refine PW.getfield hX fl_X7_68 dX7_read_77 rfl rfl ?_
          refine PW.icmp_ge (tgt := 143) hX dX7_read_80 (by decide) (fun c80 => ?_) (fun c80 => ?_)
          · try rw [nI_leI (by omega) (by omega)] at c80
            exfalso; omega -- CLOSED
          · try rw [nI_leI (by omega) (by omega)] at c80
            refine PW.aload_n hX dX7_read_83 rfl rfl ?_
            refine PW.getfield hX fl_X7_75 dX7_read_84 rfl rfl ?_
            refine PW.istore hX dX7_read_87 rfl ?_
            refine PW.aload_n hX dX7_read_89 rfl rfl ?_
            refine PW.vVi hX ml_X7_92 (pm_mstm A ta) dX7_read_90 17 rfl rfl rfl rfl rfl rfl rfl rfl rfl rfl rfl rfl rfl rfl rfl ?_
            refine PW.aload_n hX dX7_read_93 rfl rfl ?_
            refine PW.iload_n hX dX7_read_94 rfl rfl ?_
            refine PW.iload_n hX dX7_read_95 rfl rfl ?_
            refine PW.vIi hX ml_X7_95 (pm_maim (mStm A) f2 so j c (by omega) (by omega)) dX7_read_96 17 rfl rfl rfl rfl rfl rfl rfl rfl rfl rfl rfl rfl rfl rfl rfl ?_
            rw [ai]
            refine PW.if_ne (tgt := 109) hX dX7_read_99 (by decide) (fun c99 => ?_) (fun c99 => ?_)
            · first | rw [bI_d0] at c99 | rw [bI_eq0] at c99 | rw [nI_eq0 (by omega)] at c99 | skip
              refine PW.iload_n hX dX7_read_109 rfl rfl ?_
              refine PW.aload_n hX dX7_read_110 rfl rfl ?_
              refine PW.getfield hX fl_X7_82 dX7_read_111 rfl rfl ?_
              refine PW.if_ne (tgt := 121) hX dX7_read_114 (by decide) (fun c114 => ?_) (fun c114 => ?_)
              · first | rw [bI_d0] at c114 | rw [bI_eq0] at c114 | rw [nI_eq0 (by omega)] at c114 | skip
                refine PW.iconst (v := nI 0) hX dX7_read_121 (by decide) ?_
                exact h122 _ (by unfold jn; rw [if_neg c114]; exact nI_add j 0)
              · first | rw [bI_d0] at c114 | rw [bI_eq0] at c114 | rw [nI_eq0 (by omega)] at c114 | skip
                refine PW.iconst (v := nI 1) hX dX7_read_117 (by decide) ?_
                refine PW.goto (tgt := 122) hX dX7_read_118 (by decide) ?_
                exact h122 _ (by unfold jn; rw [if_pos c114]; exact nI_add j 1)
            · first | rw [bI_d0] at c99 | rw [bI_eq0] at c99 | rw [nI_eq0 (by omega)] at c99 | skip
              exact absurd c99 (by decide) -- CLOSED
      · rw [if_neg hp] at e
        have gA : gdA i js cs S := gS 0 (by show mtn A ≤ mat' A; omega)
        have e : mRead M = (nI n, rd3 81 (mAt A 0 (mwe A))) := e
        have ta0 : MtR (mAt A 0 (mwe A)) := MtR_at ta _ (Nat.zero_le _)
        have nx := loop3 81 i n js cs (mAt A 0 (mwe A)) ta0 w fa (by show mtn A < 0 + 81; omega) e0 e1 js6 cs6 (gdA_sm i js cs tS wS ⟨z2.symm, z1.symm, z3.symm, w.trans wS.symm⟩ gA) e
        refine PW.aload_n hX dX7_read_72 rfl rfl ?_
        refine PW.getfield hX fl_X7_75 dX7_read_73 rfl rfl ?_
        refine PW.aload_n hX dX7_read_76 rfl rfl ?_
        refine PW.getfield hX fl_X7_68 dX7_read_77 rfl rfl ?_
        refine PW.icmp_ge (tgt := 143) hX dX7_read_80 (by decide) (fun c80 => ?_) (fun c80 => ?_)
        · try rw [nI_leI (by omega) (by omega)] at c80
          refine PW.aload_n hX dX7_read_143 rfl rfl ?_
          refine PW.iconst (v := nI 0) hX dX7_read_144 (by decide) ?_
          refine PW.putI hX fp_X7_75 dX7_read_145 rfl rfl ?_
          refine PW.clr 2 (PW.clr 3 (PW.clr 4 ?_))
          exact nx
        · try rw [nI_leI (by omega) (by omega)] at c80
          exfalso; omega -- CLOSED
  have h37 : ∀ (n : Nat) (A : Md), MtR A → MfR A → (mwe A = true → ∃ k, gd k (mAt A 0 true)) → mno A = mno M → mRead M = rdF (n, A) → PW X 37 [some (.ref 0), some (.int (nI n)), none, none, none] [] (mdB A) 0 0 := by
    intro n A ta fa g en e
    unfold rdF at e
    cases hw : mwe A with
    | false =>
      have e : mRead M = (-1000 - nI (mat' A), A) := e.trans (by show (bif mwe A then _ else _) = _; rw [hw]; rfl)
      rw [e] at hR
      refine PW.aload_n hX dX7_read_37 rfl rfl ?_
      refine PW.getfield hX fl_X7_72 dX7_read_38 rfl rfl ?_
      refine PW.if_ne (tgt := 53) hX dX7_read_41 (by decide) (fun c41 => ?_) (fun c41 => ?_)
      · first | rw [bI_d0] at c41 | rw [bI_eq0] at c41 | rw [nI_eq0 (by omega)] at c41 | skip
        exact absurd hw c41 -- CLOSED
      · first | rw [bI_d0] at c41 | rw [bI_eq0] at c41 | rw [nI_eq0 (by omega)] at c41 | skip
        refine PW.sipush (v := (-1000)) hX dX7_read_44 (by decide) ?_
        refine PW.aload_n hX dX7_read_47 rfl rfl ?_
        refine PW.getfield hX fl_X7_75 dX7_read_48 rfl rfl ?_
        refine PW.isub hX dX7_read_51 ?_
        refine PW.iret hX hR dX7_read_52 rfl rfl ?_
        exact ⟨rfl, rfl⟩
    | true =>
      obtain ⟨k, g⟩ := g hw
      have e : mRead M = rdG n (rd2 81 (mno A 0) (mno A 1) (mAt A 0 (mwe A))) := e.trans (by show (bif mwe A then rdG n (rd2 81 (mno A 0) (mno A 1) (mAt A 0 (mwe A))) else _) = _; rw [show (mwe A) = true from hw]; rfl)
      have ta0 : MtR (mAt A 0 (mwe A)) := MtR_at ta _ (Nat.zero_le _)
      have t1 : mtn A ≤ 80 := ta.1
      have nx := loop2 81 k 0 n (mno A 0) (mno A 1) (mAt A 0 (mwe A)) (mAt A 0 (mwe A)) (mno A 0) (mno A 1) ta0 hw fa (by show mtn A < 0 + 81; omega) rfl rfl (by rw [en]; exact h0) (by rw [en]; exact h1) (by rw [en]; exact h0) (by rw [en]; exact h1) (by rw [hw]; exact g) ta0 hw rfl rfl rfl (fun k' h => by rw [Nat.zero_add]; exact h) e
      refine PW.aload_n hX dX7_read_37 rfl rfl ?_
      refine PW.getfield hX fl_X7_72 dX7_read_38 rfl rfl ?_
      refine PW.if_ne (tgt := 53) hX dX7_read_41 (by decide) (fun c41 => ?_) (fun c41 => ?_)
      · first | rw [bI_d0] at c41 | rw [bI_eq0] at c41 | rw [nI_eq0 (by omega)] at c41 | skip
        refine PW.aload_n hX dX7_read_53 rfl rfl ?_
        refine PW.iconst (v := nI 0) hX dX7_read_54 (by decide) ?_
        refine PW.putI hX fp_X7_75 dX7_read_55 rfl rfl ?_
        refine PW.aload_n hX dX7_read_58 rfl rfl ?_
        refine PW.getfield hX fl_X7_13 dX7_read_59 rfl rfl ?_
        refine PW.iconst (v := nI 0) hX dX7_read_62 (by decide) ?_
        refine PW.iaload hX dX7_read_63 rfl rfl rfl (by omega) ?_
        refine PW.istore_n hX dX7_read_64 rfl rfl ?_
        refine PW.aload_n hX dX7_read_65 rfl rfl ?_
        refine PW.getfield hX fl_X7_13 dX7_read_66 rfl rfl ?_
        refine PW.iconst (v := nI 1) hX dX7_read_69 (by decide) ?_
        refine PW.iaload hX dX7_read_70 rfl rfl rfl (by omega) ?_
        refine PW.istore_n hX dX7_read_71 rfl rfl ?_
        exact nx
      · first | rw [bI_d0] at c41 | rw [bI_eq0] at c41 | rw [nI_eq0 (by omega)] at c41 | skip
        exact absurd (hw.symm.trans c41) (by decide) -- CLOSED
  have loop1 : ∀ (q i n : Nat) (A : Md), MtR A → mwe A = true → MfR A → mtn A < mat' A + q → mtn A = mtn M → mta A = mta M → mno A = mno M → (∀ k', gd k' A → gd (i + k') (mAt M 0 true)) → mRead M = rdF (rd1 q n A) → PW X 12 [some (.ref 0), some (.int (nI n)), none, none, none] [] (mdB A) 0 0 := by
    intro q
    induction q with
    | zero => intro i n A ta; have := ta.2.1; omega
    | succ q ih =>
      intro i n A ta w fa hm z1 z2 en g e
      rw [rd1] at e
      obtain ⟨t1, t2, t3⟩ := id ta
      obtain ⟨s1, s2, s3⟩ := stm_K ta w
      have en2 : mno (mStm A) = mno M := (sb_no (sb_stm A)).trans en
      obtain ⟨f2, so⟩ := MfR_stm fa
      obtain ⟨u1, u2, u3⟩ := MtR_stm ta
      by_cases hb : mwe (mStm A) = true ∧ mat' (mStm A) < mtn (mStm A)
      · have s3 := s3 hb.1
        rw [hb.1, decide_eq_true hb.2] at e
        have nx := ih (i + 1) (n + 1) (mStm A) (MtR_stm ta) hb.1 f2 (by omega) (s2.trans z1) (s1.trans z2) en2 (fun k' hk => by
          have := g (k' + 1) (Or.inr ⟨hb.1, hk⟩)
          rw [show i + 1 + k' = i + (k' + 1) by omega]
          exact this) e
        refine PW.aload_n hX dX7_read_12 rfl rfl ?_
        refine PW.vVi hX ml_X7_92 (pm_mstm A ta) dX7_read_13 17 rfl rfl rfl rfl rfl rfl rfl rfl rfl rfl rfl rfl rfl rfl rfl ?_
        first | refine PW.iinc hX dX7_read_16 rfl (iincN _) ?_ | refine PW.iinc hX dX7_read_16 rfl rfl ?_
        refine PW.aload_n hX dX7_read_19 rfl rfl ?_
        refine PW.getfield hX fl_X7_72 dX7_read_20 rfl rfl ?_
        refine PW.if_eq (tgt := 37) hX dX7_read_23 (by decide) (fun c23 => ?_) (fun c23 => ?_)
        · first | rw [bI_d0] at c23 | rw [bI_eq0] at c23 | rw [nI_eq0 (by omega)] at c23 | skip
          exact absurd (hb.1.symm.trans c23) (by decide) -- CLOSED
        · first | rw [bI_d0] at c23 | rw [bI_eq0] at c23 | rw [nI_eq0 (by omega)] at c23 | skip
          refine PW.aload_n hX dX7_read_26 rfl rfl ?_
          refine PW.getfield hX fl_X7_75 dX7_read_27 rfl rfl ?_
          refine PW.aload_n hX dX7_read_30 rfl rfl ?_
          refine PW.getfield hX fl_X7_68 dX7_read_31 rfl rfl ?_
          refine PW.icmp_lt (tgt := 12) hX dX7_read_34 (by decide) (fun c34 => ?_) (fun c34 => ?_)
          · try rw [nI_ltI (by omega) (by omega)] at c34
            exact nx
          · try rw [nI_ltI (by omega) (by omega)] at c34
            exfalso; omega -- CLOSED
      · have e : mRead M = rdF (n + 1, mStm A) := by
          have eb : (mwe (mStm A) && decide (mat' (mStm A) < mtn (mStm A))) = false := by
            cases hw : mwe (mStm A) with
            | false => rfl
            | true => rw [decide_eq_false (fun q => hb ⟨hw, q⟩)]; rfl
          rw [eb] at e
          exact e
        have nx := h37 (n + 1) (mStm A) (MtR_stm ta) f2 (fun hw => ⟨i + 1, gd_sm (i + 1) (M := mAt M 0 true) ⟨tr.1, Nat.zero_le _, tr.2⟩ rfl ⟨s1.trans z2, s2.trans z1, rfl, rfl⟩ (g 1 (Or.inr ⟨hw, by show mtn (mStm A) ≤ mat' (mStm A); exact Nat.le_of_not_lt (fun q => hb ⟨hw, q⟩)⟩))⟩) en2 e
        refine PW.aload_n hX dX7_read_12 rfl rfl ?_
        refine PW.vVi hX ml_X7_92 (pm_mstm A ta) dX7_read_13 17 rfl rfl rfl rfl rfl rfl rfl rfl rfl rfl rfl rfl rfl rfl rfl ?_
        first | refine PW.iinc hX dX7_read_16 rfl (iincN _) ?_ | refine PW.iinc hX dX7_read_16 rfl rfl ?_
        refine PW.aload_n hX dX7_read_19 rfl rfl ?_
        refine PW.getfield hX fl_X7_72 dX7_read_20 rfl rfl ?_
        refine PW.if_eq (tgt := 37) hX dX7_read_23 (by decide) (fun c23 => ?_) (fun c23 => ?_)
        · first | rw [bI_d0] at c23 | rw [bI_eq0] at c23 | rw [nI_eq0 (by omega)] at c23 | skip
          exact nx
        · first | rw [bI_d0] at c23 | rw [bI_eq0] at c23 | rw [nI_eq0 (by omega)] at c23 | skip
          refine PW.aload_n hX dX7_read_26 rfl rfl ?_
          refine PW.getfield hX fl_X7_75 dX7_read_27 rfl rfl ?_
          refine PW.aload_n hX dX7_read_30 rfl rfl ?_
          refine PW.getfield hX fl_X7_68 dX7_read_31 rfl rfl ?_
          refine PW.icmp_lt (tgt := 12) hX dX7_read_34 (by decide) (fun c34 => ?_) (fun c34 => ?_)
          · try rw [nI_ltI (by omega) (by omega)] at c34
            exact absurd ⟨(Bool.not_eq_false _).mp c23, c34⟩ hb -- CLOSED
          · try rw [nI_ltI (by omega) (by omega)] at c34
            exact nx
  have nx := loop1 81 0 0 (mAt M 0 true) ⟨tr.1, Nat.zero_le _, tr.2⟩ rfl mf (by have := tr.1; show mtn M < 0 + 81; omega) rfl rfl rfl (fun k' h => by rw [Nat.zero_add]; exact h) rfl
  refine PW.iconst (v := nI 0) hX dX7_read_0 (by decide) ?_
  refine PW.istore_n hX dX7_read_1 rfl rfl ?_
  refine PW.aload_n hX dX7_read_2 rfl rfl ?_
  refine PW.iconst (v := nI 0) hX dX7_read_3 (by decide) ?_
  refine PW.putI hX fp_X7_75 dX7_read_4 rfl rfl ?_
  refine PW.aload_n hX dX7_read_7 rfl rfl ?_
  refine PW.iconst (v := nI 1) hX dX7_read_8 (by decide) ?_
  refine PW.putZ hX fp_X7_72 dX7_read_9 (by first | exact Or.inl rfl | exact Or.inr rfl | assumption) rfl rfl ?_
  exact nx
def mFloor (M : Md) : Int32 × Md := ((mRead M).1, sB (mRead M).2 (mta (mRead M).2, 0, mat' (mRead M).2, mwe (mRead M).2, mso (mRead M).2, mfi (mRead M).2))
theorem pm_mfloor (M : Md) (tr : mtn M ≤ 80 ∧ ∀ i, i < mtn M → mta M i < 256) (mf : MfR M) (h0 : mno M 0 ≤ 6) (h1 : mno M 1 ≤ 6) : PM mu_X7_floor 3 0 0 [.ref 0] (mdB M) (eqP (some (.int (mFloor M).1)) (mdB (mFloor M).2)) := by
  have cR := pm_mread M tr mf h0 h1
  unfold mFloor
  generalize mRead M = Z at cR ⊢
  refine PM.start (Or.inl (by decide +kernel)) rfl rfl rfl ?_
  intro X hX hR hx hin
  refine PW.aload_n hX dX7_floor_0 rfl rfl ?_
  refine PW.vIi hX ml_X7_102 (id cR) dX7_floor_1 17 rfl rfl rfl rfl rfl rfl rfl rfl rfl rfl rfl rfl rfl rfl rfl ?_
  refine PW.istore_n hX dX7_floor_4 rfl rfl ?_
  refine PW.aload_n hX dX7_floor_5 rfl rfl ?_
  refine PW.iconst (v := nI 0) hX dX7_floor_6 (by decide) ?_
  refine PW.putI hX fp_X7_68 dX7_floor_7 rfl rfl ?_
  refine PW.iload_n hX dX7_floor_10 rfl rfl ?_
  refine PW.iret hX hR dX7_floor_11 rfl rfl ?_
  exact ⟨rfl, rfl⟩
