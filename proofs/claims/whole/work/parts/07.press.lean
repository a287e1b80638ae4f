/-! more of numbers -/
theorem nI_lt0 {k : Nat} (h : k < 2 ^ 31) : nI k < 0 ↔ False := ⟨fun c => nI_pos h c, False.elim⟩
theorem nI_ge0 {k : Nat} (h : k < 2 ^ 31) : 0 ≤ nI k ↔ True := ⟨fun _ => trivial, fun _ => nI_pos' h⟩
theorem nI_eq0 {k : Nat} (h : k < 2 ^ 31) : nI k = 0 ↔ k = 0 := nI_eq (b := 0) h (by decide)
theorem nI_gt0 {k : Nat} (h : k < 2 ^ 31) : 0 < nI k ↔ 0 < k := nI_ltI (a := 0) (by decide) h
theorem nI_le0 {k : Nat} (h : k < 2 ^ 31) : nI k ≤ 0 ↔ k = 0 := (nI_leI (b := 0) h (by decide)).trans (by omega)
theorem bI_eq0 {b : Bool} : bI b = 0 ↔ b = false := by cases b <;> decide
theorem bI_d0 {p : Prop} [Decidable p] : bI (decide p) = 0 ↔ ¬ p := bI_eq0.trans decide_eq_false_iff_not
def oI : Option Nat → Int32
  | none => -9
  | some k => nI k
theorem nI_ne9 {k : Nat} (h : k < 2 ^ 31) : ¬ nI k = -9 := fun e => nI_pos h (by rw [e]; decide)
theorem oI_eq9 : oI none = -9 ↔ True := ⟨fun _ => trivial, fun _ => rfl⟩
theorem PW.clr {X : Cx} {pc : Nat} {L : List (Option Value)} {st : List Value} {h : List PCell} {kc ks : Nat} (i : Nat) (k : PW X pc (L.set i none) st h kc ks) : PW X pc L st h kc ks := by
  intro a H locs ls S
  refine k a H locs ls ⟨S.1, S.2.1, S.2.2.1, S.2.2.2.1, S.2.2.2.2.1, by simpa using S.2.2.2.2.2.1, S.2.2.2.2.2.2.1, fun j v hj => ?_⟩
  rw [List.getElem?_set] at hj
  split at hj
  · split at hj <;> cases hj
  · exact S.2.2.2.2.2.2.2 j v hj
/-! ===== the press ===== -/
abbrev Pr : Type := (Nat → Nat) × Nat × Option Nat × Nat × Nat
abbrev prle (S : Pr) : Nat → Nat := S.1
abbrev prli (S : Pr) : Nat := S.2.1
abbrev prla (S : Pr) : Option Nat := S.2.2.1
abbrev prsi (S : Pr) : Nat := S.2.2.2.1
abbrev prmx (S : Pr) : Nat := S.2.2.2.2
def prB (b : Nat) (S : Pr) : List PCell := [.inr (2, [.ref (b + 1), .int (nI (prli S)), .int (oI (prla S)), .int (nI (prsi S)), .int (nI (prmx S))]), .inl (0, 6, fun j => nI (prle S j))]
/-- a press in minute m of a plan -/
def PrOk (P : Pl) (S : Pr) (m : Nat) : Prop := (∀ j, j < plnj P → prle S j ≤ plsh P j) ∧ (∀ k, prla S = some k → isSh P k = true) ∧ prli S = sumN (prle S) (plnj P) ∧ prsi S ≤ m ∧ prmx S ≤ m
def trn : Option Nat → Nat → Nat
  | none, j => j
  | some k, j => (j + 5 - k / 10) % 6
theorem trn_t : ∀ a, a < 6 → ∀ b, b < 6 → 0 ≤ nI a - nI b - nI 1 → nI a - nI b - nI 1 = nI ((a + 5 - b) % 6) := by decide +kernel
theorem trn_f : ∀ a, a < 6 → ∀ b, b < 6 → ¬ 0 ≤ nI a - nI b - nI 1 → nI a - nI b - nI 1 + nI 6 = nI ((a + 5 - b) % 6) := by decide +kernel
theorem pm_turnsUntil (S : Pr) (j : Nat) (hj : j < 6) (hl : ∀ k, prla S = some k → k < 60) : PM mu_X2_turnsUntil 1 0 0 [.ref 0, .int (nI j)] (prB 0 S) (eqP (some (.int (nI (trn (prla S) j)))) (prB 0 S)) := by
  obtain ⟨le, li, la, si, mx⟩ := S
  cases la with
  | none =>
    refine PM.start (Or.inl (by decide +kernel)) rfl rfl rfl ?_
    intro X hX hR hx hin
    refine PW.aload_n hX dX2_turnsUntil_0 rfl rfl ?_
    refine PW.getfield hX fl_X2_19 dX2_turnsUntil_1 rfl rfl ?_
    refine PW.bipush (v := (-9)) hX dX2_turnsUntil_4 (by decide) ?_
    refine PW.icmp_ne (tgt := 11) hX dX2_turnsUntil_6 (by decide) (fun c6 => ?_) (fun c6 => ?_)
    · exact absurd rfl c6 -- CLOSED
    · refine PW.iload_n hX dX2_turnsUntil_9 rfl rfl ?_
      refine PW.iret hX hR dX2_turnsUntil_10 rfl rfl ?_
      exact ⟨rfl, rfl⟩
  | some k =>
    have hk := hl k rfl
    refine PM.start (Or.inl (by decide +kernel)) rfl rfl rfl ?_
    intro X hX hR hx hin
    refine PW.aload_n hX dX2_turnsUntil_0 rfl rfl ?_
    refine PW.getfield hX fl_X2_19 dX2_turnsUntil_1 rfl rfl ?_
    refine PW.bipush (v := (-9)) hX dX2_turnsUntil_4 (by decide) ?_
    refine PW.icmp_ne (tgt := 11) hX dX2_turnsUntil_6 (by decide) (fun c6 => ?_) (fun c6 => ?_)
    · refine PW.iload_n hX dX2_turnsUntil_11 rfl rfl ?_
      refine PW.aload_n hX dX2_turnsUntil_12 rfl rfl ?_
      refine PW.getfield hX fl_X2_19 dX2_turnsUntil_13 rfl rfl ?_
      refine PW.bipush (v := nI 10) hX dX2_turnsUntil_16 (by decide) ?_
      refine PW.idiv hX dX2_turnsUntil_18 (by decide) ?_
      refine PW.top (div10 (by omega)) ?_
      refine PW.isub hX dX2_turnsUntil_19 ?_
      refine PW.iconst (v := nI 1) hX dX2_turnsUntil_20 (by decide) ?_
      refine PW.isub hX dX2_turnsUntil_21 ?_
      refine PW.istore_n hX dX2_turnsUntil_22 rfl rfl ?_
      refine PW.iload_n hX dX2_turnsUntil_23 rfl rfl ?_
      refine PW.if_ge (tgt := 34) hX dX2_turnsUntil_24 (by decide) (fun c24 => ?_) (fun c24 => ?_)
      · refine PW.iload_n hX dX2_turnsUntil_34 rfl rfl ?_
        refine PW.iret hX hR dX2_turnsUntil_35 rfl rfl ?_
        exact ⟨congrArg (fun z => some (Value.int z)) (trn_t j hj (k / 10) (by omega) c24), rfl⟩
      · refine PW.iload_n hX dX2_turnsUntil_27 rfl rfl ?_
        refine PW.bipush (v := nI 6) hX dX2_turnsUntil_28 (by decide) ?_
        refine PW.iadd hX dX2_turnsUntil_30 ?_
        refine PW.goto (tgt := 35) hX dX2_turnsUntil_31 (by decide) ?_
        refine PW.iret hX hR dX2_turnsUntil_35 rfl rfl ?_
        exact ⟨congrArg (fun z => some (Value.int z)) (trn_f j hj (k / 10) (by omega) c24), rfl⟩
    · exact absurd c6 (nI_ne9 (by omega)) -- CLOSED
def ahd (P : Pl) (le : Nat → Nat) (la : Option Nat) (a b : Nat) : Bool :=
  if plkd P = 2 then decide (trn la a < trn la b) else if plkd P = 5 ∧ ¬ plow P a = plow P b then decide (plow P a < plow P b) else if (plkd P = 1 ∨ plkd P = 5) ∧ ¬ le a = le b then decide (le a < le b) else decide (plse P a < plse P b)
theorem trn_lt {la : Option Nat} {j : Nat} (hj : j < 6) : trn la j < 6 := by
  cases la with
  | none => exact hj
  | some k => exact Nat.mod_lt _ (by decide)
theorem pm_isAhead (P : Pl) (ok : PlOk P) (S : Pr) (m : Nat) (so : PrOk P S m) (a b : Nat) (ha : a < plnj P) (hb : b < plnj P) : PM mu_X2_isAhead 2 0 0 [.ref 0, .ref 2, .int (nI a), .int (nI b)] (prB 0 S ++ plB 2 P) (eqP (some (.int (bI (ahd P (prle S) (prla S) a b)))) (prB 0 S ++ plB 2 P)) := by
  obtain ⟨o1, o2, o3, o4, o5, o6⟩ := ok
  obtain ⟨s1, s2, s3, s4, s5⟩ := so
  have h5a := o5 a ha
  have h5b := o5 b hb
  have s1a := s1 a ha
  have s1b := s1 b hb
  have hl : ∀ k, prla S = some k → k < 60 := by
    intro k hk
    have := s2 k hk
    simp only [isSh, Bool.and_eq_true, decide_eq_true_eq] at this
    omega
  have t1 := trn_lt (la := prla S) (j := a) (by omega)
  have t2 := trn_lt (la := prla S) (j := b) (by omega)
  refine PM.start (Or.inl (by decide +kernel)) rfl rfl rfl ?_
  intro X hX hR hx hin
  have hj : ¬ plkd P = 2 → ¬ (plkd P = 5 ∧ ¬ plow P a = plow P b) → PW X 71 [some (.ref 0), some (.ref 2), some (.int (nI a)), some (.int (nI b)), none] [] (prB 0 S ++ plB 2 P) 0 0 := by
    intro n1 n2
    have hk : ∀ v : Int32, ((v = nI 1 ∧ (plkd P = 1 ∨ plkd P = 5)) ∨ (v = nI 0 ∧ ¬ (plkd P = 1 ∨ plkd P = 5))) → PW X 92 [some (.ref 0), some (.ref 2), some (.int (nI a)), some (.int (nI b)), none] [.int v] (prB 0 S ++ plB 2 P) 0 0 := by
      rintro v (⟨rfl, h⟩ | ⟨rfl, h⟩)
      · refine PW.istore hX dX2_isAhead_92 rfl ?_
        refine PW.iload hX dX2_isAhead_94 rfl ?_
        refine PW.if_eq (tgt := 135) hX dX2_isAhead_96 (by decide) (fun c96 => ?_) (fun c96 => ?_)
        · first | rw [bI_d0] at c96 | rw [bI_eq0] at c96 | rw [nI_eq0 (by omega)] at c96 | skip
          exact absurd c96 (by decide) -- CLOSED
        · first | rw [bI_d0] at c96 | rw [bI_eq0] at c96 | rw [nI_eq0 (by omega)] at c96 | skip
          refine PW.aload_n hX dX2_isAhead_99 rfl rfl ?_
          refine PW.getfield hX fl_X2_9 dX2_isAhead_100 rfl rfl ?_
          refine PW.iload_n hX dX2_isAhead_103 rfl rfl ?_
          refine PW.iaload hX dX2_isAhead_104 rfl rfl rfl (by omega) ?_
          refine PW.aload_n hX dX2_isAhead_105 rfl rfl ?_
          refine PW.getfield hX fl_X2_9 dX2_isAhead_106 rfl rfl ?_
          refine PW.iload_n hX dX2_isAhead_109 rfl rfl ?_
          refine PW.iaload hX dX2_isAhead_110 rfl rfl rfl (by omega) ?_
          refine PW.icmp_eq (tgt := 135) hX dX2_isAhead_111 (by decide) (fun c111 => ?_) (fun c111 => ?_)
          · first | rw [nI_eq (by omega) (by omega)] at c111 | rw [oI_eq9] at c111 | skip
            refine PW.aload_n hX dX2_isAhead_135 rfl rfl ?_
            refine PW.getfield hX fl_X2_57 dX2_isAhead_136 rfl rfl ?_
            refine PW.iload_n hX dX2_isAhead_139 rfl rfl ?_
            refine PW.iaload hX dX2_isAhead_140 rfl rfl rfl (by omega) ?_
            refine PW.aload_n hX dX2_isAhead_141 rfl rfl ?_
            refine PW.getfield hX fl_X2_57 dX2_isAhead_142 rfl rfl ?_
            refine PW.iload_n hX dX2_isAhead_145 rfl rfl ?_
            refine PW.iaload hX dX2_isAhead_146 rfl rfl rfl (by omega) ?_
            refine PW.icmp_ge (tgt := 154) hX dX2_isAhead_147 (by decide) (fun c147 => ?_) (fun c147 => ?_)
            · try rw [nI_leI (by omega) (by omega)] at c147
              refine PW.iconst (v := nI 0) hX dX2_isAhead_154 (by decide) ?_
              refine PW.zret hX hR dX2_isAhead_155 (by first | exact Or.inl rfl | exact Or.inr rfl | assumption) rfl rfl ?_
              exact ⟨rF (by unfold ahd; rw [if_neg n1, if_neg n2, if_neg (fun q => q.2 c111)]; exact decide_eq_false (by omega)), rfl⟩
            · try rw [nI_leI (by omega) (by omega)] at c147
              refine PW.iconst (v := nI 1) hX dX2_isAhead_150 (by decide) ?_
              refine PW.goto (tgt := 155) hX dX2_isAhead_151 (by decide) ?_
              refine PW.zret hX hR dX2_isAhead_155 (by first | exact Or.inl rfl | exact Or.inr rfl | assumption) rfl rfl ?_
              exact ⟨rT (by unfold ahd; rw [if_neg n1, if_neg n2, if_neg (fun q => q.2 c111)]; exact decide_eq_true (by omega)), rfl⟩
          · first | rw [nI_eq (by omega) (by omega)] at c111 | rw [oI_eq9] at c111 | skip
            refine PW.aload_n hX dX2_isAhead_114 rfl rfl ?_
            refine PW.getfield hX fl_X2_9 dX2_isAhead_115 rfl rfl ?_
            refine PW.iload_n hX dX2_isAhead_118 rfl rfl ?_
            refine PW.iaload hX dX2_isAhead_119 rfl rfl rfl (by omega) ?_
            refine PW.aload_n hX dX2_isAhead_120 rfl rfl ?_
            refine PW.getfield hX fl_X2_9 dX2_isAhead_121 rfl rfl ?_
            refine PW.iload_n hX dX2_isAhead_124 rfl rfl ?_
            refine PW.iaload hX dX2_isAhead_125 rfl rfl rfl (by omega) ?_
            refine PW.icmp_ge (tgt := 133) hX dX2_isAhead_126 (by decide) (fun c126 => ?_) (fun c126 => ?_)
            · try rw [nI_leI (by omega) (by omega)] at c126
              refine PW.iconst (v := nI 0) hX dX2_isAhead_133 (by decide) ?_
              refine PW.zret hX hR dX2_isAhead_134 (by first | exact Or.inl rfl | exact Or.inr rfl | assumption) rfl rfl ?_
              exact ⟨rF (by unfold ahd; rw [if_neg n1, if_neg n2, if_pos ⟨h, c111⟩]; exact decide_eq_false (by omega)), rfl⟩
            · try rw [nI_leI (by omega) (by omega)] at c126
              refine PW.iconst (v := nI 1) hX dX2_isAhead_129 (by decide) ?_
              refine PW.goto (tgt := 134) hX dX2_isAhead_130 (by decide) ?_
              refine PW.zret hX hR dX2_isAhead_134 (by first | exact Or.inl rfl | exact Or.inr rfl | assumption) rfl rfl ?_
              exact ⟨rT (by unfold ahd; rw [if_neg n1, if_neg n2, if_pos ⟨h, c111⟩]; exact decide_eq_true (by omega)), rfl⟩
      · refine PW.istore hX dX2_isAhead_92 rfl ?_
        refine PW.iload hX dX2_isAhead_94 rfl ?_
        refine PW.if_eq (tgt := 135) hX dX2_isAhead_96 (by decide) (fun c96 => ?_) (fun c96 => ?_)
        · first | rw [bI_d0] at c96 | rw [bI_eq0] at c96 | rw [nI_eq0 (by omega)] at c96 | skip
          refine PW.aload_n hX dX2_isAhead_135 rfl rfl ?_
          refine PW.getfield hX fl_X2_57 dX2_isAhead_136 rfl rfl ?_
          refine PW.iload_n hX dX2_isAhead_139 rfl rfl ?_
          refine PW.iaload hX dX2_isAhead_140 rfl rfl rfl (by omega) ?_
          refine PW.aload_n hX dX2_isAhead_141 rfl rfl ?_
          refine PW.getfield hX fl_X2_57 dX2_isAhead_142 rfl rfl ?_
          refine PW.iload_n hX dX2_isAhead_145 rfl rfl ?_
          refine PW.iaload hX dX2_isAhead_146 rfl rfl rfl (by omega) ?_
          refine PW.icmp_ge (tgt := 154) hX dX2_isAhead_147 (by decide) (fun c147 => ?_) (fun c147 => ?_)
          · try rw [nI_leI (by omega) (by omega)] at c147
            refine PW.iconst (v := nI 0) hX dX2_isAhead_154 (by decide) ?_
            refine PW.zret hX hR dX2_isAhead_155 (by first | exact Or.inl rfl | exact Or.inr rfl | assumption) rfl rfl ?_
            exact ⟨rF (by unfold ahd; rw [if_neg n1, if_neg n2, if_neg (fun q => h q.1)]; exact decide_eq_false (by omega)), rfl⟩
          · try rw [nI_leI (by omega) (by omega)] at c147
            refine PW.iconst (v := nI 1) hX dX2_isAhead_150 (by decide) ?_
            refine PW.goto (tgt := 155) hX dX2_isAhead_151 (by decide) ?_
            refine PW.zret hX hR dX2_isAhead_155 (by first | exact Or.inl rfl | exact Or.inr rfl | assumption) rfl rfl ?_
            exact ⟨rT (by unfold ahd; rw [if_neg n1, if_neg n2, if_neg (fun q => h q.1)]; exact decide_eq_true (by omega)), rfl⟩
        · first | rw [bI_d0] at c96 | rw [bI_eq0] at c96 | rw [nI_eq0 (by omega)] at c96 | skip
          exact absurd rfl c96 -- CLOSED
    refine PW.aload_n hX dX2_isAhead_71 rfl rfl ?_
    refine PW.getfield hX fl_X2_40 dX2_isAhead_72 rfl rfl ?_
    refine PW.iconst (v := nI 1) hX dX2_isAhead_75 (by decide) ?_
    refine PW.icmp_eq (tgt := 87) hX dX2_isAhead_76 (by decide) (fun c76 => ?_) (fun c76 => ?_)
    · first | rw [nI_eq (by omega) (by omega)] at c76 | rw [oI_eq9] at c76 | skip
      refine PW.iconst (v := nI 1) hX dX2_isAhead_87 (by decide) ?_
      refine PW.goto (tgt := 92) hX dX2_isAhead_88 (by decide) ?_
      exact hk _ (Or.inl ⟨rfl, by omega⟩)
    · first | rw [nI_eq (by omega) (by omega)] at c76 | rw [oI_eq9] at c76 | skip
      refine PW.aload_n hX dX2_isAhead_79 rfl rfl ?_
      refine PW.getfield hX fl_X2_40 dX2_isAhead_80 rfl rfl ?_
      refine PW.iconst (v := nI 5) hX dX2_isAhead_83 (by decide) ?_
      refine PW.icmp_ne (tgt := 91) hX dX2_isAhead_84 (by decide) (fun c84 => ?_) (fun c84 => ?_)
      · first | rw [nI_eq (by omega) (by omega)] at c84 | rw [oI_eq9] at c84 | skip
        refine PW.iconst (v := nI 0) hX dX2_isAhead_91 (by decide) ?_
        exact hk _ (Or.inr ⟨rfl, by omega⟩)
      · first | rw [nI_eq (by omega) (by omega)] at c84 | rw [oI_eq9] at c84 | skip
        refine PW.iconst (v := nI 1) hX dX2_isAhead_87 (by decide) ?_
        refine PW.goto (tgt := 92) hX dX2_isAhead_88 (by decide) ?_
        exact hk _ (Or.inl ⟨rfl, by omega⟩)
  refine PW.aload_n hX dX2_isAhead_0 rfl rfl ?_
  refine PW.getfield hX fl_X2_40 dX2_isAhead_1 rfl rfl ?_
  refine PW.iconst (v := nI 2) hX dX2_isAhead_4 (by decide) ?_
  refine PW.icmp_ne (tgt := 27) hX dX2_isAhead_5 (by decide) (fun c5 => ?_) (fun c5 => ?_)
  · first | rw [nI_eq (by omega) (by omega)] at c5 | rw [oI_eq9] at c5 | skip
    refine PW.aload_n hX dX2_isAhead_27 rfl rfl ?_
    refine PW.getfield hX fl_X2_40 dX2_isAhead_28 rfl rfl ?_
    refine PW.iconst (v := nI 5) hX dX2_isAhead_31 (by decide) ?_
    refine PW.icmp_ne (tgt := 71) hX dX2_isAhead_32 (by decide) (fun c32 => ?_) (fun c32 => ?_)
    · first | rw [nI_eq (by omega) (by omega)] at c32 | rw [oI_eq9] at c32 | skip
      exact hj c5 (fun q => c32 q.1)
    · first | rw [nI_eq (by omega) (by omega)] at c32 | rw [oI_eq9] at c32 | skip
      refine PW.aload_n hX dX2_isAhead_35 rfl rfl ?_
      refine PW.getfield hX fl_X2_68 dX2_isAhead_36 rfl rfl ?_
      refine PW.iload_n hX dX2_isAhead_39 rfl rfl ?_
      refine PW.iaload hX dX2_isAhead_40 rfl rfl rfl (by omega) ?_
      refine PW.aload_n hX dX2_isAhead_41 rfl rfl ?_
      refine PW.getfield hX fl_X2_68 dX2_isAhead_42 rfl rfl ?_
      refine PW.iload_n hX dX2_isAhead_45 rfl rfl ?_
      refine PW.iaload hX dX2_isAhead_46 rfl rfl rfl (by omega) ?_
      refine PW.icmp_eq (tgt := 71) hX dX2_isAhead_47 (by decide) (fun c47 => ?_) (fun c47 => ?_)
      · first | rw [nI_eq (by omega) (by omega)] at c47 | rw [oI_eq9] at c47 | skip
        exact hj c5 (fun q => q.2 c47)
      · first | rw [nI_eq (by omega) (by omega)] at c47 | rw [oI_eq9] at c47 | skip
        refine PW.aload_n hX dX2_isAhead_50 rfl rfl ?_
        refine PW.getfield hX fl_X2_68 dX2_isAhead_51 rfl rfl ?_
        refine PW.iload_n hX dX2_isAhead_54 rfl rfl ?_
        refine PW.iaload hX dX2_isAhead_55 rfl rfl rfl (by omega) ?_
        refine PW.aload_n hX dX2_isAhead_56 rfl rfl ?_
        refine PW.getfield hX fl_X2_68 dX2_isAhead_57 rfl rfl ?_
        refine PW.iload_n hX dX2_isAhead_60 rfl rfl ?_
        refine PW.iaload hX dX2_isAhead_61 rfl rfl rfl (by omega) ?_
        refine PW.icmp_ge (tgt := 69) hX dX2_isAhead_62 (by decide) (fun c62 => ?_) (fun c62 => ?_)
        · try rw [nI_leI (by omega) (by omega)] at c62
          refine PW.iconst (v := nI 0) hX dX2_isAhead_69 (by decide) ?_
          refine PW.zret hX hR dX2_isAhead_70 (by first | exact Or.inl rfl | exact Or.inr rfl | assumption) rfl rfl ?_
          exact ⟨rF (by unfold ahd; rw [if_neg c5, if_pos ⟨c32, c47⟩]; exact decide_eq_false (by omega)), rfl⟩
        · try rw [nI_leI (by omega) (by omega)] at c62
          refine PW.iconst (v := nI 1) hX dX2_isAhead_65 (by decide) ?_
          refine PW.goto (tgt := 70) hX dX2_isAhead_66 (by decide) ?_
          refine PW.zret hX hR dX2_isAhead_70 (by first | exact Or.inl rfl | exact Or.inr rfl | assumption) rfl rfl ?_
          exact ⟨rT (by unfold ahd; rw [if_neg c5, if_pos ⟨c32, c47⟩]; exact decide_eq_true (by omega)), rfl⟩
  · first | rw [nI_eq (by omega) (by omega)] at c5 | rw [oI_eq9] at c5 | skip
    refine PW.aload_n hX dX2_isAhead_8 rfl rfl ?_
    refine PW.iload_n hX dX2_isAhead_9 rfl rfl ?_
    refine PW.vR hX ml_X2_64 (pm_turnsUntil S a (by omega) hl) dX2_isAhead_10 [0, 1] rfl rfl rfl rfl rfl rfl rfl rfl rfl rfl rfl rfl rfl ?_
    refine PW.aload_n hX dX2_isAhead_13 rfl rfl ?_
    refine PW.iload_n hX dX2_isAhead_14 rfl rfl ?_
    refine PW.vR hX ml_X2_64 (pm_turnsUntil S b (by omega) hl) dX2_isAhead_15 [0, 1] rfl rfl rfl rfl rfl rfl rfl rfl rfl rfl rfl rfl rfl ?_
    refine PW.icmp_ge (tgt := 25) hX dX2_isAhead_18 (by decide) (fun c18 => ?_) (fun c18 => ?_)
    · try rw [nI_leI (by omega) (by omega)] at c18
      refine PW.iconst (v := nI 0) hX dX2_isAhead_25 (by decide) ?_
      refine PW.zret hX hR dX2_isAhead_26 (by first | exact Or.inl rfl | exact Or.inr rfl | assumption) rfl rfl ?_
      exact ⟨rF (by unfold ahd; rw [if_pos c5]; exact decide_eq_false (by omega)), rfl⟩
    · try rw [nI_leI (by omega) (by omega)] at c18
      refine PW.iconst (v := nI 1) hX dX2_isAhead_21 (by decide) ?_
      refine PW.goto (tgt := 26) hX dX2_isAhead_22 (by decide) ?_
      refine PW.zret hX hR dX2_isAhead_26 (by first | exact Or.inl rfl | exact Or.inr rfl | assumption) rfl rfl ?_
      exact ⟨rT (by unfold ahd; rw [if_pos c5]; exact decide_eq_true (by omega)), rfl⟩
