/-! ===== numbers ===== -/
def bI (b : Bool) : Int32 := bif b then nI 1 else nI 0
theorem bI_01 (b : Bool) : bI b = 0 ∨ bI b = 1 := by cases b; exact Or.inl rfl; exact Or.inr rfl
def inB (n : Nat) (x : Int32) : Bool := !decide (x < 0) && decide (x < nI n)
theorem inB_of {n : Nat} {x : Int32} (hn : n < 2 ^ 31) (h : inB n x = true) : ∃ k, k < n ∧ x = nI k := by
  simp only [inB, Bool.and_eq_true, Bool.not_eq_true', decide_eq_false_iff_not, decide_eq_true_eq] at h
  obtain ⟨j, h1, rfl⟩ := nI_of h.1
  exact ⟨j, (nI_ltI h1 hn).mp h.2, rfl⟩
theorem inB_nI {n k : Nat} (hn : n < 2 ^ 31) (hk : k < 2 ^ 31) : inB n (nI k) = decide (k < n) := by
  simp only [inB, nI_ltI hk hn, nI_pos hk, decide_false, Bool.not_false, Bool.true_and]
theorem i32_nle {x y : Int32} : ¬ x ≤ y ↔ y < x := Int32.not_le
theorem i32_nlt {x y : Int32} : ¬ x < y ↔ y ≤ x := Int32.not_lt
theorem upd_nI (g : Nat → Nat) (k x : Nat) : upd (fun j => nI (g j)) k (nI x) = fun j => nI (va_up g k x j) := by
  funext j
  simp only [upd, va_up]
  split <;> rfl
theorem cpy_nI (f g : Nat → Nat) (sp dp n : Nat) : va_cpy (fun j => nI (f j)) (fun j => nI (g j)) sp dp n = fun j => nI (va_cpy f g sp dp n j) := by
  funext j
  simp only [va_cpy]
  split <;> rfl
/-! ===== a plan: jobs, takers, the machine ===== -/
abbrev Pl : Type := (Nat → Nat) × (Nat → Nat) × (Nat → Nat) × (Nat → Nat) × (Nat → Nat) × (Nat → Nat) × (Nat → Nat) × Nat × Nat × Nat × Nat
abbrev plow (P : Pl) : Nat → Nat := P.1
abbrev plsh (P : Pl) : Nat → Nat := P.2.1
abbrev plse (P : Pl) : Nat → Nat := P.2.2.1
abbrev pltk (P : Pl) : Nat → Nat := P.2.2.2.1
abbrev pltw (P : Pl) : Nat → Nat := P.2.2.2.2.1
abbrev pltf (P : Pl) : Nat → Nat := P.2.2.2.2.2.1
abbrev pltm (P : Pl) : Nat → Nat := P.2.2.2.2.2.2.1
abbrev plnj (P : Pl) : Nat := P.2.2.2.2.2.2.2.1
abbrev plnt (P : Pl) : Nat := P.2.2.2.2.2.2.2.2.1
abbrev plkd (P : Pl) : Nat := P.2.2.2.2.2.2.2.2.2.1
abbrev plsp (P : Pl) : Nat := P.2.2.2.2.2.2.2.2.2.2
def PlOk (P : Pl) : Prop := plnj P ≤ 6 ∧ plnt P ≤ 6 ∧ plkd P < 6 ∧ plsp P ≤ 9 ∧ (∀ j, j < plnj P → plow P j < 4 ∧ 1 ≤ plsh P j ∧ plsh P j ≤ 9 ∧ plse P j < 60) ∧ ∀ t, t < plnt P → pltk P t < 6 ∧ pltw P t < 4 ∧ pltf P t ≤ 9 ∧ pltm P t < 100
/-- a plan's cells, the object at place b -/
def plB (b : Nat) (P : Pl) : List PCell := [.inr (1, [.ref (b + 1), .ref (b + 2), .ref (b + 3), .ref (b + 4), .ref (b + 5), .ref (b + 6), .ref (b + 7), .int (nI (plnj P)), .int (nI (plnt P)), .int (nI (plkd P)), .int (nI (plsp P))]), .inl (0, 6, fun j => nI (plow P j)), .inl (0, 6, fun j => nI (plsh P j)), .inl (0, 6, fun j => nI (plse P j)), .inl (0, 6, fun j => nI (pltk P j)), .inl (0, 6, fun j => nI (pltw P j)), .inl (0, 6, fun j => nI (pltf P j)), .inl (0, 6, fun j => nI (pltm P j))]
theorem lt31 {n : Nat} (h : n < 1000000) : n < 2 ^ 31 := Nat.lt_of_lt_of_le h (by decide)
theorem rT {b : Bool} (h : b = true) : (some (Value.int (nI 1)) : Option Value) = some (.int (bI b)) := by rw [h]; rfl
theorem rF {b : Bool} (h : b = false) : (some (Value.int (nI 0)) : Option Value) = some (.int (bI b)) := by rw [h]; rfl
theorem pm_hasJob (P : Pl) (x : Int32) : PM mu_X1_hasJob 0 0 0 [.ref 0, .int x] (plB 0 P) (eqP (some (.int (bI (inB (plnj P) x)))) (plB 0 P)) := by
  refine PM.start (Or.inl (by decide +kernel)) rfl rfl rfl ?_
  intro X hX hR hx hin
  refine PW.iload_n hX dX1_hasJob_0 rfl rfl ?_
  refine PW.if_lt (tgt := 16) hX dX1_hasJob_1 (by decide) (fun c1 => ?_) (fun c1 => ?_)
  · refine PW.iconst (v := nI 0) hX dX1_hasJob_16 (by decide) ?_
    refine PW.zret hX hR dX1_hasJob_17 (by first | exact Or.inl rfl | exact Or.inr rfl | assumption) rfl rfl ?_
    first | exact ⟨rT (by simp_all [inB, i32_nle, i32_nlt]), rfl⟩ | exact ⟨rF (by simp_all [inB, i32_nle, i32_nlt]), rfl⟩
  · refine PW.iload_n hX dX1_hasJob_4 rfl rfl ?_
    refine PW.aload_n hX dX1_hasJob_5 rfl rfl ?_
    refine PW.getfield hX fl_X1_33 dX1_hasJob_6 rfl rfl ?_
    refine PW.icmp_ge (tgt := 16) hX dX1_hasJob_9 (by decide) (fun c9 => ?_) (fun c9 => ?_)
    · refine PW.iconst (v := nI 0) hX dX1_hasJob_16 (by decide) ?_
      refine PW.zret hX hR dX1_hasJob_17 (by first | exact Or.inl rfl | exact Or.inr rfl | assumption) rfl rfl ?_
      first | exact ⟨rT (by simp_all [inB, i32_nle, i32_nlt]), rfl⟩ | exact ⟨rF (by simp_all [inB, i32_nle, i32_nlt]), rfl⟩
    · refine PW.iconst (v := nI 1) hX dX1_hasJob_12 (by decide) ?_
      refine PW.goto (tgt := 17) hX dX1_hasJob_13 (by decide) ?_
      refine PW.zret hX hR dX1_hasJob_17 (by first | exact Or.inl rfl | exact Or.inr rfl | assumption) rfl rfl ?_
      first | exact ⟨rT (by simp_all [inB, i32_nle, i32_nlt]), rfl⟩ | exact ⟨rF (by simp_all [inB, i32_nle, i32_nlt]), rfl⟩
theorem pm_hasTaker (P : Pl) (x : Int32) : PM mu_X1_hasTaker 0 0 0 [.ref 0, .int x] (plB 0 P) (eqP (some (.int (bI (inB (plnt P) x)))) (plB 0 P)) := by
  refine PM.start (Or.inl (by decide +kernel)) rfl rfl rfl ?_
  intro X hX hR hx hin
  refine PW.iload_n hX dX1_hasTaker_0 rfl rfl ?_
  refine PW.if_lt (tgt := 16) hX dX1_hasTaker_1 (by decide) (fun c1 => ?_) (fun c1 => ?_)
  · refine PW.iconst (v := nI 0) hX dX1_hasTaker_16 (by decide) ?_
    refine PW.zret hX hR dX1_hasTaker_17 (by first | exact Or.inl rfl | exact Or.inr rfl | assumption) rfl rfl ?_
    first | exact ⟨rT (by simp_all [inB, i32_nle, i32_nlt]), rfl⟩ | exact ⟨rF (by simp_all [inB, i32_nle, i32_nlt]), rfl⟩
  · refine PW.iload_n hX dX1_hasTaker_4 rfl rfl ?_
    refine PW.aload_n hX dX1_hasTaker_5 rfl rfl ?_
    refine PW.getfield hX fl_X1_37 dX1_hasTaker_6 rfl rfl ?_
    refine PW.icmp_ge (tgt := 16) hX dX1_hasTaker_9 (by decide) (fun c9 => ?_) (fun c9 => ?_)
    · refine PW.iconst (v := nI 0) hX dX1_hasTaker_16 (by decide) ?_
      refine PW.zret hX hR dX1_hasTaker_17 (by first | exact Or.inl rfl | exact Or.inr rfl | assumption) rfl rfl ?_
      first | exact ⟨rT (by simp_all [inB, i32_nle, i32_nlt]), rfl⟩ | exact ⟨rF (by simp_all [inB, i32_nle, i32_nlt]), rfl⟩
    · refine PW.iconst (v := nI 1) hX dX1_hasTaker_12 (by decide) ?_
      refine PW.goto (tgt := 17) hX dX1_hasTaker_13 (by decide) ?_
      refine PW.zret hX hR dX1_hasTaker_17 (by first | exact Or.inl rfl | exact Or.inr rfl | assumption) rfl rfl ?_
      first | exact ⟨rT (by simp_all [inB, i32_nle, i32_nlt]), rfl⟩ | exact ⟨rF (by simp_all [inB, i32_nle, i32_nlt]), rfl⟩
/-! bits -/
theorem s_l : ∀ n, n < 32 → ((nI n &&& 31).toBitVec.smod 32).toNat = n := by decide +kernel
theorem nI_or (a b : Nat) : nI a ||| nI b = nI (a ||| b) := by
  apply Int32.toBitVec_inj.mp
  show BitVec.ofNat 32 a ||| BitVec.ofNat 32 b = BitVec.ofNat 32 (a ||| b)
  apply BitVec.eq_of_getLsbD_eq
  intro i hi
  simp [BitVec.getLsbD_ofNat, hi]
theorem nI_shl1 {k : Nat} (h : k < 31) : nI 1 <<< (nI k &&& 31) = nI (2 ^ k) := by
  rw [pk_shlN _ k (s_l k (by omega)), Nat.one_mul]
  rw [Nat.one_mul]
  exact Nat.pow_lt_pow_right (by decide) (by omega)
theorem bit_nI {m k : Nat} (hm : m < 2 ^ 31) (hk : k < 32) : (nI m >>> (nI k &&& 31)) &&& nI 1 = nI (bif m.testBit k then 1 else 0) := by
  rw [pk_shrN hm _ k (s_l k hk), pk_andN (by have := Nat.div_le_self m (2 ^ k); omega) 1 (by decide), Nat.testBit_eq_decide_div_mod_eq]
  congr 1
  have : m / 2 ^ k % 2 < 2 := Nat.mod_lt _ (by decide)
  rcases (show m / 2 ^ k % 2 = 0 ∨ m / 2 ^ k % 2 = 1 by omega) with h | h <;> simp [h]
theorem pm_isOwner (x : Int32) : PM mu_X6_isOwner 0 0 0 [.int x] [] (eqP (some (.int (bI (inB 4 x)))) []) := by
  refine PM.start (Or.inl (by decide +kernel)) rfl rfl rfl ?_
  intro X hX hR hx hin
  refine PW.iload_n hX dX6_isOwner_0 rfl rfl ?_
  refine PW.if_lt (tgt := 13) hX dX6_isOwner_1 (by decide) (fun c1 => ?_) (fun c1 => ?_)
  · refine PW.iconst (v := nI 0) hX dX6_isOwner_13 (by decide) ?_
    refine PW.zret hX hR dX6_isOwner_14 (by first | exact Or.inl rfl | exact Or.inr rfl | assumption) rfl rfl ?_
    first | exact ⟨rT (by simp_all [inB, i32_nle, i32_nlt]), rfl⟩ | exact ⟨rF (by simp_all [inB, i32_nle, i32_nlt]), rfl⟩
  · refine PW.iload_n hX dX6_isOwner_4 rfl rfl ?_
    refine PW.iconst (v := nI 4) hX dX6_isOwner_5 (by decide) ?_
    refine PW.icmp_ge (tgt := 13) hX dX6_isOwner_6 (by decide) (fun c6 => ?_) (fun c6 => ?_)
    · refine PW.iconst (v := nI 0) hX dX6_isOwner_13 (by decide) ?_
      refine PW.zret hX hR dX6_isOwner_14 (by first | exact Or.inl rfl | exact Or.inr rfl | assumption) rfl rfl ?_
      first | exact ⟨rT (by simp_all [inB, i32_nle, i32_nlt]), rfl⟩ | exact ⟨rF (by simp_all [inB, i32_nle, i32_nlt]), rfl⟩
    · refine PW.iconst (v := nI 1) hX dX6_isOwner_9 (by decide) ?_
      refine PW.goto (tgt := 14) hX dX6_isOwner_10 (by decide) ?_
      refine PW.zret hX hR dX6_isOwner_14 (by first | exact Or.inl rfl | exact Or.inr rfl | assumption) rfl rfl ?_
      first | exact ⟨rT (by simp_all [inB, i32_nle, i32_nlt]), rfl⟩ | exact ⟨rF (by simp_all [inB, i32_nle, i32_nlt]), rfl⟩
theorem pm_isZeroOrOne (x : Int32) : PM mu_X6_isZeroOrOne 0 0 0 [.int x] [] (eqP (some (.int (bI (decide (x = nI 0 ∨ x = nI 1))))) []) := by
  refine PM.start (Or.inl (by decide +kernel)) rfl rfl rfl ?_
  intro X hX hR hx hin
  refine PW.iload_n hX dX6_isZeroOrOne_0 rfl rfl ?_
  refine PW.if_eq (tgt := 9) hX dX6_isZeroOrOne_1 (by decide) (fun c1 => ?_) (fun c1 => ?_)
  · refine PW.iconst (v := nI 1) hX dX6_isZeroOrOne_9 (by decide) ?_
    refine PW.goto (tgt := 14) hX dX6_isZeroOrOne_10 (by decide) ?_
    refine PW.zret hX hR dX6_isZeroOrOne_14 (by first | exact Or.inl rfl | exact Or.inr rfl | assumption) rfl rfl ?_
    first | exact ⟨rT (decide_eq_true (Or.inl c1)), rfl⟩ | exact ⟨rT (decide_eq_true (Or.inr c6)), rfl⟩ | exact ⟨rF (decide_eq_false (fun h => h.elim c1 c6)), rfl⟩
  · refine PW.iload_n hX dX6_isZeroOrOne_4 rfl rfl ?_
    refine PW.iconst (v := nI 1) hX dX6_isZeroOrOne_5 (by decide) ?_
    refine PW.icmp_ne (tgt := 13) hX dX6_isZeroOrOne_6 (by decide) (fun c6 => ?_) (fun c6 => ?_)
    · refine PW.iconst (v := nI 0) hX dX6_isZeroOrOne_13 (by decide) ?_
      refine PW.zret hX hR dX6_isZeroOrOne_14 (by first | exact Or.inl rfl | exact Or.inr rfl | assumption) rfl rfl ?_
      first | exact ⟨rT (decide_eq_true (Or.inl c1)), rfl⟩ | exact ⟨rT (decide_eq_true (Or.inr c6)), rfl⟩ | exact ⟨rF (decide_eq_false (fun h => h.elim c1 c6)), rfl⟩
    · refine PW.iconst (v := nI 1) hX dX6_isZeroOrOne_9 (by decide) ?_
      refine PW.goto (tgt := 14) hX dX6_isZeroOrOne_10 (by decide) ?_
      refine PW.zret hX hR dX6_isZeroOrOne_14 (by first | exact Or.inl rfl | exact Or.inr rfl | assumption) rfl rfl ?_
      first | exact ⟨rT (decide_eq_true (Or.inl c1)), rfl⟩ | exact ⟨rT (decide_eq_true (Or.inr c6)), rfl⟩ | exact ⟨rF (decide_eq_false (fun h => h.elim c1 c6)), rfl⟩
theorem pm_hasBit (m k : Nat) (hm : m < 2 ^ 31) (hk : k < 32) : PM mu_X6_hasBit 0 0 0 [.int (nI m), .int (nI k)] [] (eqP (some (.int (bI (m.testBit k)))) []) := by
  refine PM.start (Or.inl (by decide +kernel)) rfl rfl rfl ?_
  intro X hX hR hx hin
  refine PW.iload_n hX dX6_hasBit_0 rfl rfl ?_
  refine PW.iload_n hX dX6_hasBit_1 rfl rfl ?_
  refine PW.ishr hX dX6_hasBit_2 ?_
  refine PW.iconst (v := nI 1) hX dX6_hasBit_3 (by decide) ?_
  refine PW.iand hX dX6_hasBit_4 ?_
  refine PW.top (bit_nI hm hk) ?_
  refine PW.iconst (v := nI 1) hX dX6_hasBit_5 (by decide) ?_
  refine PW.icmp_ne (tgt := 13) hX dX6_hasBit_6 (by decide) (fun c6 => ?_) (fun c6 => ?_)
  · have h9 : m.testBit k = false := by
      cases h : m.testBit k
      · rfl
      · rw [h] at c6; exact absurd rfl c6
    refine PW.iconst (v := nI 0) hX dX6_hasBit_13 (by decide) ?_
    refine PW.zret hX hR dX6_hasBit_14 (by first | exact Or.inl rfl | exact Or.inr rfl | assumption) rfl rfl ?_
    first | exact ⟨rT h9, rfl⟩ | exact ⟨rF h9, rfl⟩
  · have h9 : m.testBit k = true := by
      cases h : m.testBit k
      · rw [h] at c6; exact absurd c6 (by decide)
      · rfl
    refine PW.iconst (v := nI 1) hX dX6_hasBit_9 (by decide) ?_
    refine PW.goto (tgt := 14) hX dX6_hasBit_10 (by decide) ?_
    refine PW.zret hX hR dX6_hasBit_14 (by first | exact Or.inl rfl | exact Or.inr rfl | assumption) rfl rfl ?_
    first | exact ⟨rT h9, rfl⟩ | exact ⟨rF h9, rfl⟩
def upTo (n : Nat) : Nat := 2 ^ (n + 1) - 2
theorem pm_bitsUpTo (n : Nat) (hn : n < 20) : PM mu_X6_bitsUpTo 0 0 0 [.int (nI n)] [] (eqP (some (.int (nI (upTo n)))) []) := by
  refine PM.start (Or.inl (by decide +kernel)) rfl rfl rfl ?_
  intro X hX hR hx hin
  refine PW.iconst (v := nI 1) hX dX6_bitsUpTo_0 (by decide) ?_
  refine PW.iload_n hX dX6_bitsUpTo_1 rfl rfl ?_
  refine PW.iconst (v := nI 1) hX dX6_bitsUpTo_2 (by decide) ?_
  refine PW.iadd hX dX6_bitsUpTo_3 ?_
  refine PW.top (nI_add n 1) ?_
  refine PW.ishl hX dX6_bitsUpTo_4 ?_
  refine PW.top (nI_shl1 (by omega)) ?_
  refine PW.iconst (v := nI 2) hX dX6_bitsUpTo_5 (by decide) ?_
  refine PW.isub hX dX6_bitsUpTo_6 ?_
  refine PW.top (pk_sub (Nat.pow_le_pow_right (n := 2) (by decide) (show 1 ≤ n + 1 by omega))) ?_
  refine PW.iret hX hR dX6_bitsUpTo_7 rfl rfl ?_
  exact ⟨rfl, rfl⟩
/-! Plan's methods -/
theorem div10 {k : Nat} (hk : k < 2 ^ 31) : nI k / nI 10 = nI (k / 10) := pk_div hk (by decide) (by decide)
theorem rem10 {k : Nat} (hk : k < 2 ^ 31) : nI k - nI k / nI 10 * nI 10 = nI (k % 10) := pk_rem hk (by decide) (by decide)
/-- a sheet that there is -/
def isSh (P : Pl) (k : Nat) : Bool := decide (k / 10 < plnj P) && (decide (1 ≤ k % 10) && decide (k % 10 ≤ plsh P (k / 10)))
def isShI (P : Pl) (x : Int32) : Bool := !decide (x < 0) && isSh P x.toNatClampNeg
theorem isShI_nI {P : Pl} {k : Nat} (hk : k < 2 ^ 31) : isShI P (nI k) = isSh P k := by
  simp [isShI, nI_pos hk, nI_clamp hk]
theorem pm_hasSheet (P : Pl) (ok : PlOk P) (x : Int32) : PM mu_X1_hasSheet 1 0 0 [.ref 0, .int x] (plB 0 P) (eqP (some (.int (bI (isShI P x)))) (plB 0 P)) := by
  obtain ⟨o1, o2, o3, o4, o5, o6⟩ := ok
  by_cases hx0 : x < 0
  · have hF : isShI P x = false := by simp [isShI, hx0]
    refine PM.start (Or.inl (by decide +kernel)) rfl rfl rfl ?_
    intro X hX hR hx hin
    refine PW.iload_n hX dX1_hasSheet_0 rfl rfl ?_
    refine PW.if_lt (tgt := 15) hX dX1_hasSheet_1 (by decide) (fun c1 => ?_) (fun c1 => ?_)
    · refine PW.iconst (v := nI 0) hX dX1_hasSheet_15 (by decide) ?_
      refine PW.zret hX hR dX1_hasSheet_16 (by first | exact Or.inl rfl | exact Or.inr rfl | assumption) rfl rfl ?_
      exact ⟨rF hF, rfl⟩
    · exact absurd hx0 c1 -- CLOSED
  · obtain ⟨k, hk, rfl⟩ := nI_of hx0
    rw [isShI_nI hk]
    refine PM.start (Or.inl (by decide +kernel)) rfl rfl rfl ?_
    intro X hX hR hx hin
    refine PW.iload_n hX dX1_hasSheet_0 rfl rfl ?_
    refine PW.if_lt (tgt := 15) hX dX1_hasSheet_1 (by decide) (fun c1 => ?_) (fun c1 => ?_)
    · exact absurd c1 hx0 -- CLOSED
    · refine PW.aload_n hX dX1_hasSheet_4 rfl rfl ?_
      refine PW.iload_n hX dX1_hasSheet_5 rfl rfl ?_
      refine PW.bipush (v := nI 10) hX dX1_hasSheet_6 (by decide) ?_
      refine PW.idiv hX dX1_hasSheet_8 (by decide) ?_
      refine PW.top (div10 hk) ?_
      refine PW.vR hX ml_X1_46 (pm_hasJob P (nI (k / 10))) dX1_hasSheet_9 [0, 1, 2, 3, 4, 5, 6, 7] rfl rfl rfl rfl rfl rfl rfl rfl rfl rfl rfl rfl rfl ?_
      refine PW.top (show _ = bI (decide (k / 10 < plnj P)) by rw [inB_nI (by omega) (by omega)]) ?_
      refine PW.if_ne (tgt := 17) hX dX1_hasSheet_12 (by decide) (fun c12 => ?_) (fun c12 => ?_)
      · have h9 : k / 10 < plnj P := by
          by_cases h : k / 10 < plnj P
          · exact h
          · rw [decide_eq_false h] at c12; exact absurd rfl c12
        refine PW.iload_n hX dX1_hasSheet_17 rfl rfl ?_
        refine PW.bipush (v := nI 10) hX dX1_hasSheet_18 (by decide) ?_
        refine PW.irem hX dX1_hasSheet_20 (by decide) ?_
        refine PW.top (rem10 hk) ?_
        refine PW.istore_n hX dX1_hasSheet_21 rfl rfl ?_
        refine PW.iload_n hX dX1_hasSheet_22 rfl rfl ?_
        refine PW.iconst (v := nI 1) hX dX1_hasSheet_23 (by decide) ?_
        refine PW.icmp_lt (tgt := 44) hX dX1_hasSheet_24 (by decide) (fun c24 => ?_) (fun c24 => ?_)
        · rw [nI_ltI (by omega) (by omega)] at c24
          refine PW.iconst (v := nI 0) hX dX1_hasSheet_44 (by decide) ?_
          refine PW.zret hX hR dX1_hasSheet_45 (by first | exact Or.inl rfl | exact Or.inr rfl | assumption) rfl rfl ?_
          first | exact ⟨rT (by simp only [isSh, Bool.and_eq_true, decide_eq_true_eq]; exact ⟨h9, by omega, by omega⟩), rfl⟩ | exact ⟨rF (by simp only [isSh, Bool.and_eq_false_iff, decide_eq_false_iff_not]; omega), rfl⟩
        · rw [nI_ltI (by omega) (by omega)] at c24
          refine PW.iload_n hX dX1_hasSheet_27 rfl rfl ?_
          refine PW.aload_n hX dX1_hasSheet_28 rfl rfl ?_
          refine PW.getfield hX fl_X1_15 dX1_hasSheet_29 rfl rfl ?_
          refine PW.iload_n hX dX1_hasSheet_32 rfl rfl ?_
          refine PW.bipush (v := nI 10) hX dX1_hasSheet_33 (by decide) ?_
          refine PW.idiv hX dX1_hasSheet_35 (by decide) ?_
          refine PW.top (div10 hk) ?_
          refine PW.iaload hX dX1_hasSheet_36 rfl rfl rfl (by omega) ?_
          have hsh := o5 (k / 10) h9
          refine PW.icmp_gt (tgt := 44) hX dX1_hasSheet_37 (by decide) (fun c37 => ?_) (fun c37 => ?_)
          · rw [nI_ltI (by omega) (by omega)] at c37
            refine PW.iconst (v := nI 0) hX dX1_hasSheet_44 (by decide) ?_
            refine PW.zret hX hR dX1_hasSheet_45 (by first | exact Or.inl rfl | exact Or.inr rfl | assumption) rfl rfl ?_
            first | exact ⟨rT (by simp only [isSh, Bool.and_eq_true, decide_eq_true_eq]; exact ⟨h9, by omega, by omega⟩), rfl⟩ | exact ⟨rF (by simp only [isSh, Bool.and_eq_false_iff, decide_eq_false_iff_not]; omega), rfl⟩
          · rw [nI_ltI (by omega) (by omega)] at c37
            refine PW.iconst (v := nI 1) hX dX1_hasSheet_40 (by decide) ?_
            refine PW.goto (tgt := 45) hX dX1_hasSheet_41 (by decide) ?_
            refine PW.zret hX hR dX1_hasSheet_45 (by first | exact Or.inl rfl | exact Or.inr rfl | assumption) rfl rfl ?_
            first | exact ⟨rT (by simp only [isSh, Bool.and_eq_true, decide_eq_true_eq]; exact ⟨h9, by omega, by omega⟩), rfl⟩ | exact ⟨rF (by simp only [isSh, Bool.and_eq_false_iff, decide_eq_false_iff_not]; omega), rfl⟩
      · have h9 : ¬ k / 10 < plnj P := fun h => by rw [decide_eq_true h] at c12; exact absurd c12 (by decide)
        refine PW.iconst (v := nI 0) hX dX1_hasSheet_15 (by decide) ?_
        refine PW.zret hX hR dX1_hasSheet_16 (by first | exact Or.inl rfl | exact Or.inr rfl | assumption) rfl rfl ?_
        exact ⟨rF (by simp [isSh, h9]), rfl⟩
theorem pm_isOf (P : Pl) (ok : PlOk P) (k o : Nat) (hk : k < 2 ^ 31) (ho : o < 2 ^ 31) : PM mu_X1_isOf 2 0 0 [.ref 0, .int (nI k), .int (nI o)] (plB 0 P) (eqP (some (.int (bI (isSh P k && decide (plow P (k / 10) = o))))) (plB 0 P)) := by
  have ok' := ok
  obtain ⟨o1, o2, o3, o4, o5, o6⟩ := ok
  refine PM.start (Or.inl (by decide +kernel)) rfl rfl rfl ?_
  intro X hX hR hx hin
  refine PW.aload_n hX dX1_isOf_0 rfl rfl ?_
  refine PW.iload_n hX dX1_isOf_1 rfl rfl ?_
  refine PW.vR hX ml_X1_50 (pm_hasSheet P ok' (nI k)) dX1_isOf_2 [0, 1, 2, 3, 4, 5, 6, 7] rfl rfl rfl rfl rfl rfl rfl rfl rfl rfl rfl rfl rfl ?_
  refine PW.top (show _ = bI (isSh P k) by rw [isShI_nI hk]) ?_
  refine PW.if_eq (tgt := 25) hX dX1_isOf_5 (by decide) (fun c5 => ?_) (fun c5 => ?_)
  · have h9 : isSh P k = false := by
      cases h : isSh P k
      · rfl
      · rw [h] at c5; exact absurd c5 (by decide)
    refine PW.iconst (v := nI 0) hX dX1_isOf_25 (by decide) ?_
    refine PW.zret hX hR dX1_isOf_26 (by first | exact Or.inl rfl | exact Or.inr rfl | assumption) rfl rfl ?_
    exact ⟨rF (by simp [h9]), rfl⟩
  · have h9 : isSh P k = true := by
      cases h : isSh P k
      · rw [h] at c5; exact absurd rfl c5
      · rfl
    have h8 : k / 10 < plnj P := by simp only [isSh, Bool.and_eq_true, decide_eq_true_eq] at h9; exact h9.1
    refine PW.aload_n hX dX1_isOf_8 rfl rfl ?_
    refine PW.getfield hX fl_X1_9 dX1_isOf_9 rfl rfl ?_
    refine PW.iload_n hX dX1_isOf_12 rfl rfl ?_
    refine PW.bipush (v := nI 10) hX dX1_isOf_13 (by decide) ?_
    refine PW.idiv hX dX1_isOf_15 (by decide) ?_
    refine PW.top (div10 hk) ?_
    refine PW.iaload hX dX1_isOf_16 rfl rfl rfl (by omega) ?_
    have hsh := o5 (k / 10) h8
    refine PW.iload_n hX dX1_isOf_17 rfl rfl ?_
    refine PW.icmp_ne (tgt := 25) hX dX1_isOf_18 (by decide) (fun c18 => ?_) (fun c18 => ?_)
    · rw [nI_eq (by omega) ho] at c18
      refine PW.iconst (v := nI 0) hX dX1_isOf_25 (by decide) ?_
      refine PW.zret hX hR dX1_isOf_26 (by first | exact Or.inl rfl | exact Or.inr rfl | assumption) rfl rfl ?_
      exact ⟨rF (by simp [h9, c18]), rfl⟩
    · rw [nI_eq (by omega) ho] at c18
      refine PW.iconst (v := nI 1) hX dX1_isOf_21 (by decide) ?_
      refine PW.goto (tgt := 26) hX dX1_isOf_22 (by decide) ?_
      refine PW.zret hX hR dX1_isOf_26 (by first | exact Or.inl rfl | exact Or.inr rfl | assumption) rfl rfl ?_
      exact ⟨rT (by simp [h9, c18]), rfl⟩
def plAddJ (P : Pl) (o s m : Nat) : Pl := (va_up (plow P) (plnj P) o, va_up (plsh P) (plnj P) s, va_up (plse P) (plnj P) m, pltk P, pltw P, pltf P, pltm P, plnj P + 1, plnt P, plkd P, plsp P)
def okJ (P : Pl) (o s m : Nat) : Bool := decide (o < 4 ∧ 1 ≤ s ∧ s ≤ 9 ∧ m < 60 ∧ plnj P < 6)
theorem pm_addJob (P : Pl) (ok : PlOk P) (o s m : Nat) (ho : o < 100) (hs : s < 100) (hm : m < 100) : PM mu_X1_addJob 1 0 0 [.ref 0, .int (nI o), .int (nI s), .int (nI m)] (plB 0 P) (eqP (some (.int (bI (okJ P o s m)))) (plB 0 (bif okJ P o s m then plAddJ P o s m else P))) := by
  obtain ⟨o1, o2, o3, o4, o5, o6⟩ := ok
  have e0 : (bI (inB 4 (nI o))) = bI (decide (o < 4)) := by rw [inB_nI (by omega) (by omega)]
  refine PM.start (Or.inl (by decide +kernel)) rfl rfl rfl ?_
  intro X hX hR hx hin
  have hj : PW X 33 [some (.ref 0), some (.int (nI o)), some (.int (nI s)), some (.int (nI m)), none] [.int (bI (decide (o < 4 ∧ 1 ≤ s ∧ s ≤ 9 ∧ m < 60)))] (plB 0 P) 0 0 := by
    cases hb : decide (o < 4 ∧ 1 ≤ s ∧ s ≤ 9 ∧ m < 60)
    · have hF : okJ P o s m = false := by simp only [okJ, decide_eq_false_iff_not] at hb ⊢; omega
      rw [hF] at hR
      refine PW.istore hX dX1_addJob_33 rfl ?_
      refine PW.iload hX dX1_addJob_35 rfl ?_
      refine PW.if_eq (tgt := 49) hX dX1_addJob_37 (by decide) (fun c37 => ?_) (fun c37 => ?_)
      · refine PW.iconst (v := nI 0) hX dX1_addJob_49 (by decide) ?_
        refine PW.zret hX hR dX1_addJob_50 (by first | exact Or.inl rfl | exact Or.inr rfl | assumption) rfl rfl ?_
        exact ⟨rfl, rfl⟩
      · exact absurd rfl c37 -- CLOSED
    · simp only [decide_eq_true_eq] at hb
      refine PW.istore hX dX1_addJob_33 rfl ?_
      refine PW.iload hX dX1_addJob_35 rfl ?_
      refine PW.if_eq (tgt := 49) hX dX1_addJob_37 (by decide) (fun c37 => ?_) (fun c37 => ?_)
      · exact absurd c37 (by decide) -- CLOSED
      · refine PW.aload_n hX dX1_addJob_40 rfl rfl ?_
        refine PW.getfield hX fl_X1_33 dX1_addJob_41 rfl rfl ?_
        refine PW.bipush (v := nI 6) hX dX1_addJob_44 (by decide) ?_
        refine PW.icmp_lt (tgt := 51) hX dX1_addJob_46 (by decide) (fun c46 => ?_) (fun c46 => ?_)
        · rw [nI_ltI (by omega) (by omega)] at c46
          refine PW.aload_n hX dX1_addJob_51 rfl rfl ?_
          refine PW.getfield hX fl_X1_9 dX1_addJob_52 rfl rfl ?_
          refine PW.aload_n hX dX1_addJob_55 rfl rfl ?_
          refine PW.getfield hX fl_X1_33 dX1_addJob_56 rfl rfl ?_
          refine PW.iload_n hX dX1_addJob_59 rfl rfl ?_
          refine PW.iastore hX dX1_addJob_60 rfl rfl rfl (by omega) ?_
          refine PW.aload_n hX dX1_addJob_61 rfl rfl ?_
          refine PW.getfield hX fl_X1_15 dX1_addJob_62 rfl rfl ?_
          refine PW.aload_n hX dX1_addJob_65 rfl rfl ?_
          refine PW.getfield hX fl_X1_33 dX1_addJob_66 rfl rfl ?_
          refine PW.iload_n hX dX1_addJob_69 rfl rfl ?_
          refine PW.iastore hX dX1_addJob_70 rfl rfl rfl (by omega) ?_
          refine PW.aload_n hX dX1_addJob_71 rfl rfl ?_
          refine PW.getfield hX fl_X1_18 dX1_addJob_72 rfl rfl ?_
          refine PW.aload_n hX dX1_addJob_75 rfl rfl ?_
          refine PW.getfield hX fl_X1_33 dX1_addJob_76 rfl rfl ?_
          refine PW.iload_n hX dX1_addJob_79 rfl rfl ?_
          refine PW.iastore hX dX1_addJob_80 rfl rfl rfl (by omega) ?_
          refine PW.aload_n hX dX1_addJob_81 rfl rfl ?_
          refine PW.dup hX dX1_addJob_82 rfl ?_
          refine PW.getfield hX fl_X1_33 dX1_addJob_83 rfl rfl ?_
          refine PW.iconst (v := nI 1) hX dX1_addJob_86 (by decide) ?_
          refine PW.iadd hX dX1_addJob_87 ?_
          refine PW.top (nI_add (plnj P) 1) ?_
          refine PW.putI hX fp_X1_33 dX1_addJob_88 rfl rfl ?_
          refine PW.iconst (v := nI 1) hX dX1_addJob_91 (by decide) ?_
          refine PW.zret hX hR dX1_addJob_92 (by first | exact Or.inl rfl | exact Or.inr rfl | assumption) rfl rfl ?_
          have hT : okJ P o s m = true := by simp only [okJ, decide_eq_true_eq]; omega
          rw [hT]
          exact ⟨rfl, by simp only [upd_nI]; rfl⟩
        · rw [nI_ltI (by omega) (by omega)] at c46
          refine PW.iconst (v := nI 0) hX dX1_addJob_49 (by decide) ?_
          refine PW.zret hX hR dX1_addJob_50 (by first | exact Or.inl rfl | exact Or.inr rfl | assumption) rfl rfl ?_
          exact ⟨rF (by simp only [okJ, decide_eq_false_iff_not]; omega), by rw [show okJ P o s m = false by simp only [okJ, decide_eq_false_iff_not]; omega]; rfl⟩
  refine PW.iload_n hX dX1_addJob_0 rfl rfl ?_
  refine PW.nR hX ml_X1_53 (pm_isOwner (nI o)) dX1_addJob_1 rfl rfl rfl rfl rfl rfl ?_
  refine PW.top e0 ?_
  refine PW.if_eq (tgt := 32) hX dX1_addJob_4 (by decide) (fun c4 => ?_) (fun c4 => ?_)
  · have h4 : ¬ o < 4 := fun h => by rw [decide_eq_true h] at c4; exact absurd c4 (by decide)
    have hz : nI 0 = bI (decide (o < 4 ∧ 1 ≤ s ∧ s ≤ 9 ∧ m < 60)) := by rw [decide_eq_false (by omega)]; rfl
    refine PW.iconst (v := nI 0) hX dX1_addJob_32 (by decide) ?_
    exact PW.top hz hj
  · have h4 : o < 4 := by
      by_cases h : o < 4
      · exact h
      · rw [decide_eq_false h] at c4; exact absurd rfl c4
    refine PW.iload_n hX dX1_addJob_7 rfl rfl ?_
    refine PW.iconst (v := nI 1) hX dX1_addJob_8 (by decide) ?_
    refine PW.icmp_lt (tgt := 32) hX dX1_addJob_9 (by decide) (fun c9 => ?_) (fun c9 => ?_)
    · rw [nI_ltI (by omega) (by omega)] at c9
      have hz : nI 0 = bI (decide (o < 4 ∧ 1 ≤ s ∧ s ≤ 9 ∧ m < 60)) := by rw [decide_eq_false (by omega)]; rfl
      refine PW.iconst (v := nI 0) hX dX1_addJob_32 (by decide) ?_
      exact PW.top hz hj
    · rw [nI_ltI (by omega) (by omega)] at c9
      refine PW.iload_n hX dX1_addJob_12 rfl rfl ?_
      refine PW.bipush (v := nI 9) hX dX1_addJob_13 (by decide) ?_
      refine PW.icmp_gt (tgt := 32) hX dX1_addJob_15 (by decide) (fun c15 => ?_) (fun c15 => ?_)
      · rw [nI_ltI (by omega) (by omega)] at c15
        have hz : nI 0 = bI (decide (o < 4 ∧ 1 ≤ s ∧ s ≤ 9 ∧ m < 60)) := by rw [decide_eq_false (by omega)]; rfl
        refine PW.iconst (v := nI 0) hX dX1_addJob_32 (by decide) ?_
        exact PW.top hz hj
      · rw [nI_ltI (by omega) (by omega)] at c15
        refine PW.iload_n hX dX1_addJob_18 rfl rfl ?_
        refine PW.if_lt (tgt := 32) hX dX1_addJob_19 (by decide) (fun c19 => ?_) (fun c19 => ?_)
        · exact absurd c19 (nI_pos (by omega)) -- CLOSED
        · refine PW.iload_n hX dX1_addJob_22 rfl rfl ?_
          refine PW.bipush (v := nI 60) hX dX1_addJob_23 (by decide) ?_
          refine PW.icmp_ge (tgt := 32) hX dX1_addJob_25 (by decide) (fun c25 => ?_) (fun c25 => ?_)
          · rw [nI_leI (by omega) (by omega)] at c25
            have hz : nI 0 = bI (decide (o < 4 ∧ 1 ≤ s ∧ s ≤ 9 ∧ m < 60)) := by rw [decide_eq_false (by omega)]; rfl
            refine PW.iconst (v := nI 0) hX dX1_addJob_32 (by decide) ?_
            exact PW.top hz hj
          · rw [nI_leI (by omega) (by omega)] at c25
            have hz : nI 1 = bI (decide (o < 4 ∧ 1 ≤ s ∧ s ≤ 9 ∧ m < 60)) := by rw [decide_eq_true (by omega)]; rfl
            refine PW.iconst (v := nI 1) hX dX1_addJob_28 (by decide) ?_
            refine PW.goto (tgt := 33) hX dX1_addJob_29 (by decide) ?_
            exact PW.top hz hj
def plAddT (P : Pl) (k o f m : Nat) : Pl := (plow P, plsh P, plse P, va_up (pltk P) (plnt P) k, va_up (pltw P) (plnt P) o, va_up (pltf P) (plnt P) f, va_up (pltm P) (plnt P) m, plnj P, plnt P + 1, plkd P, plsp P)
def okT (P : Pl) (o m : Nat) : Bool := decide (o < 4 ∧ m < 100 ∧ plnt P < 6)
theorem pm_addTaker (P : Pl) (ok : PlOk P) (k o f m : Nat) (ho : o < 100) (hm : m < 100) : PM mu_X1_addTaker 1 0 0 [.ref 0, .int (nI k), .int (nI o), .int (nI f), .int (nI m)] (plB 0 P) (eqP (some (.int (bI (okT P o m)))) (plB 0 (bif okT P o m then plAddT P k o f m else P))) := by
  obtain ⟨o1, o2, o3, o4, o5, o6⟩ := ok
  have e0 : (bI (inB 4 (nI o))) = bI (decide (o < 4)) := by rw [inB_nI (by omega) (by omega)]
  refine PM.start (Or.inl (by decide +kernel)) rfl rfl rfl ?_
  intro X hX hR hx hin
  have hj : PW X 24 [some (.ref 0), some (.int (nI k)), some (.int (nI o)), some (.int (nI f)), some (.int (nI m)), none] [.int (bI (decide (o < 4 ∧ m < 100)))] (plB 0 P) 0 0 := by
    cases hb : decide (o < 4 ∧ m < 100)
    · have hF : okT P o m = false := by simp only [okT, decide_eq_false_iff_not] at hb ⊢; omega
      rw [hF] at hR
      refine PW.istore hX dX1_addTaker_24 rfl ?_
      refine PW.iload hX dX1_addTaker_26 rfl ?_
      refine PW.if_eq (tgt := 40) hX dX1_addTaker_28 (by decide) (fun c28 => ?_) (fun c28 => ?_)
      · refine PW.iconst (v := nI 0) hX dX1_addTaker_40 (by decide) ?_
        refine PW.zret hX hR dX1_addTaker_41 (by first | exact Or.inl rfl | exact Or.inr rfl | assumption) rfl rfl ?_
        exact ⟨rfl, rfl⟩
      · exact absurd rfl c28 -- CLOSED
    · simp only [decide_eq_true_eq] at hb
      refine PW.istore hX dX1_addTaker_24 rfl ?_
      refine PW.iload hX dX1_addTaker_26 rfl ?_
      refine PW.if_eq (tgt := 40) hX dX1_addTaker_28 (by decide) (fun c28 => ?_) (fun c28 => ?_)
      · exact absurd c28 (by decide) -- CLOSED
      · refine PW.aload_n hX dX1_addTaker_31 rfl rfl ?_
        refine PW.getfield hX fl_X1_37 dX1_addTaker_32 rfl rfl ?_
        refine PW.bipush (v := nI 6) hX dX1_addTaker_35 (by decide) ?_
        refine PW.icmp_lt (tgt := 42) hX dX1_addTaker_37 (by decide) (fun c37 => ?_) (fun c37 => ?_)
        · rw [nI_ltI (by omega) (by omega)] at c37
          refine PW.aload_n hX dX1_addTaker_42 rfl rfl ?_
          refine PW.getfield hX fl_X1_21 dX1_addTaker_43 rfl rfl ?_
          refine PW.aload_n hX dX1_addTaker_46 rfl rfl ?_
          refine PW.getfield hX fl_X1_37 dX1_addTaker_47 rfl rfl ?_
          refine PW.iload_n hX dX1_addTaker_50 rfl rfl ?_
          refine PW.iastore hX dX1_addTaker_51 rfl rfl rfl (by omega) ?_
          refine PW.aload_n hX dX1_addTaker_52 rfl rfl ?_
          refine PW.getfield hX fl_X1_24 dX1_addTaker_53 rfl rfl ?_
          refine PW.aload_n hX dX1_addTaker_56 rfl rfl ?_
          refine PW.getfield hX fl_X1_37 dX1_addTaker_57 rfl rfl ?_
          refine PW.iload_n hX dX1_addTaker_60 rfl rfl ?_
          refine PW.iastore hX dX1_addTaker_61 rfl rfl rfl (by omega) ?_
          refine PW.aload_n hX dX1_addTaker_62 rfl rfl ?_
          refine PW.getfield hX fl_X1_27 dX1_addTaker_63 rfl rfl ?_
          refine PW.aload_n hX dX1_addTaker_66 rfl rfl ?_
          refine PW.getfield hX fl_X1_37 dX1_addTaker_67 rfl rfl ?_
          refine PW.iload_n hX dX1_addTaker_70 rfl rfl ?_
          refine PW.iastore hX dX1_addTaker_71 rfl rfl rfl (by omega) ?_
          refine PW.aload_n hX dX1_addTaker_72 rfl rfl ?_
          refine PW.getfield hX fl_X1_30 dX1_addTaker_73 rfl rfl ?_
          refine PW.aload_n hX dX1_addTaker_76 rfl rfl ?_
          refine PW.getfield hX fl_X1_37 dX1_addTaker_77 rfl rfl ?_
          refine PW.iload hX dX1_addTaker_80 rfl ?_
          refine PW.iastore hX dX1_addTaker_82 rfl rfl rfl (by omega) ?_
          refine PW.aload_n hX dX1_addTaker_83 rfl rfl ?_
          refine PW.dup hX dX1_addTaker_84 rfl ?_
          refine PW.getfield hX fl_X1_37 dX1_addTaker_85 rfl rfl ?_
          refine PW.iconst (v := nI 1) hX dX1_addTaker_88 (by decide) ?_
          refine PW.iadd hX dX1_addTaker_89 ?_
          refine PW.top (nI_add (plnt P) 1) ?_
          refine PW.putI hX fp_X1_37 dX1_addTaker_90 rfl rfl ?_
          refine PW.iconst (v := nI 1) hX dX1_addTaker_93 (by decide) ?_
          refine PW.zret hX hR dX1_addTaker_94 (by first | exact Or.inl rfl | exact Or.inr rfl | assumption) rfl rfl ?_
          have hT : okT P o m = true := by simp only [okT, decide_eq_true_eq]; omega
          rw [hT]
          exact ⟨rfl, by simp only [upd_nI]; rfl⟩
        · rw [nI_ltI (by omega) (by omega)] at c37
          refine PW.iconst (v := nI 0) hX dX1_addTaker_40 (by decide) ?_
          refine PW.zret hX hR dX1_addTaker_41 (by first | exact Or.inl rfl | exact Or.inr rfl | assumption) rfl rfl ?_
          exact ⟨rF (by simp only [okT, decide_eq_false_iff_not]; omega), by rw [show okT P o m = false by simp only [okT, decide_eq_false_iff_not]; omega]; rfl⟩
  refine PW.iload_n hX dX1_addTaker_0 rfl rfl ?_
  refine PW.nR hX ml_X1_53 (pm_isOwner (nI o)) dX1_addTaker_1 rfl rfl rfl rfl rfl rfl ?_
  refine PW.top e0 ?_
  refine PW.if_eq (tgt := 23) hX dX1_addTaker_4 (by decide) (fun c4 => ?_) (fun c4 => ?_)
  · have h4 : ¬ o < 4 := fun h => by rw [decide_eq_true h] at c4; exact absurd c4 (by decide)
    have hz : nI 0 = bI (decide (o < 4 ∧ m < 100)) := by rw [decide_eq_false (by omega)]; rfl
    refine PW.iconst (v := nI 0) hX dX1_addTaker_23 (by decide) ?_
    exact PW.top hz hj
  · have h4 : o < 4 := by
      by_cases h : o < 4
      · exact h
      · rw [decide_eq_false h] at c4; exact absurd rfl c4
    refine PW.iload hX dX1_addTaker_7 rfl ?_
    refine PW.if_lt (tgt := 23) hX dX1_addTaker_9 (by decide) (fun c9 => ?_) (fun c9 => ?_)
    · exact absurd c9 (nI_pos (by omega)) -- CLOSED
    · refine PW.iload hX dX1_addTaker_12 rfl ?_
      refine PW.bipush (v := nI 100) hX dX1_addTaker_14 (by decide) ?_
      refine PW.icmp_ge (tgt := 23) hX dX1_addTaker_16 (by decide) (fun c16 => ?_) (fun c16 => ?_)
      · rw [nI_leI (by omega) (by omega)] at c16
        have hz : nI 0 = bI (decide (o < 4 ∧ m < 100)) := by rw [decide_eq_false (by omega)]; rfl
        refine PW.iconst (v := nI 0) hX dX1_addTaker_23 (by decide) ?_
        exact PW.top hz hj
      · rw [nI_leI (by omega) (by omega)] at c16
        have hz : nI 1 = bI (decide (o < 4 ∧ m < 100)) := by rw [decide_eq_true (by omega)]; rfl
        refine PW.iconst (v := nI 1) hX dX1_addTaker_19 (by decide) ?_
        refine PW.goto (tgt := 24) hX dX1_addTaker_20 (by decide) ?_
        exact PW.top hz hj
def plMac (P : Pl) (k s : Nat) : Pl := (plow P, plsh P, plse P, pltk P, pltw P, pltf P, pltm P, plnj P, plnt P, k, s)
theorem pm_setMachine (P : Pl) (k s : Nat) : PM mu_X1_setMachine 0 0 0 [.ref 0, .int (nI k), .int (nI s)] (plB 0 P) (eqP none (plB 0 (plMac P k s))) := by
  refine PM.start (Or.inl (by decide +kernel)) rfl rfl rfl ?_
  intro X hX hR hx hin
  refine PW.aload_n hX dX1_setMachine_0 rfl rfl ?_
  refine PW.iload_n hX dX1_setMachine_1 rfl rfl ?_
  refine PW.putI hX fp_X1_40 dX1_setMachine_2 rfl rfl ?_
  refine PW.aload_n hX dX1_setMachine_5 rfl rfl ?_
  refine PW.iload_n hX dX1_setMachine_6 rfl rfl ?_
  refine PW.putI hX fp_X1_43 dX1_setMachine_7 rfl rfl ?_
  refine PW.vret hX hR dX1_setMachine_10 rfl rfl ?_
  exact ⟨rfl, rfl⟩
def sumN (f : Nat → Nat) : Nat → Nat
  | 0 => 0
  | n + 1 => sumN f n + f n
def orN (f : Nat → Nat) : Nat → Nat
  | 0 => 0
  | n + 1 => orN f n ||| f n
theorem pm_allSheets (P : Pl) (ok : PlOk P) : PM mu_X1_allSheets 0 0 0 [.ref 0] (plB 0 P) (eqP (some (.int (nI (sumN (plsh P) (plnj P))))) (plB 0 P)) := by
  obtain ⟨o1, o2, o3, o4, o5, o6⟩ := ok
  refine PM.start (Or.inl (by decide +kernel)) rfl rfl rfl ?_
  intro X hX hR hx hin
  have loop : ∀ n i : Nat, i ≤ plnj P → plnj P < i + n → PW X 4 [some (.ref 0), some (.int (nI (sumN (plsh P) i))), some (.int (nI i))] [] (plB 0 P) 0 0 := by
    intro n
    induction n with
    | zero => intro i h1 h2; exact absurd h2 (by omega)
    | succ n ih =>
      intro i h1 h2
      refine PW.iload_n hX dX1_allSheets_4 rfl rfl ?_
      refine PW.aload_n hX dX1_allSheets_5 rfl rfl ?_
      refine PW.getfield hX fl_X1_33 dX1_allSheets_6 rfl rfl ?_
      refine PW.icmp_ge (tgt := 27) hX dX1_allSheets_9 (by decide) (fun c9 => ?_) (fun c9 => ?_)
      · rw [nI_leI (by omega) (by omega)] at c9
        have e : i = plnj P := by omega
        subst e
        refine PW.iload_n hX dX1_allSheets_27 rfl rfl ?_
        refine PW.iret hX hR dX1_allSheets_28 rfl rfl ?_
        exact ⟨rfl, rfl⟩
      · rw [nI_leI (by omega) (by omega)] at c9
        refine PW.iload_n hX dX1_allSheets_12 rfl rfl ?_
        refine PW.aload_n hX dX1_allSheets_13 rfl rfl ?_
        refine PW.getfield hX fl_X1_15 dX1_allSheets_14 rfl rfl ?_
        refine PW.iload_n hX dX1_allSheets_17 rfl rfl ?_
        refine PW.iaload hX dX1_allSheets_18 rfl rfl rfl (by omega) ?_
        refine PW.iadd hX dX1_allSheets_19 ?_
        refine PW.top (nI_add _ _) ?_
        refine PW.istore_n hX dX1_allSheets_20 rfl rfl ?_
        first | refine PW.iinc hX dX1_allSheets_21 rfl (iincN _) ?_ | refine PW.iinc hX dX1_allSheets_21 rfl rfl ?_
        refine PW.goto (tgt := 4) hX dX1_allSheets_24 (by decide) ?_
        exact ih (i + 1) (by omega) (by omega)
  refine PW.iconst (v := nI 0) hX dX1_allSheets_0 (by decide) ?_
  refine PW.istore_n hX dX1_allSheets_1 rfl rfl ?_
  refine PW.iconst (v := nI 0) hX dX1_allSheets_2 (by decide) ?_
  refine PW.istore_n hX dX1_allSheets_3 rfl rfl ?_
  exact loop (plnj P + 1) 0 (by omega) (by omega)
def ofW (P : Pl) (o : Nat) : Nat → Nat := fun j => if plow P j = o then plsh P j else 0
theorem pm_sheetsOf (P : Pl) (ok : PlOk P) (o : Nat) (ho : o < 4) : PM mu_X1_sheetsOf 0 0 0 [.ref 0, .int (nI o)] (plB 0 P) (eqP (some (.int (nI (sumN (ofW P o) (plnj P))))) (plB 0 P)) := by
  obtain ⟨o1, o2, o3, o4, o5, o6⟩ := ok
  refine PM.start (Or.inl (by decide +kernel)) rfl rfl rfl ?_
  intro X hX hR hx hin
  have loop : ∀ n i : Nat, i ≤ plnj P → plnj P < i + n → PW X 4 [some (.ref 0), some (.int (nI o)), some (.int (nI (sumN (ofW P o) i))), some (.int (nI i))] [] (plB 0 P) 0 0 := by
    intro n
    induction n with
    | zero => intro i h1 h2; exact absurd h2 (by omega)
    | succ n ih =>
      intro i h1 h2
      refine PW.iload_n hX dX1_sheetsOf_4 rfl rfl ?_
      refine PW.aload_n hX dX1_sheetsOf_5 rfl rfl ?_
      refine PW.getfield hX fl_X1_33 dX1_sheetsOf_6 rfl rfl ?_
      refine PW.icmp_ge (tgt := 41) hX dX1_sheetsOf_9 (by decide) (fun c9 => ?_) (fun c9 => ?_)
      · rw [nI_leI (by omega) (by omega)] at c9
        have e : i = plnj P := by omega
        subst e
        refine PW.iload_n hX dX1_sheetsOf_41 rfl rfl ?_
        refine PW.iret hX hR dX1_sheetsOf_42 rfl rfl ?_
        exact ⟨rfl, rfl⟩
      · rw [nI_leI (by omega) (by omega)] at c9
        have h5 := o5 i (by omega)
        refine PW.iload_n hX dX1_sheetsOf_12 rfl rfl ?_
        refine PW.aload_n hX dX1_sheetsOf_13 rfl rfl ?_
        refine PW.getfield hX fl_X1_9 dX1_sheetsOf_14 rfl rfl ?_
        refine PW.iload_n hX dX1_sheetsOf_17 rfl rfl ?_
        refine PW.iaload hX dX1_sheetsOf_18 rfl rfl rfl (by omega) ?_
        refine PW.iload_n hX dX1_sheetsOf_19 rfl rfl ?_
        refine PW.icmp_ne (tgt := 32) hX dX1_sheetsOf_20 (by decide) (fun c20 => ?_) (fun c20 => ?_)
        · rw [nI_eq (by omega) (by omega)] at c20
          have e : ofW P o i = 0 := by simp [ofW, c20]
          refine PW.iconst (v := nI 0) hX dX1_sheetsOf_32 (by decide) ?_
          refine PW.top (congrArg nI e.symm) ?_
          refine PW.iadd hX dX1_sheetsOf_33 ?_
          refine PW.top (nI_add _ _) ?_
          refine PW.istore_n hX dX1_sheetsOf_34 rfl rfl ?_
          first | refine PW.iinc hX dX1_sheetsOf_35 rfl (iincN _) ?_ | refine PW.iinc hX dX1_sheetsOf_35 rfl rfl ?_
          refine PW.goto (tgt := 4) hX dX1_sheetsOf_38 (by decide) ?_
          exact ih (i + 1) (by omega) (by omega)
        · rw [nI_eq (by omega) (by omega)] at c20
          have e : ofW P o i = plsh P i := by simp [ofW, c20]
          refine PW.aload_n hX dX1_sheetsOf_23 rfl rfl ?_
          refine PW.getfield hX fl_X1_15 dX1_sheetsOf_24 rfl rfl ?_
          refine PW.iload_n hX dX1_sheetsOf_27 rfl rfl ?_
          refine PW.iaload hX dX1_sheetsOf_28 rfl rfl rfl (by omega) ?_
          refine PW.goto (tgt := 33) hX dX1_sheetsOf_29 (by decide) ?_
          refine PW.top (congrArg nI e.symm) ?_
          refine PW.iadd hX dX1_sheetsOf_33 ?_
          refine PW.top (nI_add _ _) ?_
          refine PW.istore_n hX dX1_sheetsOf_34 rfl rfl ?_
          first | refine PW.iinc hX dX1_sheetsOf_35 rfl (iincN _) ?_ | refine PW.iinc hX dX1_sheetsOf_35 rfl rfl ?_
          refine PW.goto (tgt := 4) hX dX1_sheetsOf_38 (by decide) ?_
          exact ih (i + 1) (by omega) (by omega)
  refine PW.iconst (v := nI 0) hX dX1_sheetsOf_0 (by decide) ?_
  refine PW.istore_n hX dX1_sheetsOf_1 rfl rfl ?_
  refine PW.iconst (v := nI 0) hX dX1_sheetsOf_2 (by decide) ?_
  refine PW.istore_n hX dX1_sheetsOf_3 rfl rfl ?_
  exact loop (plnj P + 1) 0 (by omega) (by omega)
def ofB (P : Pl) (o : Nat) : Nat → Nat := fun j => if plow P j = o then 2 ^ j else 0
theorem pm_jobsOf (P : Pl) (ok : PlOk P) (o : Nat) (ho : o < 4) : PM mu_X1_jobsOf 0 0 0 [.ref 0, .int (nI o)] (plB 0 P) (eqP (some (.int (nI (orN (ofB P o) (plnj P))))) (plB 0 P)) := by
  obtain ⟨o1, o2, o3, o4, o5, o6⟩ := ok
  refine PM.start (Or.inl (by decide +kernel)) rfl rfl rfl ?_
  intro X hX hR hx hin
  have loop : ∀ n i : Nat, i ≤ plnj P → plnj P < i + n → PW X 4 [some (.ref 0), some (.int (nI o)), some (.int (nI (orN (ofB P o) i))), some (.int (nI i))] [] (plB 0 P) 0 0 := by
    intro n
    induction n with
    | zero => intro i h1 h2; exact absurd h2 (by omega)
    | succ n ih =>
      intro i h1 h2
      refine PW.iload_n hX dX1_jobsOf_4 rfl rfl ?_
      refine PW.aload_n hX dX1_jobsOf_5 rfl rfl ?_
      refine PW.getfield hX fl_X1_33 dX1_jobsOf_6 rfl rfl ?_
      refine PW.icmp_ge (tgt := 38) hX dX1_jobsOf_9 (by decide) (fun c9 => ?_) (fun c9 => ?_)
      · rw [nI_leI (by omega) (by omega)] at c9
        have e : i = plnj P := by omega
        subst e
        refine PW.iload_n hX dX1_jobsOf_38 rfl rfl ?_
        refine PW.iret hX hR dX1_jobsOf_39 rfl rfl ?_
        exact ⟨rfl, rfl⟩
      · rw [nI_leI (by omega) (by omega)] at c9
        have h5 := o5 i (by omega)
        refine PW.iload_n hX dX1_jobsOf_12 rfl rfl ?_
        refine PW.aload_n hX dX1_jobsOf_13 rfl rfl ?_
        refine PW.getfield hX fl_X1_9 dX1_jobsOf_14 rfl rfl ?_
        refine PW.iload_n hX dX1_jobsOf_17 rfl rfl ?_
        refine PW.iaload hX dX1_jobsOf_18 rfl rfl rfl (by omega) ?_
        refine PW.iload_n hX dX1_jobsOf_19 rfl rfl ?_
        refine PW.icmp_ne (tgt := 29) hX dX1_jobsOf_20 (by decide) (fun c20 => ?_) (fun c20 => ?_)
        · rw [nI_eq (by omega) (by omega)] at c20
          have e : ofB P o i = 0 := by simp [ofB, c20]
          refine PW.iconst (v := nI 0) hX dX1_jobsOf_29 (by decide) ?_
          refine PW.top (congrArg nI e.symm) ?_
          refine PW.ior hX dX1_jobsOf_30 ?_
          refine PW.top (nI_or _ _) ?_
          refine PW.istore_n hX dX1_jobsOf_31 rfl rfl ?_
          first | refine PW.iinc hX dX1_jobsOf_32 rfl (iincN _) ?_ | refine PW.iinc hX dX1_jobsOf_32 rfl rfl ?_
          refine PW.goto (tgt := 4) hX dX1_jobsOf_35 (by decide) ?_
          exact ih (i + 1) (by omega) (by omega)
        · rw [nI_eq (by omega) (by omega)] at c20
          have e : ofB P o i = 2 ^ i := by simp [ofB, c20]
          refine PW.iconst (v := nI 1) hX dX1_jobsOf_23 (by decide) ?_
          refine PW.iload_n hX dX1_jobsOf_24 rfl rfl ?_
          refine PW.ishl hX dX1_jobsOf_25 ?_
          refine PW.top (nI_shl1 (by omega)) ?_
          refine PW.goto (tgt := 30) hX dX1_jobsOf_26 (by decide) ?_
          refine PW.top (congrArg nI e.symm) ?_
          refine PW.ior hX dX1_jobsOf_30 ?_
          refine PW.top (nI_or _ _) ?_
          refine PW.istore_n hX dX1_jobsOf_31 rfl rfl ?_
          first | refine PW.iinc hX dX1_jobsOf_32 rfl (iincN _) ?_ | refine PW.iinc hX dX1_jobsOf_32 rfl rfl ?_
          refine PW.goto (tgt := 4) hX dX1_jobsOf_35 (by decide) ?_
          exact ih (i + 1) (by omega) (by omega)
  refine PW.iconst (v := nI 0) hX dX1_jobsOf_0 (by decide) ?_
  refine PW.istore_n hX dX1_jobsOf_1 rfl rfl ?_
  refine PW.iconst (v := nI 0) hX dX1_jobsOf_2 (by decide) ?_
  refine PW.istore_n hX dX1_jobsOf_3 rfl rfl ?_
  exact loop (plnj P + 1) 0 (by omega) (by omega)
/-- a plan that another is copied into -/
def plCp (P Q : Pl) : Pl := (va_cpy (plow Q) (plow P) 0 0 6, va_cpy (plsh Q) (plsh P) 0 0 6, va_cpy (plse Q) (plse P) 0 0 6, va_cpy (pltk Q) (pltk P) 0 0 6, va_cpy (pltw Q) (pltw P) 0 0 6, va_cpy (pltf Q) (pltf P) 0 0 6, va_cpy (pltm Q) (pltm P) 0 0 6, plnj Q, plnt Q, plkd Q, plsp Q)
theorem pm_copyFrom (P Q : Pl) : PM mu_X1_copyFrom 1 0 0 [.ref 0, .ref 8] (plB 0 P ++ plB 8 Q) (eqP none (plB 0 (plCp P Q) ++ plB 8 Q)) := by
  refine PM.start (Or.inl (by decide +kernel)) rfl rfl rfl ?_
  intro X hX hR hx hin
  refine PW.aload_n hX dX1_copyFrom_0 rfl rfl ?_
  refine PW.getfield hX fl_X1_9 dX1_copyFrom_1 rfl rfl ?_
  refine PW.iconst (v := nI 0) hX dX1_copyFrom_4 (by decide) ?_
  refine PW.aload_n hX dX1_copyFrom_5 rfl rfl ?_
  refine PW.getfield hX fl_X1_9 dX1_copyFrom_6 rfl rfl ?_
  refine PW.iconst (v := nI 0) hX dX1_copyFrom_9 (by decide) ?_
  refine PW.bipush (v := nI 6) hX dX1_copyFrom_10 (by decide) ?_
  refine PW.acopy (sp := 0) (dp := 0) (n := 6) hX ac_X1_56 ac_nat ac_sta ac_ini dX1_copyFrom_12 rfl rfl rfl rfl rfl rfl rfl (by omega) (by omega) rfl rfl ?_
  refine PW.aload_n hX dX1_copyFrom_15 rfl rfl ?_
  refine PW.getfield hX fl_X1_15 dX1_copyFrom_16 rfl rfl ?_
  refine PW.iconst (v := nI 0) hX dX1_copyFrom_19 (by decide) ?_
  refine PW.aload_n hX dX1_copyFrom_20 rfl rfl ?_
  refine PW.getfield hX fl_X1_15 dX1_copyFrom_21 rfl rfl ?_
  refine PW.iconst (v := nI 0) hX dX1_copyFrom_24 (by decide) ?_
  refine PW.bipush (v := nI 6) hX dX1_copyFrom_25 (by decide) ?_
  refine PW.acopy (sp := 0) (dp := 0) (n := 6) hX ac_X1_56 ac_nat ac_sta ac_ini dX1_copyFrom_27 rfl rfl rfl rfl rfl rfl rfl (by omega) (by omega) rfl rfl ?_
  refine PW.aload_n hX dX1_copyFrom_30 rfl rfl ?_
  refine PW.getfield hX fl_X1_18 dX1_copyFrom_31 rfl rfl ?_
  refine PW.iconst (v := nI 0) hX dX1_copyFrom_34 (by decide) ?_
  refine PW.aload_n hX dX1_copyFrom_35 rfl rfl ?_
  refine PW.getfield hX fl_X1_18 dX1_copyFrom_36 rfl rfl ?_
  refine PW.iconst (v := nI 0) hX dX1_copyFrom_39 (by decide) ?_
  refine PW.bipush (v := nI 6) hX dX1_copyFrom_40 (by decide) ?_
  refine PW.acopy (sp := 0) (dp := 0) (n := 6) hX ac_X1_56 ac_nat ac_sta ac_ini dX1_copyFrom_42 rfl rfl rfl rfl rfl rfl rfl (by omega) (by omega) rfl rfl ?_
  refine PW.aload_n hX dX1_copyFrom_45 rfl rfl ?_
  refine PW.getfield hX fl_X1_21 dX1_copyFrom_46 rfl rfl ?_
  refine PW.iconst (v := nI 0) hX dX1_copyFrom_49 (by decide) ?_
  refine PW.aload_n hX dX1_copyFrom_50 rfl rfl ?_
  refine PW.getfield hX fl_X1_21 dX1_copyFrom_51 rfl rfl ?_
  refine PW.iconst (v := nI 0) hX dX1_copyFrom_54 (by decide) ?_
  refine PW.bipush (v := nI 6) hX dX1_copyFrom_55 (by decide) ?_
  refine PW.acopy (sp := 0) (dp := 0) (n := 6) hX ac_X1_56 ac_nat ac_sta ac_ini dX1_copyFrom_57 rfl rfl rfl rfl rfl rfl rfl (by omega) (by omega) rfl rfl ?_
  refine PW.aload_n hX dX1_copyFrom_60 rfl rfl ?_
  refine PW.getfield hX fl_X1_24 dX1_copyFrom_61 rfl rfl ?_
  refine PW.iconst (v := nI 0) hX dX1_copyFrom_64 (by decide) ?_
  refine PW.aload_n hX dX1_copyFrom_65 rfl rfl ?_
  refine PW.getfield hX fl_X1_24 dX1_copyFrom_66 rfl rfl ?_
  refine PW.iconst (v := nI 0) hX dX1_copyFrom_69 (by decide) ?_
  refine PW.bipush (v := nI 6) hX dX1_copyFrom_70 (by decide) ?_
  refine PW.acopy (sp := 0) (dp := 0) (n := 6) hX ac_X1_56 ac_nat ac_sta ac_ini dX1_copyFrom_72 rfl rfl rfl rfl rfl rfl rfl (by omega) (by omega) rfl rfl ?_
  refine PW.aload_n hX dX1_copyFrom_75 rfl rfl ?_
  refine PW.getfield hX fl_X1_27 dX1_copyFrom_76 rfl rfl ?_
  refine PW.iconst (v := nI 0) hX dX1_copyFrom_79 (by decide) ?_
  refine PW.aload_n hX dX1_copyFrom_80 rfl rfl ?_
  refine PW.getfield hX fl_X1_27 dX1_copyFrom_81 rfl rfl ?_
  refine PW.iconst (v := nI 0) hX dX1_copyFrom_84 (by decide) ?_
  refine PW.bipush (v := nI 6) hX dX1_copyFrom_85 (by decide) ?_
  refine PW.acopy (sp := 0) (dp := 0) (n := 6) hX ac_X1_56 ac_nat ac_sta ac_ini dX1_copyFrom_87 rfl rfl rfl rfl rfl rfl rfl (by omega) (by omega) rfl rfl ?_
  refine PW.aload_n hX dX1_copyFrom_90 rfl rfl ?_
  refine PW.getfield hX fl_X1_30 dX1_copyFrom_91 rfl rfl ?_
  refine PW.iconst (v := nI 0) hX dX1_copyFrom_94 (by decide) ?_
  refine PW.aload_n hX dX1_copyFrom_95 rfl rfl ?_
  refine PW.getfield hX fl_X1_30 dX1_copyFrom_96 rfl rfl ?_
  refine PW.iconst (v := nI 0) hX dX1_copyFrom_99 (by decide) ?_
  refine PW.bipush (v := nI 6) hX dX1_copyFrom_100 (by decide) ?_
  refine PW.acopy (sp := 0) (dp := 0) (n := 6) hX ac_X1_56 ac_nat ac_sta ac_ini dX1_copyFrom_102 rfl rfl rfl rfl rfl rfl rfl (by omega) (by omega) rfl rfl ?_
  refine PW.aload_n hX dX1_copyFrom_105 rfl rfl ?_
  refine PW.aload_n hX dX1_copyFrom_106 rfl rfl ?_
  refine PW.getfield hX fl_X1_33 dX1_copyFrom_107 rfl rfl ?_
  refine PW.putI hX fp_X1_33 dX1_copyFrom_110 rfl rfl ?_
  refine PW.aload_n hX dX1_copyFrom_113 rfl rfl ?_
  refine PW.aload_n hX dX1_copyFrom_114 rfl rfl ?_
  refine PW.getfield hX fl_X1_37 dX1_copyFrom_115 rfl rfl ?_
  refine PW.putI hX fp_X1_37 dX1_copyFrom_118 rfl rfl ?_
  refine PW.aload_n hX dX1_copyFrom_121 rfl rfl ?_
  refine PW.aload_n hX dX1_copyFrom_122 rfl rfl ?_
  refine PW.getfield hX fl_X1_40 dX1_copyFrom_123 rfl rfl ?_
  refine PW.putI hX fp_X1_40 dX1_copyFrom_126 rfl rfl ?_
  refine PW.aload_n hX dX1_copyFrom_129 rfl rfl ?_
  refine PW.aload_n hX dX1_copyFrom_130 rfl rfl ?_
  refine PW.getfield hX fl_X1_43 dX1_copyFrom_131 rfl rfl ?_
  refine PW.putI hX fp_X1_43 dX1_copyFrom_134 rfl rfl ?_
  refine PW.vret hX hR dX1_copyFrom_137 rfl rfl ?_
  exact ⟨rfl, by simp only [cpy_nI]; rfl⟩
