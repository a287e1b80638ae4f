theorem cpy6 {f g : Nat → Nat} {j : Nat} (h : j < 6) : va_cpy f g 0 0 6 j = f j := by
  rw [pk_cpy_in (by omega) (by omega)]
  congr 1
  omega
theorem plCp_ok {P Q : Pl} (h : PlOk Q) : PlOk (plCp P Q) := by
  obtain ⟨h1, h2, h3, h4, h5, h6⟩ := h
  refine ⟨h1, h2, h3, h4, fun j hj => ?_, fun t ht => ?_⟩
  · have hj : j < plnj Q := hj
    show va_cpy (plow Q) (plow P) 0 0 6 j < 4 ∧ 1 ≤ va_cpy (plsh Q) (plsh P) 0 0 6 j ∧ va_cpy (plsh Q) (plsh P) 0 0 6 j ≤ 9 ∧ va_cpy (plse Q) (plse P) 0 0 6 j < 60
    rw [cpy6 (by omega), cpy6 (by omega), cpy6 (by omega)]
    exact h5 j hj
  · have ht : t < plnt Q := ht
    show va_cpy (pltk Q) (pltk P) 0 0 6 t < 6 ∧ va_cpy (pltw Q) (pltw P) 0 0 6 t < 4 ∧ va_cpy (pltf Q) (pltf P) 0 0 6 t ≤ 9 ∧ va_cpy (pltm Q) (pltm P) 0 0 6 t < 100
    rw [cpy6 (by omega), cpy6 (by omega), cpy6 (by omega), cpy6 (by omega)]
    exact h6 t ht
theorem plMac_ok {P : Pl} (h : PlOk P) {k s : Nat} (hk : k < 6) (hs : s ≤ 9) : PlOk (plMac P k s) := ⟨h.1, h.2.1, hk, hs, h.2.2.2.2.1, h.2.2.2.2.2⟩
/-- a press run through a day of a plan -/
def pDay (P : Pl) (S : Pr) : Pr := pRun P 100 0 (pBeg P S)
theorem pRun_mx {P : Pl} (ok : PlOk P) : ∀ n m S, m + n = 100 → PrOk P S m → prmx (pRun P n m S) ≤ 100
  | 0, m, S, h, so => by have := so.2.2.2.2; show prmx S ≤ 100; omega
  | n + 1, m, S, h, so => by
    rw [pRun]
    cases hb : decide (0 < prli S) with
    | true => exact pRun_mx ok n (m + 1) _ (by omega) (pOut_ok ok so).1
    | false => have := so.2.2.2.2; show prmx S ≤ 100; omega
theorem pDay_mx {P : Pl} (ok : PlOk P) (S : Pr) : prmx (pDay P S) ≤ 100 := pRun_mx ok 100 0 _ rfl (pBeg_ok P S)
def leI : Option Nat → Int32
  | none => nI 0
  | some m => nI m
def ltO (m : Nat) : Option Nat → Bool
  | none => true
  | some l => decide (m < l)
theorem ltO_I {m : Nat} (hm : m ≤ 100) {l : Option Nat} (hl : ∀ x, l = some x → x ≤ 100) (h0 : l ≠ none) : (leI l ≤ nI m ↔ ltO m l = false) := by
  cases l with
  | none => exact absurd rfl h0
  | some x =>
    have := hl x rfl
    show nI x ≤ nI m ↔ decide (m < x) = false
    rw [nI_leI (by omega) (by omega), decide_eq_false_iff_not]
    omega
/-- nothing is the least ahead of the first alone -/
theorem bif_none {c : Bool} {k a : Nat} {z : Nat × Option Nat} (h : z.2 = none → c = true) : ¬ (bif c then (k, some a) else z).2 = none := by
  cases c with
  | true => exact fun q => by cases q
  | false => exact fun q => absurd (h q) (by decide)
/-- by kinds: the draft, the press, the best kind and the least, behind k kinds -/
def bkS (W : Wp) : Nat → Pl × Pr × Nat × Option Nat
  | 0 => (plCp (wpD W) (wpP W), wpS W, 0, none)
  | k + 1 => (plMac (bkS W k).1 k (plsp (wpP W)), pDay (plMac (bkS W k).1 k (plsp (wpP W))) (bkS W k).2.1, bif ltO (prmx (pDay (plMac (bkS W k).1 k (plsp (wpP W))) (bkS W k).2.1)) (bkS W k).2.2.2 then (k, some (prmx (pDay (plMac (bkS W k).1 k (plsp (wpP W))) (bkS W k).2.1))) else ((bkS W k).2.2.1, (bkS W k).2.2.2))
theorem bkS_ok (W : Wp) (wk : WpOk W) : ∀ k, k ≤ 6 → PlOk (bkS W k).1 ∧ (∀ x, (bkS W k).2.2.2 = some x → x ≤ 100)
  | 0, _ => ⟨plCp_ok wk.1, fun x h => by cases h⟩
  | k + 1, h => by
    obtain ⟨h1, h2⟩ := bkS_ok W wk k (by omega)
    have h3 : PlOk (plMac (bkS W k).1 k (plsp (wpP W))) := plMac_ok h1 (by omega) wk.1.2.2.2.1
    refine ⟨h3, fun x hx => ?_⟩
    rw [bkS] at hx
    cases hb : ltO (prmx (pDay (plMac (bkS W k).1 k (plsp (wpP W))) (bkS W k).2.1)) (bkS W k).2.2.2 with
    | true =>
      rw [hb] at hx
      have hx : some (prmx (pDay (plMac (bkS W k).1 k (plsp (wpP W))) (bkS W k).2.1)) = some x := hx
      cases hx
      exact pDay_mx h3 _
    | false => rw [hb] at hx; exact h2 x hx
theorem bkS_none (W : Wp) (k : Nat) : (bkS W k).2.2.2 = none ↔ k = 0 := by
  cases k with
  | zero => exact ⟨fun _ => rfl, fun _ => rfl⟩
  | succ k =>
    refine ⟨fun q => ?_, fun q => absurd q (Nat.succ_ne_zero k)⟩
    rw [bkS] at q
    exact absurd q (bif_none (z := (bkS W k).2.2) (fun h => by rw [show (bkS W k).2.2.2 = none from h]; rfl))
def wByKind (W : Wp) : Int32 × Wp := (nI (bkS W 6).2.2.1, swS (swD W (bkS W 6).1) (bkS W 6).2.1)
theorem pm_byKind (W : Wp) (wk : WpOk W) : PM mu_X6_byKind 6 0 0 [.ref 0] (wpB W) (eqP (some (.int (wByKind W).1)) (wpB (wByKind W).2)) := by
  unfold wByKind
  refine PM.start (Or.inl (by decide +kernel)) rfl rfl rfl ?_
  intro X hX hR hx hin
  have loop : ∀ n k : Nat, k + n = 6 → ∀ Z, Z = bkS W k → PW X 17 [some (.ref 0), some (.int (nI Z.2.2.1)), some (.int (leI Z.2.2.2)), some (.int (nI k)), none] [] (wpB (swS (swD W Z.1) Z.2.1)) 0 0 := by
    intro n
    induction n with
    | zero =>
      intro k h1 Z hZ
      have e : k = 6 := by omega
      subst e
      rw [← hZ] at hR
      refine PW.iload_n hX dX6_byKind_17 rfl rfl ?_
      refine PW.ldcP hX dX6_byKind_18 ?_
      refine PW.tR (i := 0) (As := []) hX ml_X6_109 rfl (by decide) (pm_length 0 (by decide)) dX6_byKind_20 rfl rfl rfl rfl rfl rfl rfl ?_
      refine PW.icmp_ge (tgt := 75) hX dX6_byKind_23 (by decide) (fun c23 => ?_) (fun c23 => ?_)
      · try rw [nI_leI (by omega) (by omega)] at c23
        refine PW.iload_n hX dX6_byKind_75 rfl rfl ?_
        refine PW.iret hX hR dX6_byKind_76 rfl rfl ?_
        exact ⟨rfl, rfl⟩
      · try rw [nI_leI (by omega) (by omega)] at c23
        exfalso; omega -- CLOSED
    | succ n ih =>
      intro k h1 Z hZ
      have nx := ih (k + 1) (by omega) _ rfl
      obtain ⟨b1, b2⟩ := bkS_ok W wk k (by omega)
      have b3 : PlOk (plMac (bkS W k).1 k (plsp (wpP W))) := plMac_ok b1 (by omega) wk.1.2.2.2.1
      have hn := bkS_none W k
      rw [bkS] at nx
      rw [← hZ] at nx b1 b2 b3 hn
      obtain ⟨Q, S, b, l⟩ := Z
      have cM : PM mu_X2_mixedIn 5 0 0 [.ref 0, .ref 2] (prB 0 S ++ plB 2 (plMac Q k (plsp (wpP W)))) (eqP (some (.int (nI (prmx (pDay (plMac Q k (plsp (wpP W))) S))))) (prB 0 (pDay (plMac Q k (plsp (wpP W))) S) ++ plB 2 (plMac Q k (plsp (wpP W))))) := pm_mixedIn (plMac Q k (plsp (wpP W))) b3 S
      have hmx := pDay_mx b3 S
      dsimp only at nx
      generalize pDay (plMac Q k (plsp (wpP W))) S = S2 at nx cM hmx
      have hl := ltO_I hmx b2
      dsimp only at hn
      refine PW.iload_n hX dX6_byKind_17 rfl rfl ?_
      refine PW.ldcP hX dX6_byKind_18 ?_
      refine PW.tR (i := 0) (As := []) hX ml_X6_109 rfl (by decide) (pm_length 0 (by decide)) dX6_byKind_20 rfl rfl rfl rfl rfl rfl rfl ?_
      refine PW.icmp_ge (tgt := 75) hX dX6_byKind_23 (by decide) (fun c23 => ?_) (fun c23 => ?_)
      · rw [nI_leI (by omega) (by omega)] at c23
        exfalso; omega -- CLOSED
      · refine PW.aload_n hX dX6_byKind_26 rfl rfl ?_
        refine PW.getfield hX fl_X6_19 dX6_byKind_27 rfl rfl ?_
        refine PW.iload_n hX dX6_byKind_30 rfl rfl ?_
        refine PW.aload_n hX dX6_byKind_31 rfl rfl ?_
        refine PW.getfield hX fl_X6_12 dX6_byKind_32 rfl rfl ?_
        refine PW.getfield hX fl_X6_117 dX6_byKind_35 rfl rfl ?_
        refine PW.vV hX ml_X6_120 (pm_setMachine Q k (plsp (wpP W))) dX6_byKind_38 [17, 18, 19, 20, 21, 22, 23, 24] (e1_D (swS (swD W Q) S)) rfl rfl rfl rfl rfl rfl rfl rfl rfl rfl rfl rfl rfl (eh_D (swS (swD W Q) S) _) ?_
        refine PW.aload_n hX dX6_byKind_41 rfl rfl ?_
        refine PW.getfield hX fl_X6_32 dX6_byKind_42 rfl rfl ?_
        refine PW.aload_n hX dX6_byKind_45 rfl rfl ?_
        refine PW.getfield hX fl_X6_19 dX6_byKind_46 rfl rfl ?_
        refine PW.vI hX ml_X6_173 (id cM) dX6_byKind_49 [27, 28, 17, 18, 19, 20, 21, 22, 23, 24] (e1_SD (swD (swS (swD W Q) S) (plMac Q k (plsp (wpP W))))) rfl rfl rfl rfl rfl rfl rfl rfl rfl rfl rfl rfl rfl (eh_SD (swD (swS (swD W Q) S) (plMac Q k (plsp (wpP W)))) _) ?_
        refine PW.istore hX dX6_byKind_52 rfl ?_
        refine PW.iload_n hX dX6_byKind_54 rfl rfl ?_
        refine PW.if_eq (tgt := 64) hX dX6_byKind_55 (by decide) (fun c55 => ?_) (fun c55 => ?_)
        · rw [hn.mpr ((nI_eq0 (by omega)).mp c55)] at nx
          refine PW.iload_n hX dX6_byKind_64 rfl rfl ?_
          refine PW.istore_n hX dX6_byKind_65 rfl rfl ?_
          refine PW.iload hX dX6_byKind_66 rfl ?_
          refine PW.istore_n hX dX6_byKind_68 rfl rfl ?_
          first | refine PW.iinc hX dX6_byKind_69 rfl (iincN _) ?_ | refine PW.iinc hX dX6_byKind_69 rfl rfl ?_
          refine PW.goto (tgt := 17) hX dX6_byKind_72 (by decide) ?_
          refine PW.clr 4 ?_
          exact nx
        · have hl := hl (fun q => c55 ((nI_eq0 (by omega)).mpr (hn.mp q)))
          refine PW.iload hX dX6_byKind_58 rfl ?_
          refine PW.iload_n hX dX6_byKind_60 rfl rfl ?_
          refine PW.icmp_ge (tgt := 69) hX dX6_byKind_61 (by decide) (fun c61 => ?_) (fun c61 => ?_)
          · rw [hl.mp c61] at nx
            first | refine PW.iinc hX dX6_byKind_69 rfl (iincN _) ?_ | refine PW.iinc hX dX6_byKind_69 rfl rfl ?_
            refine PW.goto (tgt := 17) hX dX6_byKind_72 (by decide) ?_
            refine PW.clr 4 ?_
            exact nx
          · rw [(Bool.not_eq_false _).mp (fun q => c61 (hl.mpr q))] at nx
            refine PW.iload_n hX dX6_byKind_64 rfl rfl ?_
            refine PW.istore_n hX dX6_byKind_65 rfl rfl ?_
            refine PW.iload hX dX6_byKind_66 rfl ?_
            refine PW.istore_n hX dX6_byKind_68 rfl rfl ?_
            first | refine PW.iinc hX dX6_byKind_69 rfl (iincN _) ?_ | refine PW.iinc hX dX6_byKind_69 rfl rfl ?_
            refine PW.goto (tgt := 17) hX dX6_byKind_72 (by decide) ?_
            refine PW.clr 4 ?_
            exact nx
  have h17 := loop 6 0 rfl _ rfl
  rw [bkS] at h17
  refine PW.aload_n hX dX6_byKind_0 rfl rfl ?_
  refine PW.getfield hX fl_X6_19 dX6_byKind_1 rfl rfl ?_
  refine PW.aload_n hX dX6_byKind_4 rfl rfl ?_
  refine PW.getfield hX fl_X6_12 dX6_byKind_5 rfl rfl ?_
  refine PW.vV hX ml_X6_177 (pm_copyFrom (wpD W) (wpP W)) dX6_byKind_8 [17, 18, 19, 20, 21, 22, 23, 24, 1, 2, 3, 4, 5, 6, 7, 8] (e1_DP W) rfl rfl rfl rfl rfl rfl rfl rfl rfl rfl rfl rfl rfl (eh_DP W _) ?_
  refine PW.iconst (v := nI 0) hX dX6_byKind_11 (by decide) ?_
  refine PW.istore_n hX dX6_byKind_12 rfl rfl ?_
  refine PW.iconst (v := nI 0) hX dX6_byKind_13 (by decide) ?_
  refine PW.istore_n hX dX6_byKind_14 rfl rfl ?_
  refine PW.iconst (v := nI 0) hX dX6_byKind_15 (by decide) ?_
  refine PW.istore_n hX dX6_byKind_16 rfl rfl ?_
  exact h17
def plSe (P : Pl) (j m : Nat) : Pl := (plow P, plsh P, va_up (plse P) j m, P.2.2.2)
theorem plSe_ok {P : Pl} (h : PlOk P) {j m : Nat} (hm : m < 60) : PlOk (plSe P j m) := by
  refine ⟨h.1, h.2.1, h.2.2.1, h.2.2.2.1, fun i hi => ?_, h.2.2.2.2.2⟩
  have h5 := h.2.2.2.2.1 i hi
  refine ⟨h5.1, h5.2.1, h5.2.2.1, ?_⟩
  show va_up (plse P) j m i < 60
  by_cases e : i = j
  · rw [e, va_up_self]; exact hm
  · rw [va_up_ne _ _ e]; exact h5.2.2.2
def sdS (W : Wp) (j : Nat) : Nat → Pl × Pr × Nat × Option Nat
  | 0 => (plCp (wpD W) (wpP W), wpS W, 0, none)
  | k + 1 => (plSe (sdS W j k).1 j k, pDay (plSe (sdS W j k).1 j k) (sdS W j k).2.1, bif ltO (prmx (pDay (plSe (sdS W j k).1 j k) (sdS W j k).2.1)) (sdS W j k).2.2.2 then (k, some (prmx (pDay (plSe (sdS W j k).1 j k) (sdS W j k).2.1))) else ((sdS W j k).2.2.1, (sdS W j k).2.2.2))
theorem sdS_ok (W : Wp) (wk : WpOk W) (j : Nat) : ∀ k, k ≤ 60 → PlOk (sdS W j k).1 ∧ (∀ x, (sdS W j k).2.2.2 = some x → x ≤ 100)
  | 0, _ => ⟨plCp_ok wk.1, fun x h => by cases h⟩
  | k + 1, h => by
    obtain ⟨h1, h2⟩ := sdS_ok W wk j k (by omega)
    have h3 : PlOk (plSe (sdS W j k).1 j k) := plSe_ok h1 (by omega)
    refine ⟨h3, fun x hx => ?_⟩
    rw [sdS] at hx
    cases hb : ltO (prmx (pDay (plSe (sdS W j k).1 j k) (sdS W j k).2.1)) (sdS W j k).2.2.2 with
    | true =>
      rw [hb] at hx
      have hx : some (prmx (pDay (plSe (sdS W j k).1 j k) (sdS W j k).2.1)) = some x := hx
      cases hx
      exact pDay_mx h3 _
    | false => rw [hb] at hx; exact h2 x hx
theorem sdS_none (W : Wp) (j k : Nat) : (sdS W j k).2.2.2 = none ↔ k = 0 := by
  cases k with
  | zero => exact ⟨fun _ => rfl, fun _ => rfl⟩
  | succ k =>
    refine ⟨fun q => ?_, fun q => absurd q (Nat.succ_ne_zero k)⟩
    rw [sdS] at q
    exact absurd q (bif_none (z := (sdS W j k).2.2) (fun h => by rw [show (sdS W j k).2.2.2 = none from h]; rfl))
def wSend (W : Wp) (x y : Int32) : Int32 × Wp := bif inB (plnj (wpP W)) x then (if y = nI 0 then (nI (sdS W x.toNatClampNeg 60).2.2.1, swS (swD W (sdS W x.toNatClampNeg 60).1) (sdS W x.toNatClampNeg 60).2.1) else if y = nI 1 then (leI (sdS W x.toNatClampNeg 60).2.2.2, swS (swD W (sdS W x.toNatClampNeg 60).1) (sdS W x.toNatClampNeg 60).2.1) else (-2, rfu W 2)) else (-1, rfu W 1)
theorem pm_send (W : Wp) (wk : WpOk W) (x y : Int32) : PM mu_X6_send 6 0 0 [.ref 0, .int x, .int y] (wpB W) (eqP (some (.int (wSend W x y).1)) (wpB (wSend W x y).2)) := by
  have o1 : plnj (wpP W) ≤ 6 := wk.1.1
  cases hb : inB (plnj (wpP W)) x with
  | false =>
    have e : wSend W x y = (-1, rfu W 1) := by unfold wSend; rw [hb]; rfl
    rw [e]
    refine PM.start (Or.inl (by decide +kernel)) rfl rfl rfl ?_
    intro X hX hR hx hin
    refine PW.aload_n hX dX6_send_0 rfl rfl ?_
    refine PW.getfield hX fl_X6_12 dX6_send_1 rfl rfl ?_
    refine PW.iload_n hX dX6_send_4 rfl rfl ?_
    refine PW.vR hX ml_X6_79 (pm_hasJob (wpP W) x) dX6_send_5 [1, 2, 3, 4, 5, 6, 7, 8] (e1_P W) rfl rfl rfl rfl rfl rfl rfl rfl rfl rfl rfl rfl ?_
    refine PW.if_ne (tgt := 17) hX dX6_send_8 (by decide) (fun c8 => ?_) (fun c8 => ?_)
    · first | rw [bI_d0] at c8 | rw [bI_eq0] at c8 | rw [nI_eq0 (by omega)] at c8 | skip
      exact absurd hb c8 -- CLOSED
    · first | rw [bI_d0] at c8 | rw [bI_eq0] at c8 | rw [nI_eq0 (by omega)] at c8 | skip
      refine PW.aload_n hX dX6_send_11 rfl rfl ?_
      refine PW.iconst (v := (-1)) hX dX6_send_12 (by decide) ?_
      refine PW.vIi hX ml_X6_58 (pm_refuse W (-1) 1 (by decide) (by decide) (by decide)) dX6_send_13 45 rfl rfl rfl rfl rfl rfl rfl rfl rfl rfl rfl rfl rfl rfl rfl ?_
      refine PW.iret hX hR dX6_send_16 rfl rfl ?_
      exact ⟨rfl, rfl⟩
  | true =>
    obtain ⟨j, hj, rfl⟩ := inB_of (by omega) hb
    have e : wSend W (nI j) y = (if y = nI 0 then (nI (sdS W j 60).2.2.1, swS (swD W (sdS W j 60).1) (sdS W j 60).2.1) else if y = nI 1 then (leI (sdS W j 60).2.2.2, swS (swD W (sdS W j 60).1) (sdS W j 60).2.1) else (-2, rfu W 2)) := by unfold wSend; rw [hb, nI_clamp (by omega)]; rfl
    rw [e]
    refine PM.start (Or.inl (by decide +kernel)) rfl rfl rfl ?_
    intro X hX hR hx hin
    have loop : (y = nI 0 ∨ y = nI 1) → ∀ n k : Nat, k + n = 60 → ∀ Z, Z = sdS W j k → PW X 50 [some (.ref 0), some (.int (nI j)), some (.int y), some (.int (nI Z.2.2.1)), some (.int (leI Z.2.2.2)), some (.int (nI k)), none] [] (wpB (swS (swD W Z.1) Z.2.1)) 0 0 := by
      intro hy n
      induction n with
      | zero =>
        intro k h1 Z hZ
        have e : k = 60 := by omega
        subst e
        rw [← hZ] at hR
        refine PW.iload hX dX6_send_50 rfl ?_
        refine PW.bipush (v := nI 60) hX dX6_send_52 (by decide) ?_
        refine PW.icmp_ge (tgt := 106) hX dX6_send_54 (by decide) (fun c54 => ?_) (fun c54 => ?_)
        · try rw [nI_leI (by omega) (by omega)] at c54
          refine PW.iload_n hX dX6_send_106 rfl rfl ?_
          refine PW.if_ne (tgt := 114) hX dX6_send_107 (by decide) (fun c107 => ?_) (fun c107 => ?_)
          · first | rw [bI_d0] at c107 | rw [bI_eq0] at c107 | rw [nI_eq0 (by omega)] at c107 | skip
            refine PW.iload hX dX6_send_114 rfl ?_
            refine PW.iret hX hR dX6_send_116 rfl rfl ?_
            rw [if_neg (show ¬ y = nI 0 from c107), if_pos (hy.resolve_left c107)]
            exact ⟨rfl, rfl⟩
          · first | rw [bI_d0] at c107 | rw [bI_eq0] at c107 | rw [nI_eq0 (by omega)] at c107 | skip
            refine PW.iload_n hX dX6_send_110 rfl rfl ?_
            refine PW.goto (tgt := 116) hX dX6_send_111 (by decide) ?_
            refine PW.iret hX hR dX6_send_116 rfl rfl ?_
            rw [if_pos (show y = nI 0 from c107)]
            exact ⟨rfl, rfl⟩
        · try rw [nI_leI (by omega) (by omega)] at c54
          exfalso; omega -- CLOSED
      | succ n ih =>
        intro k h1 Z hZ
        have nx := ih (k + 1) (by omega) _ rfl
        obtain ⟨b1, b2⟩ := sdS_ok W wk j k (by omega)
        have b3 : PlOk (plSe (sdS W j k).1 j k) := plSe_ok b1 (by omega)
        have hn := sdS_none W j k
        rw [sdS] at nx
        rw [← hZ] at nx b1 b2 b3 hn
        obtain ⟨Q, S, b, l⟩ := Z
        have cM : PM mu_X2_mixedIn 5 0 0 [.ref 0, .ref 2] (prB 0 S ++ plB 2 (plSe Q j k)) (eqP (some (.int (nI (prmx (pDay (plSe Q j k) S))))) (prB 0 (pDay (plSe Q j k) S) ++ plB 2 (plSe Q j k))) := pm_mixedIn (plSe Q j k) b3 S
        have hmx := pDay_mx b3 S
        dsimp only at nx
        generalize pDay (plSe Q j k) S = S2 at nx cM hmx
        have hl := ltO_I hmx b2
        dsimp only at hn
        refine PW.iload hX dX6_send_50 rfl ?_
        refine PW.bipush (v := nI 60) hX dX6_send_52 (by decide) ?_
        refine PW.icmp_ge (tgt := 106) hX dX6_send_54 (by decide) (fun c54 => ?_) (fun c54 => ?_)
        · rw [nI_leI (by omega) (by omega)] at c54
          exfalso; omega -- CLOSED
        · refine PW.aload_n hX dX6_send_57 rfl rfl ?_
          refine PW.getfield hX fl_X6_19 dX6_send_58 rfl rfl ?_
          refine PW.getfield hX fl_X6_89 dX6_send_61 rfl rfl ?_
          refine PW.iload_n hX dX6_send_64 rfl rfl ?_
          refine PW.iload hX dX6_send_65 rfl ?_
          refine PW.iastore hX dX6_send_67 rfl rfl rfl (by omega) ?_
          refine PW.heap ((congrArg (fun f => (wpB (swS (swD W Q) S)).set 20 (Sum.inl (0, 6, f))) (upd_nI (plse Q) j k)).trans (st_dsent (swS (swD W Q) S) _)) ?_
          refine PW.aload_n hX dX6_send_68 rfl rfl ?_
          refine PW.getfield hX fl_X6_32 dX6_send_69 rfl rfl ?_
          refine PW.aload_n hX dX6_send_72 rfl rfl ?_
          refine PW.getfield hX fl_X6_19 dX6_send_73 rfl rfl ?_
          refine PW.vI hX ml_X6_173 (id cM) dX6_send_76 [27, 28, 17, 18, 19, 20, 21, 22, 23, 24] (e1_SD (swD (swS (swD W Q) S) (plSe Q j k))) rfl rfl rfl rfl rfl rfl rfl rfl rfl rfl rfl rfl rfl (eh_SD (swD (swS (swD W Q) S) (plSe Q j k)) _) ?_
          refine PW.istore hX dX6_send_79 rfl ?_
          refine PW.iload hX dX6_send_81 rfl ?_
          refine PW.if_eq (tgt := 93) hX dX6_send_83 (by decide) (fun c83 => ?_) (fun c83 => ?_)
          · rw [hn.mpr ((nI_eq0 (by omega)).mp c83)] at nx
            refine PW.iload hX dX6_send_93 rfl ?_
            refine PW.istore_n hX dX6_send_95 rfl rfl ?_
            refine PW.iload hX dX6_send_96 rfl ?_
            refine PW.istore hX dX6_send_98 rfl ?_
            first | refine PW.iinc hX dX6_send_100 rfl (iincN _) ?_ | refine PW.iinc hX dX6_send_100 rfl rfl ?_
            refine PW.goto (tgt := 50) hX dX6_send_103 (by decide) ?_
            refine PW.clr 6 ?_
            exact nx
          · have hl := hl (fun q => c83 ((nI_eq0 (by omega)).mpr (hn.mp q)))
            refine PW.iload hX dX6_send_86 rfl ?_
            refine PW.iload hX dX6_send_88 rfl ?_
            refine PW.icmp_ge (tgt := 100) hX dX6_send_90 (by decide) (fun c90 => ?_) (fun c90 => ?_)
            · rw [hl.mp c90] at nx
              first | refine PW.iinc hX dX6_send_100 rfl (iincN _) ?_ | refine PW.iinc hX dX6_send_100 rfl rfl ?_
              refine PW.goto (tgt := 50) hX dX6_send_103 (by decide) ?_
              refine PW.clr 6 ?_
              exact nx
            · rw [(Bool.not_eq_false _).mp (fun q => c90 (hl.mpr q))] at nx
              refine PW.iload hX dX6_send_93 rfl ?_
              refine PW.istore_n hX dX6_send_95 rfl rfl ?_
              refine PW.iload hX dX6_send_96 rfl ?_
              refine PW.istore hX dX6_send_98 rfl ?_
              first | refine PW.iinc hX dX6_send_100 rfl (iincN _) ?_ | refine PW.iinc hX dX6_send_100 rfl rfl ?_
              refine PW.goto (tgt := 50) hX dX6_send_103 (by decide) ?_
              refine PW.clr 6 ?_
              exact nx
    refine PW.aload_n hX dX6_send_0 rfl rfl ?_
    refine PW.getfield hX fl_X6_12 dX6_send_1 rfl rfl ?_
    refine PW.iload_n hX dX6_send_4 rfl rfl ?_
    refine PW.vR hX ml_X6_79 (pm_hasJob (wpP W) (nI j)) dX6_send_5 [1, 2, 3, 4, 5, 6, 7, 8] (e1_P W) rfl rfl rfl rfl rfl rfl rfl rfl rfl rfl rfl rfl ?_
    refine PW.if_ne (tgt := 17) hX dX6_send_8 (by decide) (fun c8 => ?_) (fun c8 => ?_)
    · first | rw [bI_d0] at c8 | rw [bI_eq0] at c8 | rw [nI_eq0 (by omega)] at c8 | skip
      refine PW.iload_n hX dX6_send_17 rfl rfl ?_
      refine PW.sR hX ml_X6_124 (pm_isZeroOrOne y) dX6_send_18 rfl rfl rfl rfl rfl rfl ?_
      refine PW.if_ne (tgt := 31) hX dX6_send_21 (by decide) (fun c21 => ?_) (fun c21 => ?_)
      · first | rw [bI_d0] at c21 | rw [bI_eq0] at c21 | rw [nI_eq0 (by omega)] at c21 | skip
        rw [Classical.not_not] at c21
        have h50 := loop c21 60 0 rfl _ rfl
        rw [sdS] at h50
        refine PW.aload_n hX dX6_send_31 rfl rfl ?_
        refine PW.getfield hX fl_X6_19 dX6_send_32 rfl rfl ?_
        refine PW.aload_n hX dX6_send_35 rfl rfl ?_
        refine PW.getfield hX fl_X6_12 dX6_send_36 rfl rfl ?_
        refine PW.vV hX ml_X6_177 (pm_copyFrom (wpD W) (wpP W)) dX6_send_39 [17, 18, 19, 20, 21, 22, 23, 24, 1, 2, 3, 4, 5, 6, 7, 8] (e1_DP W) rfl rfl rfl rfl rfl rfl rfl rfl rfl rfl rfl rfl rfl (eh_DP W _) ?_
        refine PW.iconst (v := nI 0) hX dX6_send_42 (by decide) ?_
        refine PW.istore_n hX dX6_send_43 rfl rfl ?_
        refine PW.iconst (v := nI 0) hX dX6_send_44 (by decide) ?_
        refine PW.istore hX dX6_send_45 rfl ?_
        refine PW.iconst (v := nI 0) hX dX6_send_47 (by decide) ?_
        refine PW.istore hX dX6_send_48 rfl ?_
        exact h50
      · first | rw [bI_d0] at c21 | rw [bI_eq0] at c21 | rw [nI_eq0 (by omega)] at c21 | skip
        refine PW.aload_n hX dX6_send_24 rfl rfl ?_
        refine PW.bipush (v := (-2)) hX dX6_send_25 (by decide) ?_
        refine PW.vIi hX ml_X6_58 (pm_refuse W (-2) 2 (by decide) (by decide) (by decide)) dX6_send_27 45 rfl rfl rfl rfl rfl rfl rfl rfl rfl rfl rfl rfl rfl rfl rfl ?_
        refine PW.iret hX hR dX6_send_30 rfl rfl ?_
        rw [if_neg (fun q => c21 (Or.inl q)), if_neg (fun q => c21 (Or.inr q))]
        exact ⟨rfl, rfl⟩
    · first | rw [bI_d0] at c8 | rw [bI_eq0] at c8 | rw [nI_eq0 (by omega)] at c8 | skip
      exact absurd (hb.symm.trans c8) (by decide) -- CLOSED
