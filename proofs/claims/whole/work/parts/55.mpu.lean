/-! ===== more of the day: first times, mixing (pure) ===== -/
def DF (P : Pl) (D : Dy) (m : Nat) : Prop := (∀ s, s < 60 → dyfo D s ≠ none → isSh P s = true) ∧ (∀ i k, i < k → k < dyn D → dyom D i < dyom D k) ∧ (∀ i, i < dyn D → dyom D i < m) ∧ (∀ s, s < 60 → dyfo D s = none → ∀ i, i < dyn D → dyos D i ≠ s) ∧ (∀ s x, s < 60 → dyfo D s = some x → ∃ k, k < dyn D ∧ dyos D k = s ∧ dyom D k = x ∧ ∀ i, i < k → dyos D i ≠ s)
theorem dPut_DF {P : Pl} (ok : PlOk P) {D : Dy} {m : Nat} (dk : DyOk P D m) (h : DF P D m) : DF P (dPut P D m) (m + 1) := by
  obtain ⟨f1, f2, f3, f4, f5⟩ := h
  obtain ⟨p1, p2⟩ := pOut_ok ok dk.1
  unfold dPut
  cases hk : (pOut P (dypr D) m).1 with
  | none => exact ⟨f1, f2, fun i hi => Nat.lt_succ_of_lt (f3 i hi), f4, f5⟩
  | some k =>
    have hs := p2 k hk
    refine ⟨fun s hs6 hf => ?_, fun i q hiq hq => ?_, fun i hi => ?_, fun s hs6 hf i hi => ?_, fun s x hs6 hf => ?_⟩
    · have hf : nFo (dyfo D) k m s ≠ none := hf
      by_cases e : s = k
      · rw [e]; exact hs
      · refine f1 s hs6 (fun q => hf ?_)
        unfold nFo
        cases dyfo D k with
        | none => dsimp only; rw [va_up_ne _ _ e]; exact q
        | some y => exact q
    · have hq : q < dyn D + 1 := hq
      show va_up (dyom D) (dyn D) m i < va_up (dyom D) (dyn D) m q
      rw [va_up_ne _ _ (by omega)]
      by_cases e : q = dyn D
      · rw [e, va_up_self]; exact f3 i (by omega)
      · rw [va_up_ne _ _ e]; exact f2 i q hiq (by omega)
    · have hi : i < dyn D + 1 := hi
      show va_up (dyom D) (dyn D) m i < m + 1
      by_cases e : i = dyn D
      · rw [e, va_up_self]; exact Nat.lt_succ_self _
      · rw [va_up_ne _ _ e]; exact Nat.lt_succ_of_lt (f3 i (by omega))
    · have hi : i < dyn D + 1 := hi
      have hf : nFo (dyfo D) k m s = none := hf
      show va_up (dyos D) (dyn D) k i ≠ s
      by_cases e : i = dyn D
      · rw [e, va_up_self]
        exact fun q => nFo_k (dyfo D) k m (by rw [q]; rw [q] at hf; exact hf)
      · rw [va_up_ne _ _ e]
        exact f4 s hs6 (nFo_none hf) i (by omega)
    · have hf : nFo (dyfo D) k m s = some x := hf
      have old : dyfo D s = some x → ∃ q, q < dyn D + 1 ∧ va_up (dyos D) (dyn D) k q = s ∧ va_up (dyom D) (dyn D) m q = x ∧ ∀ i, i < q → va_up (dyos D) (dyn D) k i ≠ s := by
        intro hx
        obtain ⟨q, q1, q2, q3, q4⟩ := f5 s x hs6 hx
        refine ⟨q, by omega, ?_, ?_, fun i hi => ?_⟩
        · rw [va_up_ne _ _ (by omega)]; exact q2
        · rw [va_up_ne _ _ (by omega)]; exact q3
        · rw [va_up_ne _ _ (by omega)]; exact q4 i hi
      unfold nFo at hf
      cases hfk : dyfo D k with
      | none =>
        rw [hfk] at hf
        dsimp only at hf
        by_cases e : s = k
        · rw [e, va_up_self] at hf
          cases hf
          refine ⟨dyn D, Nat.lt_succ_self _, ?_, ?_, fun i hi => ?_⟩
          · rw [e]; exact va_up_self _ _ _
          · exact va_up_self _ _ _
          · show va_up (dyos D) (dyn D) k i ≠ s
            rw [va_up_ne _ _ (by omega), e]
            exact f4 k (by rw [← e]; exact hs6) hfk i hi
        · rw [va_up_ne _ _ e] at hf
          exact old hf
      | some y =>
        rw [hfk] at hf
        exact old hf
theorem dTake_same (P : Pl) (m : Nat) (D : Dy) : ∀ t, dyos (dTake P m D t) = dyos D ∧ dyom (dTake P m D t) = dyom D ∧ dyn (dTake P m D t) = dyn D ∧ dyfo (dTake P m D t) = dyfo D ∧ dypr (dTake P m D t) = dypr D
  | 0 => ⟨rfl, rfl, rfl, rfl, rfl⟩
  | t + 1 => by
    rw [dTake]
    split
    · exact dTake_same P m D t
    · exact dTake_same P m D t
theorem dRun_DF {P : Pl} (ok : PlOk P) (D : Dy) : ∀ n, n ≤ 100 → DF P (dRun P D n) n
  | 0, _ => ⟨fun s hs h => absurd (show (if s < 60 then none else dyfo D s) = none from if_pos hs) h, fun i k _ hk => absurd hk (Nat.not_lt_zero _), fun i hi => absurd hi (Nat.not_lt_zero _), fun s _ _ i hi => absurd hi (Nat.not_lt_zero _), fun s x hs h => by
      have h : (if s < 60 then none else dyfo D s) = some x := h
      rw [if_pos hs] at h
      cases h⟩
  | n + 1, h => by
    have ih := dPut_DF ok (dRun_ok ok D n (by omega)) (dRun_DF ok D n (by omega))
    obtain ⟨e1, e2, e3, e4, e5⟩ := dTake_same P n (dPut P (dRun P D n) n) (plnt P)
    show DF P (dTake P n (dPut P (dRun P D n) n) (plnt P)) (n + 1)
    unfold DF
    rw [e1, e2, e3, e4]
    exact ih
/-! mixing -/
def mxS (g : Nat → Nat) (n : Nat) : Nat := sumN (fun q => if g (q + 1) / 10 = g q / 10 then 0 else 1) n
theorem mxS_up (g : Nat → Nat) (d k : Nat) : mxS (va_up g d k) (d - 1) = mxS g (d - 1) := by
  refine sumN_congr (fun q hq => ?_)
  rw [va_up_ne _ _ (by omega), va_up_ne _ _ (by omega)]
theorem mx_step (g : Nat → Nat) (d k : Nat) (hd : 0 < d) : mxS (va_up g d k) d = mxS g (d - 1) + (if k / 10 = g (d - 1) / 10 then 0 else 1) := by
  obtain ⟨e, rfl⟩ : ∃ e, d = e + 1 := ⟨d - 1, by omega⟩
  have h : mxS (va_up g (e + 1) k) (e + 1) = mxS (va_up g (e + 1) k) e + (if va_up g (e + 1) k (e + 1) / 10 = va_up g (e + 1) k e / 10 then 0 else 1) := rfl
  have h2 := mxS_up g (e + 1) k
  rw [Nat.add_sub_cancel] at h2
  rw [h, h2, va_up_self, va_up_ne _ _ (by omega)]
  rfl
theorem dPut_mx {P : Pl} (ok : PlOk P) {D : Dy} {m : Nat} (dk : DyOk P D m) (hi : DIn P D) (h : prmx (dypr D) = mxS (dyos D) (dyn D - 1)) : prmx (dypr (dPut P D m)) = mxS (dyos (dPut P D m)) (dyn (dPut P D m) - 1) := by
  obtain ⟨i1, i2, i3, i4, i5, i6, i7⟩ := hi
  have d1 := dk.1
  unfold dPut
  unfold pOut
  cases ha : pAgain P (dypr D) with
  | true =>
    have h4 := of_decide_eq_true ha
    cases hp : prla (dypr D) with
    | none => exact absurd hp (i5 (by omega))
    | some k =>
      obtain ⟨l1, l2⟩ := i6 k hp
      show prmx (dypr D) = mxS (va_up (dyos D) (dyn D) k) (dyn D + 1 - 1)
      rw [Nat.add_sub_cancel, mx_step _ _ _ l1, l2, if_pos rfl, h, Nat.add_zero]
  | false =>
    cases hj : chs P (prle (dypr D)) (prla (dypr D)) m (plnj P) with
    | none => exact h
    | some j =>
      obtain ⟨hjl, hjw⟩ := chs_lt _ _ _ _ _ _ hj
      simp only [wtg, decide_eq_true_eq] at hjw
      obtain ⟨n1, n2, n3⟩ := nxt_sh ok d1 hjl hjw.1
      show prmx (dypr D) + (match prla (dypr D) with | some k => (if k / 10 = j then 0 else 1) | none => 0) = mxS (va_up (dyos D) (dyn D) (nxt P (dypr D) j)) (dyn D + 1 - 1)
      rw [Nat.add_sub_cancel]
      cases hp : prla (dypr D) with
      | none =>
        have h0 := i7 hp
        rw [h0] at h ⊢
        exact h
      | some k =>
        obtain ⟨l1, l2⟩ := i6 k hp
        rw [mx_step _ _ _ l1, l2, n1, h]
        dsimp only
        by_cases e : k / 10 = j
        · rw [if_pos e, if_pos e.symm]
        · rw [if_neg e, if_neg (fun q => e q.symm)]
theorem dRun_mx {P : Pl} (ok : PlOk P) {f : Nat → Nat} (pr : PR P f) (D : Dy) : ∀ n, n ≤ 100 → prmx (dypr (dRun P D n)) = mxS (dyos (dRun P D n)) (dyn (dRun P D n) - 1)
  | 0, _ => rfl
  | n + 1, h => by
    have dz := (zRun_R pr ok D (fun _ => 0, fun _ => 0, fun _ => 0, 0, fun _ => 0, 0, fun _ => 0, fun _ => 0) n (by omega)).2.2.2.2
    have ih := dPut_mx ok (dRun_ok ok D n (by omega)) dz (dRun_mx ok pr D n (by omega))
    obtain ⟨e1, e2, e3, e4, e5⟩ := dTake_same P n (dPut P (dRun P D n) n) (plnt P)
    show prmx (dypr (dTake P n (dPut P (dRun P D n) n) (plnt P))) = mxS (dyos (dTake P n (dPut P (dRun P D n) n) (plnt P))) (dyn (dTake P n (dPut P (dRun P D n) n) (plnt P)) - 1)
    rw [e1, e3, e5]
    exact ih
def pIt (P : Pl) : Nat → Nat → Pr → Pr
  | 0, _, S => S
  | n + 1, m, S => pIt P n (m + 1) (pOut P S m).2
theorem pIt_snoc (P : Pl) : ∀ n m S, pIt P (n + 1) m S = (pOut P (pIt P n m S) (m + n)).2
  | 0, m, S => rfl
  | n + 1, m, S => by
    rw [pIt, pIt_snoc P n (m + 1), pIt, show m + 1 + n = m + (n + 1) by omega]
theorem dypr_dPut (P : Pl) (D : Dy) (m : Nat) : dypr (dPut P D m) = (pOut P (dypr D) m).2 := by
  unfold dPut
  cases (pOut P (dypr D) m).1 <;> rfl
theorem dRun_pr (P : Pl) (D : Dy) : ∀ n, dypr (dRun P D n) = pIt P n 0 (pBeg P (dypr D))
  | 0 => rfl
  | n + 1 => by
    rw [pIt_snoc, Nat.zero_add, ← dRun_pr P D n]
    show dypr (dTake P n (dPut P (dRun P D n) n) (plnt P)) = _
    rw [(dTake_same P n (dPut P (dRun P D n) n) (plnt P)).2.2.2.2, dypr_dPut]
def PE (P : Pl) (S S' : Pr) : Prop := (∀ j, j < plnj P → prle S j = prle S' j) ∧ S.2 = S'.2
theorem chs_cg {P : Pl} {le le' : Nat → Nat} (h : ∀ j, j < plnj P → le j = le' j) (la : Option Nat) (m : Nat) : ∀ k, k ≤ plnj P → chs P le la m k = chs P le' la m k
  | 0, _ => rfl
  | k + 1, hk => by
    have ew : wtg P le m k = wtg P le' m k := by unfold wtg; rw [h k (by omega)]
    rw [chs, chs, chs_cg h la m k (by omega), ew]
    cases hc : chs P le' la m k with
    | none => rfl
    | some c =>
      have hcl := (chs_lt _ _ _ _ _ _ hc).1
      have ea : ahd P le la k c = ahd P le' la k c := by unfold ahd; rw [h k (by omega), h c (by omega)]
      dsimp only
      rw [ea]
theorem pOut_PE {P : Pl} {S S' : Pr} (h : PE P S S') (m : Nat) : PE P (pOut P S m).2 (pOut P S' m).2 := by
  obtain ⟨h1, h2⟩ := h
  have ea : pAgain P S = pAgain P S' := by unfold pAgain; rw [show prsi S = prsi S' from by show S.2.2.2.1 = S'.2.2.2.1; rw [h2]]
  have el : prla S = prla S' := by show S.2.2.1 = S'.2.2.1; rw [h2]
  have ec : chs P (prle S) (prla S) m (plnj P) = chs P (prle S') (prla S') m (plnj P) := by rw [el]; exact chs_cg h1 _ _ _ (Nat.le_refl _)
  unfold pOut
  rw [ea, ec]
  cases pAgain P S' with
  | true => exact ⟨h1, by show (prli S, prla S, 0, prmx S) = (prli S', prla S', 0, prmx S'); rw [show prli S = prli S' by show S.2.1 = S'.2.1; rw [h2], el, show prmx S = prmx S' by show S.2.2.2.2 = S'.2.2.2.2; rw [h2]]⟩
  | false =>
    cases hj : chs P (prle S') (prla S') m (plnj P) with
    | none => exact ⟨h1, h2⟩
    | some j =>
      have hjl := (chs_lt _ _ _ _ _ _ hj).1
      have en : nxt P S j = nxt P S' j := by unfold nxt; rw [h1 j hjl]
      refine ⟨fun q hq => ?_, ?_⟩
      · show va_up (prle S) j (prle S j - 1) q = va_up (prle S') j (prle S' j - 1) q
        by_cases e : q = j
        · rw [e, va_up_self, va_up_self, h1 j hjl]
        · rw [va_up_ne _ _ e, va_up_ne _ _ e]; exact h1 q hq
      · show (pTake P S j).2 = (pTake P S' j).2
        unfold pTake
        rw [en, el, show prli S = prli S' by show S.2.1 = S'.2.1; rw [h2], show prmx S = prmx S' by show S.2.2.2.2 = S'.2.2.2.2; rw [h2], show prsi S = prsi S' by show S.2.2.2.1 = S'.2.2.2.1; rw [h2]]
theorem pIt_PE {P : Pl} : ∀ n m {S S' : Pr}, PE P S S' → PE P (pIt P n m S) (pIt P n m S')
  | 0, _, _, _, h => h
  | n + 1, m, _, _, h => pIt_PE n (m + 1) (pOut_PE h m)
theorem pOut_0 {P : Pl} (ok : PlOk P) {S : Pr} {q : Nat} (so : PrOk P S q) (h : prli S = 0) (m : Nat) : prli (pOut P S m).2 = 0 ∧ prmx (pOut P S m).2 = prmx S := by
  unfold pOut
  cases pAgain P S with
  | true => exact ⟨h, rfl⟩
  | false =>
    cases hj : chs P (prle S) (prla S) m (plnj P) with
    | none => exact ⟨h, rfl⟩
    | some j =>
      obtain ⟨hjl, hjw⟩ := chs_lt _ _ _ _ _ _ hj
      simp only [wtg, decide_eq_true_eq] at hjw
      have := sumN_pos (f := prle S) hjl
      have := so.2.2.1
      omega
theorem pIt_0 {P : Pl} (ok : PlOk P) : ∀ n m {S : Pr}, PrOk P S m → prli S = 0 → prmx (pIt P n m S) = prmx S
  | 0, _, _, _, _ => rfl
  | n + 1, m, S, so, h => by
    obtain ⟨h1, h2⟩ := pOut_0 ok so h m
    rw [pIt, pIt_0 ok n (m + 1) (pOut_ok ok so).1 h1]
    exact h2
theorem pRun_pIt {P : Pl} (ok : PlOk P) : ∀ n m {S : Pr}, PrOk P S m → prmx (pRun P n m S) = prmx (pIt P n m S)
  | 0, _, _, _ => rfl
  | n + 1, m, S, so => by
    rw [pRun]
    by_cases h : 0 < prli S
    · rw [decide_eq_true h, pIt]
      exact pRun_pIt ok n (m + 1) (pOut_ok ok so).1
    · rw [decide_eq_false h, pIt_0 ok (n + 1) m so (by omega)]
      rfl
theorem mix_eq {P : Pl} (ok : PlOk P) {f : Nat → Nat} (pr : PR P f) (D : Dy) (S : Pr) : prmx (pDay P S) = mxS (dyos (dRun P D 100)) (dyn (dRun P D 100) - 1) := by
  rw [← dRun_mx ok pr D 100 (Nat.le_refl _), dRun_pr]
  unfold pDay
  rw [pRun_pIt ok 100 0 (pBeg_ok P S)]
  have h : PE P (pBeg P S) (pBeg P (dypr D)) := ⟨fun j hj => by
    show (if j < plnj P then plsh P j else prle S j) = (if j < plnj P then plsh P j else prle (dypr D) j)
    rw [if_pos hj, if_pos hj], rfl⟩
  have h2 := (pIt_PE 100 0 h).2
  show (pIt P 100 0 (pBeg P S)).2.2.2.2 = (pIt P 100 0 (pBeg P (dypr D))).2.2.2.2
  rw [h2]
