/-! ===== the reference's day is the class's: steps ===== -/
theorem orN_bit (p : Nat → Prop) [DecidablePred p] : ∀ n j, (orN (fun k => if p k then 2 ^ k else 0) n).testBit j = decide (j < n ∧ p j)
  | 0, j => by
    rw [orN, Nat.zero_testBit, decide_eq_false (by omega)]
  | n + 1, j => by
    rw [orN, Nat.testBit_or, orN_bit p n j]
    by_cases hp : p n
    · rw [if_pos hp, Nat.testBit_two_pow]
      by_cases e : n = j
      · subst e
        rw [decide_eq_true (show n = n from rfl), Bool.or_true, decide_eq_true ⟨Nat.lt_succ_self _, hp⟩]
      · rw [decide_eq_false e, Bool.or_false]
        exact decide_eq_decide.mpr ⟨fun q => ⟨by omega, q.2⟩, fun q => ⟨by omega, q.2⟩⟩
    · rw [if_neg hp, Nat.zero_testBit, Bool.or_false]
      exact decide_eq_decide.mpr ⟨fun q => ⟨by omega, q.2⟩, fun q => ⟨by
        by_cases e : j = n
        · subst e; exact absurd q.2 hp
        · omega, q.2⟩⟩
theorem orN_congr {f g : Nat → Nat} {n : Nat} (h : ∀ k, k < n → f k = g k) : orN f n = orN g n := by
  induction n with
  | zero => rfl
  | succ n ih => rw [orN, orN, ih (fun k hk => h k (by omega)), h n (by omega)]
theorem hOf_8 {P : Pl} {D : Dy} (hi : DIn P D) (dho : ∀ k o, k < 60 → dyho D k = some o → o < 4) {k : Nat} (hk : k < 60) : hOf D k = -8 ↔ dyfo D k = none := by
  unfold hOf
  cases hf : dyfo D k with
  | none => exact ⟨fun _ => rfl, fun _ => rfl⟩
  | some x =>
    refine ⟨fun q => ?_, fun q => by cases q⟩
    exfalso
    cases ho : dyho D k with
    | none => rw [ho] at q; exact absurd (show (-9 : Int32) = -8 from q) (by decide)
    | some o =>
      rw [ho] at q
      have ol := dho k o hk ho
      have q : nI o = -8 := q
      exact nI_pos (show o < 2 ^ 31 by omega) (by rw [q]; decide)
theorem nFo_k (fo : Nat → Option Nat) (k m : Nat) : nFo fo k m k ≠ none := by
  unfold nFo
  cases h : fo k with
  | none => dsimp only; rw [va_up_self]; exact fun q => by cases q
  | some x => dsimp only; rw [h]; exact fun q => by cases q
theorem nFo_none {fo : Nat → Option Nat} {k m q : Nat} (h : nFo fo k m q = none) : fo q = none := by
  unfold nFo at h
  cases hf : fo k with
  | none =>
    rw [hf] at h
    dsimp only at h
    by_cases e : q = k
    · rw [e]; exact hf
    · rw [va_up_ne _ _ e] at h; exact h
  | some x => rw [hf] at h; exact h
def dNew (P : Pl) (D : Dy) (S' : Pr) (k m : Nat) : Dy := (S', (if plkd P = 3 then tBen (dyty D) k else tUp (dyty D) k), va_up (dyos D) (dyn D) k, va_up (dyom D) (dyn D) m, dyn D + 1, nFo (dyfo D) k m, dyho D)
theorem tray_new {P : Pl} {D : Dy} (hn : tyn (dyty D) < 100) (k : Nat) : tyn (if plkd P = 3 then tBen (dyty D) k else tUp (dyty D) k) = tyn (dyty D) + 1 ∧ ∀ i, i < tyn (dyty D) + 1 → tysh (if plkd P = 3 then tBen (dyty D) k else tUp (dyty D) k) i = (if plkd P = 3 then (if i = 0 then k else tysh (dyty D) (i - 1)) else (if i = tyn (dyty D) then k else tysh (dyty D) i)) := by
  by_cases h3 : plkd P = 3
  · rw [if_pos h3]
    unfold tBen
    rw [if_pos hn]
    refine ⟨rfl, fun i hi => ?_⟩
    rw [if_pos h3]
    show va_up (va_cpy (tysh (dyty D)) (tysh (dyty D)) 0 1 (tyn (dyty D))) 0 k i = _
    by_cases e : i = 0
    · rw [e, va_up_self, if_pos rfl]
    · rw [va_up_ne _ _ e, if_neg e, pk_cpy_in (by omega) (by omega), Nat.zero_add]
  · rw [if_neg h3]
    unfold tUp
    rw [if_pos hn]
    refine ⟨rfl, fun i hi => ?_⟩
    rw [if_neg h3]
    show va_up (tysh (dyty D)) (tyn (dyty D)) k i = _
    by_cases e : i = tyn (dyty D)
    · rw [e, va_up_self, if_pos rfl]
    · rw [va_up_ne _ _ e, if_neg e]
theorem put_CR {P : Pl} {f : Nat → Nat} (pr : PR P f) {D : Dy} {C : MC} (hn : dyn D < 100) (h : CRl D C) (hi : DIn P D) (dho : ∀ k o, k < 60 → dyho D k = some o → o < 4) {k : Nat} (m : Nat) (hk : k < 60) (S' : Pr) : CRl (dNew P D S' k m) (mPut f C k m) := by
  obtain ⟨c1, c2, c3, c4, c5⟩ := h
  have hi' := hi
  obtain ⟨i1, i2, i3, i4, i5, i6, i7⟩ := hi
  have p2 := pr.2.2.1
  obtain ⟨y1, y2⟩ := tray_new (P := P) (D := D) (by omega) k
  refine ⟨congrArg (· + 1) c1, fun i hi => ?_, ?_, fun i hi => ?_, fun q hq => ?_⟩
  · have hi : i < dyn D + 1 := hi
    show va_up (cou C) (cos C) k i = va_up (dyos D) (dyn D) k i ∧ va_up (coa C) (cos C) m i = va_up (dyom D) (dyn D) m i
    rw [c1]
    by_cases e : i = dyn D
    · rw [e, va_up_self, va_up_self, va_up_self, va_up_self]; exact ⟨rfl, rfl⟩
    · rw [va_up_ne _ _ e, va_up_ne _ _ e, va_up_ne _ _ e, va_up_ne _ _ e]; exact c2 i (by omega)
  · show cly C + 1 = tyn (if plkd P = 3 then tBen (dyty D) k else tUp (dyty D) k)
    rw [y1, c3]
  · have hi : i < tyn (if plkd P = 3 then tBen (dyty D) k else tUp (dyty D) k) := hi
    rw [y1] at hi
    show (if f 2 = 3 then va_up (mSh (ctr C) (cly C) 0) 0 k else va_up (ctr C) (cly C) k) i = tysh (if plkd P = 3 then tBen (dyty D) k else tUp (dyty D) k) i
    rw [y2 i hi, p2, c3]
    by_cases h3 : plkd P = 3
    · rw [if_pos h3, if_pos h3]
      by_cases e : i = 0
      · rw [e, va_up_self, if_pos rfl]
      · rw [va_up_ne _ _ e, if_neg e]
        unfold mSh
        rw [if_pos (by omega)]
        exact c4 _ (by omega)
    · rw [if_neg h3, if_neg h3]
      by_cases e : i = tyn (dyty D)
      · rw [e, va_up_self, if_pos rfl]
      · rw [va_up_ne _ _ e, if_neg e]
        exact c4 _ (by omega)
  · show (if cho C k = -8 then upd (cho C) k (-9) else cho C) q = (match nFo (dyfo D) k m q with | none => (-8 : Int32) | some _ => oI (dyho D q))
    have e8 := hOf_8 hi' dho hk
    rw [c5 k hk]
    unfold nFo
    cases hf : dyfo D k with
    | none =>
      rw [if_pos (e8.mpr hf)]
      dsimp only
      by_cases e : q = k
      · rw [e, va_up_self]
        dsimp only
        rw [i3 k hk hf]
        unfold upd
        rw [if_pos rfl]
        rfl
      · rw [va_up_ne _ _ e]
        unfold upd
        rw [if_neg e]
        exact c5 q hq
    | some x =>
      rw [if_neg (fun z => by rw [e8.mp z] at hf; cases hf)]
      exact c5 q hq
theorem put_DIn {P : Pl} {D : Dy} (hn : dyn D < 100) (hi : DIn P D) (k m : Nat) (S' : Pr) (h1 : plkd P = 4 → 0 < plsp P → prsi S' ≤ plsp P) (h2 : prla S' = some k) : DIn P (dNew P D S' k m) := by
  obtain ⟨i1, i2, i3, i4, i5, i6, i7⟩ := hi
  obtain ⟨y1, y2⟩ := tray_new (P := P) (D := D) (by omega) k
  refine ⟨?_, fun i hi => ?_, fun q hq h => ?_, h1, fun _ h => ?_, fun k' h => ?_, fun h => ?_⟩
  · show tyn (if plkd P = 3 then tBen (dyty D) k else tUp (dyty D) k) ≤ dyn D + 1
    omega
  · have hi : i < tyn (if plkd P = 3 then tBen (dyty D) k else tUp (dyty D) k) := hi
    rw [y1] at hi
    show nFo (dyfo D) k m (tysh (if plkd P = 3 then tBen (dyty D) k else tUp (dyty D) k) i) ≠ none
    rw [y2 i hi]
    have hk := nFo_k (dyfo D) k m
    split
    · split
      · exact hk
      · rename_i e
        exact fun q => i2 (i - 1) (by omega) (nFo_none q)
    · split
      · exact hk
      · rename_i e
        exact fun q => i2 i (by omega) (nFo_none q)
  · exact i3 q hq (nFo_none h)
  · have h : prla S' = none := h
    rw [h2] at h; cases h
  · have h : prla S' = some k' := h
    rw [h2] at h
    cases h
    refine ⟨Nat.succ_pos _, ?_⟩
    show va_up (dyos D) (dyn D) k (dyn D + 1 - 1) = k
    rw [Nat.add_sub_cancel, va_up_self]
  · have h : prla S' = none := h
    rw [h2] at h; cases h
theorem zPut_R {P : Pl} {f : Nat → Nat} (pr : PR P f) (ok : PlOk P) {D : Dy} {Z : MZ} {m : Nat} (hm : m < 100) (dk : DyOk P D m) (h : ZR P D Z) : ZR P (dPut P D m) (zPut f Z m) := by
  obtain ⟨r1, r2, r3, r4, r5⟩ := h
  obtain ⟨d1, d2, d3, d4, d5, d6⟩ := dk
  have pr' := pr
  obtain ⟨p0, p1, p2, p3, p4, p5⟩ := pr
  obtain ⟨c1, c2, c3, c4, c5⟩ := id r2
  obtain ⟨i1, i2, i3, i4, i5, i6, i7⟩ := id r5
  obtain ⟨s1, s2, s3, s4, s5⟩ := id d1
  have hl : 0 < plnj P → Z.2.1 < plnj P := by
    intro h0
    unfold laR at r3
    cases hp : prla (dypr D) with
    | none => rw [hp] at r3; have r3 : Z.2.1 = plnj P - 1 := r3; omega
    | some k => rw [hp] at r3; have r3 : Z.2.1 = k / 10 := r3; rw [r3]; exact (isSh_lt ok (s2 k hp)).2.1
  have hch := ch_eq pr' ok r1 hl r3 m
  by_cases ha : plkd P = 4 ∧ 0 < plsp P ∧ plsp P ≤ prsi (dypr D)
  · have hsi : prsi (dypr D) = plsp P := Nat.le_antisymm (i4 ha.1 ha.2.1) ha.2.2
    have hc : f 2 = 4 ∧ 0 < f 3 ∧ Z.2.2 = f 3 := ⟨p2.trans ha.1, by rw [p3]; exact ha.2.1, by rw [r4, p3]; exact hsi⟩
    cases hp : prla (dypr D) with
    | none => exact absurd hp (i5 (by omega))
    | some k =>
      obtain ⟨l1, l2⟩ := i6 k hp
      have hs := isSh_lt ok (s2 k hp)
      have eo : pOut P (dypr D) m = (some k, (prle (dypr D), prli (dypr D), some k, 0, prmx (dypr D))) := by
        unfold pOut
        rw [show pAgain P (dypr D) = true from decide_eq_true ha, hp]
        rfl
      have ed : dPut P D m = dNew P D (prle (dypr D), prli (dypr D), some k, 0, prmx (dypr D)) k m := by
        unfold dPut
        rw [eo]
        rfl
      have ec : cou Z.1 (cos Z.1 - 1) = k := by rw [c1, (c2 _ (by omega)).1, l2]
      have ez : zPut f Z m = (mPut f Z.1 k m, Z.2.1, 0) := by
        unfold zPut
        rw [if_pos hc, ec]
      rw [ed, ez]
      rw [hp] at r3
      exact ⟨r1, put_CR pr' (by omega) r2 r5 d6 m hs.1 _, r3, rfl, put_DIn (by omega) r5 k m _ (fun _ _ => Nat.zero_le _) rfl⟩
  · have hc : ¬ (f 2 = 4 ∧ 0 < f 3 ∧ Z.2.2 = f 3) := by
      rw [p2, p3, r4]
      exact fun q => ha ⟨q.1, q.2.1, by omega⟩
    have eo : pOut P (dypr D) m = match chs P (prle (dypr D)) (prla (dypr D)) m (plnj P) with | none => (none, dypr D) | some j => (some (nxt P (dypr D) j), pTake P (dypr D) j) := by
      unfold pOut
      rw [show pAgain P (dypr D) = false from decide_eq_false ha]
      rfl
    cases hj : chs P (prle (dypr D)) (prla (dypr D)) m (plnj P) with
    | none =>
      rw [hj] at eo hch
      have ed : dPut P D m = D := by
        unfold dPut
        rw [eo]
      have ez : zPut f Z m = Z := by
        unfold zPut
        rw [if_neg hc, hch]
      rw [ed, ez]
      exact ⟨r1, r2, r3, r4, r5⟩
    | some j =>
      rw [hj] at eo hch
      obtain ⟨hjl, hjw⟩ := chs_lt _ _ _ _ _ _ hj
      simp only [wtg, decide_eq_true_eq] at hjw
      obtain ⟨n1, n2, n3⟩ := nxt_sh ok d1 hjl hjw.1
      have hs := isSh_lt ok n3
      have ed : dPut P D m = dNew P D (pTake P (dypr D) j) (nxt P (dypr D) j) m := by
        unfold dPut
        rw [eo]
        rfl
      have sj := s1 j hjl
      have ex : 10 * j + f (20 + j) - (cle Z.1 j - 1) = nxt P (dypr D) j := by
        unfold nxt
        rw [(p4 j hjl).2.1, r1 j hjl]
        omega
      have ez : zPut f Z m = (mPut f (cLe Z.1 (va_up (cle Z.1) j (cle Z.1 j - 1))) (nxt P (dypr D) j) m, j, Z.2.2 + 1) := by
        unfold zPut
        rw [if_neg hc, hch]
        dsimp only
        rw [ex]
      rw [ed, ez]
      refine ⟨fun q hq => ?_, put_CR pr' (by omega) (C := cLe Z.1 (va_up (cle Z.1) j (cle Z.1 j - 1))) r2 r5 d6 m hs.1 _, n1.symm, congrArg (· + 1) r4, put_DIn (by omega) r5 _ m _ (fun h4 h0 => ?_) rfl⟩
      · show va_up (cle Z.1) j (cle Z.1 j - 1) q = va_up (prle (dypr D)) j (prle (dypr D) j - 1) q
        by_cases e : q = j
        · rw [e, va_up_self, va_up_self, r1 j hjl]
        · rw [va_up_ne _ _ e, va_up_ne _ _ e]; exact r1 q hq
      · show prsi (dypr D) + 1 ≤ plsp P
        have := i4 h4 h0
        omega
