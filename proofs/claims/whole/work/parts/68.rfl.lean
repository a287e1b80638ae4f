/-! ===== the relation: floor ===== -/
theorem PR_J {Q : Pl} {f : Nat → Nat} (pr : PR Q f) (h1 : plnj Q < 6) (h2 : plnt Q ≤ 6) (o s m : Nat) : PR (plAddJ Q o s m) (va_up (va_up (va_up (va_up f (10 + f 0) o) (20 + f 0) s) (30 + f 0) m) 0 (f 0 + 1)) := by
  obtain ⟨p0, p1, p2, p3, p4, p5⟩ := pr
  rw [p0]
  refine ⟨va_up_self _ _ _, ?_, ?_, ?_, fun j hj => ?_, fun t ht => ?_⟩
  · rw [va_up_ne _ _ (by decide), va_up_ne _ _ (by omega), va_up_ne _ _ (by omega), va_up_ne _ _ (by omega)]; exact p1
  · rw [va_up_ne _ _ (by decide), va_up_ne _ _ (by omega), va_up_ne _ _ (by omega), va_up_ne _ _ (by omega)]; exact p2
  · rw [va_up_ne _ _ (by decide), va_up_ne _ _ (by omega), va_up_ne _ _ (by omega), va_up_ne _ _ (by omega)]; exact p3
  · have hj : j < plnj Q + 1 := hj
    by_cases e : j = plnj Q
    · refine ⟨?_, ?_, ?_⟩
      · show _ = va_up (plow Q) (plnj Q) o j
        rw [e, va_up_self, va_up_ne _ _ (by omega), va_up_ne _ _ (by omega), va_up_ne _ _ (by omega), va_up_self]
      · show _ = va_up (plsh Q) (plnj Q) s j
        rw [e, va_up_self, va_up_ne _ _ (by omega), va_up_ne _ _ (by omega), va_up_self]
      · show _ = va_up (plse Q) (plnj Q) m j
        rw [e, va_up_self, va_up_ne _ _ (by omega), va_up_self]
    · obtain ⟨a, b, c⟩ := p4 j (by omega)
      refine ⟨?_, ?_, ?_⟩
      · show _ = va_up (plow Q) (plnj Q) o j
        rw [va_up_ne _ _ e, va_up_ne _ _ (by omega), va_up_ne _ _ (by omega), va_up_ne _ _ (by omega), va_up_ne _ _ (by omega)]; exact a
      · show _ = va_up (plsh Q) (plnj Q) s j
        rw [va_up_ne _ _ e, va_up_ne _ _ (by omega), va_up_ne _ _ (by omega), va_up_ne _ _ (by omega), va_up_ne _ _ (by omega)]; exact b
      · show _ = va_up (plse Q) (plnj Q) m j
        rw [va_up_ne _ _ e, va_up_ne _ _ (by omega), va_up_ne _ _ (by omega), va_up_ne _ _ (by omega), va_up_ne _ _ (by omega)]; exact c
  · have ht : t < plnt Q := ht
    have k : ∀ i, 40 ≤ i → va_up (va_up (va_up (va_up f (10 + plnj Q) o) (20 + plnj Q) s) (30 + plnj Q) m) 0 (plnj Q + 1) i = f i := fun i hi => by
      rw [va_up_ne _ _ (by omega), va_up_ne _ _ (by omega), va_up_ne _ _ (by omega), va_up_ne _ _ (by omega)]
    rw [k _ (by omega), k _ (by omega), k _ (by omega), k _ (by omega)]
    exact p5 t ht
theorem PR_M {Q : Pl} {f : Nat → Nat} (pr : PR Q f) (k s : Nat) : PR (plMac Q k s) (va_up (va_up f 2 k) 3 s) := by
  have h := PR_mac2 pr k s
  have e : va_up (va_up f 2 k) 3 s = va_up (va_up f 3 s) 2 k := by
    funext j
    by_cases e2 : j = 2
    · rw [e2, va_up_self, va_up_ne _ _ (by decide), va_up_self]
    · rw [va_up_ne _ _ e2]
      by_cases e3 : j = 3
      · rw [e3, va_up_self, va_up_self]
      · rw [va_up_ne _ _ e3, va_up_ne _ _ e3, va_up_ne _ _ e2]
  rw [e]
  exact h
theorem PR_T {Q : Pl} {f : Nat → Nat} (pr : PR Q f) (h1 : plnj Q ≤ 6) (h2 : plnt Q < 6) (k o g m : Nat) : PR (plAddT Q k o g m) (va_up (va_up (va_up (va_up (va_up f (40 + f 1) k) (50 + f 1) o) (60 + f 1) g) (70 + f 1) m) 1 (f 1 + 1)) := by
  obtain ⟨p0, p1, p2, p3, p4, p5⟩ := pr
  rw [p1]
  have lo : ∀ i, i < 40 → i ≠ 1 → va_up (va_up (va_up (va_up (va_up f (40 + plnt Q) k) (50 + plnt Q) o) (60 + plnt Q) g) (70 + plnt Q) m) 1 (plnt Q + 1) i = f i := fun i hi h1 => by
    rw [va_up_ne _ _ h1, va_up_ne _ _ (by omega), va_up_ne _ _ (by omega), va_up_ne _ _ (by omega), va_up_ne _ _ (by omega)]
  refine ⟨(lo 0 (by decide) (by decide)).trans p0, va_up_self _ _ _, (lo 2 (by decide) (by decide)).trans p2, (lo 3 (by decide) (by decide)).trans p3, fun j hj => ?_, fun t ht => ?_⟩
  · have hj : j < plnj Q := hj
    rw [lo _ (by omega) (by omega), lo _ (by omega) (by omega), lo _ (by omega) (by omega)]
    exact p4 j hj
  · have ht : t < plnt Q + 1 := ht
    by_cases e : t = plnt Q
    · refine ⟨?_, ?_, ?_, ?_⟩
      · show _ = va_up (pltk Q) (plnt Q) k t
        rw [e, va_up_self, va_up_ne _ _ (by omega), va_up_ne _ _ (by omega), va_up_ne _ _ (by omega), va_up_ne _ _ (by omega), va_up_self]
      · show _ = va_up (pltw Q) (plnt Q) o t
        rw [e, va_up_self, va_up_ne _ _ (by omega), va_up_ne _ _ (by omega), va_up_ne _ _ (by omega), va_up_self]
      · show _ = va_up (pltf Q) (plnt Q) g t
        rw [e, va_up_self, va_up_ne _ _ (by omega), va_up_ne _ _ (by omega), va_up_self]
      · show _ = va_up (pltm Q) (plnt Q) m t
        rw [e, va_up_self, va_up_ne _ _ (by omega), va_up_self]
    · obtain ⟨a, b, c, d⟩ := p5 t (by omega)
      have k4 : ∀ i, i ≠ 1 → i ≠ 40 + plnt Q → i ≠ 50 + plnt Q → i ≠ 60 + plnt Q → i ≠ 70 + plnt Q → va_up (va_up (va_up (va_up (va_up f (40 + plnt Q) k) (50 + plnt Q) o) (60 + plnt Q) g) (70 + plnt Q) m) 1 (plnt Q + 1) i = f i := fun i q1 q2 q3 q4 q5 => by
        rw [va_up_ne _ _ q1, va_up_ne _ _ q5, va_up_ne _ _ q4, va_up_ne _ _ q3, va_up_ne _ _ q2]
      refine ⟨?_, ?_, ?_, ?_⟩
      · show _ = va_up (pltk Q) (plnt Q) k t
        rw [va_up_ne _ _ e, k4 _ (by omega) (by omega) (by omega) (by omega) (by omega)]; exact a
      · show _ = va_up (pltw Q) (plnt Q) o t
        rw [va_up_ne _ _ e, k4 _ (by omega) (by omega) (by omega) (by omega) (by omega)]; exact b
      · show _ = va_up (pltf Q) (plnt Q) g t
        rw [va_up_ne _ _ e, k4 _ (by omega) (by omega) (by omega) (by omega) (by omega)]; exact c
      · show _ = va_up (pltm Q) (plnt Q) m t
        rw [va_up_ne _ _ e, k4 _ (by omega) (by omega) (by omega) (by omega) (by omega)]; exact d
/-- one statement, told to the plan and to the reference's numbers -/
theorem tell_R {Z : Te} {N : Md} (sf : SF Z N) {Q : Pl} (ok : PlOk Q) : tellB Z Q = mAim N (plnj Q) (plnt Q) ∧ (tellB Z Q = true → plnj (tellP Z Q) = jn N (plnj Q) ∧ plnt (tellP Z Q) = cn' N (plnt Q) ∧ ∀ f, PR Q f → (∀ j, j < 80 → f j < 100) → PR (tellP Z Q) (cmF (mso N) (mfi N) f) ∧ ∀ j, j < 80 → cmF (mso N) (mfi N) f j < 100) := by
  have o1 := ok.1
  have o2 := ok.2.1
  rcases sf with ⟨h1, h2, h3⟩ | ⟨h1, h2, h3, h4, h5, h6⟩ | ⟨h1, h2, h3, h5, h6⟩
  · obtain ⟨a1, a2, a3, b1, b2, b3⟩ := h3
    have eb : tellB Z Q = okJ Q (mfi N 1) (mfi N 2) (mfi N 3) := by
      unfold tellB
      rw [if_pos h1, a1, a2, a3, nI_clamp (by omega), nI_clamp (by omega), nI_clamp (by omega)]
    refine ⟨?_, fun ht => ?_⟩
    · rw [eb]
      unfold okJ mAim
      exact decide_eq_decide.mpr (by omega)
    · rw [eb] at ht
      have ep : tellP Z Q = plAddJ Q (mfi N 1) (mfi N 2) (mfi N 3) := by
        unfold tellP
        rw [if_pos h1, a1, a2, a3, nI_clamp (by omega), nI_clamp (by omega), nI_clamp (by omega), ht]
        rfl
      have hc := of_decide_eq_true ht
      rw [ep]
      refine ⟨?_, ?_, fun f pr hb => ?_⟩
      · show plnj Q + 1 = jn N (plnj Q)
        unfold jn
        rw [if_pos h2]
      · show plnt Q = cn' N (plnt Q)
        unfold cn'
        rw [if_neg (by omega)]
        rfl
      · unfold cmF
        rw [if_pos h2]
        exact ⟨PR_J pr (by omega) o2 _ _ _, up_lt80 (up_lt80 (up_lt80 (up_lt80 hb (by omega) _) (by omega) _) (by omega) _) (by rw [pr.1]; omega) _⟩
  · have eb : tellB Z Q = true := by
      unfold tellB
      rw [if_neg (by omega), if_neg (by omega)]
    refine ⟨?_, fun _ => ?_⟩
    · rw [eb]
      exact (decide_eq_true (Or.inl h2)).symm
    · have ep : tellP Z Q = plMac Q (mfi N 0) (mfi N 1) := by
        unfold tellP
        rw [if_neg (by omega), if_neg (by omega), h3, h4, nI_clamp (by omega), nI_clamp (by omega)]
      rw [ep]
      refine ⟨?_, ?_, fun f pr hb => ?_⟩
      · show plnj Q = jn N (plnj Q)
        unfold jn
        rw [if_neg (by omega)]
        rfl
      · show plnt Q = cn' N (plnt Q)
        unfold cn'
        rw [if_neg (by omega)]
        rfl
      · unfold cmF
        rw [if_neg (by omega), if_pos h2]
        exact ⟨PR_M pr _ _, up_lt80 (up_lt80 hb (by omega) _) (by omega) _⟩
  · obtain ⟨a1, a2, a3, b1, b2, b3⟩ := h6
    have eb : tellB Z Q = okT Q (mfi N 1) (mfi N 3) := by
      unfold tellB
      rw [if_neg (by omega), if_pos h1, a1, a3, nI_clamp (by omega), nI_clamp (by omega)]
    refine ⟨?_, fun ht => ?_⟩
    · rw [eb]
      unfold okT mAim
      exact decide_eq_decide.mpr (by omega)
    · rw [eb] at ht
      have ep : tellP Z Q = plAddT Q (mfi N 0) (mfi N 1) (mfi N 2) (mfi N 3) := by
        unfold tellP
        rw [if_neg (by omega), if_pos h1, h3, a1, a2, a3, nI_clamp (by omega), nI_clamp (by omega), nI_clamp (by omega), nI_clamp (by omega), ht]
        rfl
      have hc := of_decide_eq_true ht
      rw [ep]
      refine ⟨?_, ?_, fun f pr hb => ?_⟩
      · show plnj Q = jn N (plnj Q)
        unfold jn
        rw [if_neg (by omega)]
        rfl
      · show plnt Q + 1 = cn' N (plnt Q)
        unfold cn'
        rw [if_pos h2]
      · unfold cmF
        rw [if_neg (by omega), if_neg (by omega)]
        exact ⟨PR_T pr o1 (by omega) _ _ _ _, up_lt80 (up_lt80 (up_lt80 (up_lt80 (up_lt80 hb (by omega) _) (by omega) _) (by omega) _) (by omega) _) (by rw [pr.2.1]; omega) _⟩
/-! the chain of statements -/
def tq (T T' : Te) : Prop := tele T' = tele T ∧ ten T' = ten T ∧ tepl T' = tepl T
theorem rSt_cg {T T' : Te} (tr : TeR T) (h : tq T T') : (rSt T').1 = (rSt T).1 ∧ tq (rSt T).2 (rSt T').2 := by
  obtain ⟨a, b, _⟩ := stm_R (T := T) (M := sB mdZ (tele T, ten T, tepl T, true, 0, fun _ => 0)) ⟨rfl, rfl, rfl⟩ rfl tr.2.2
  obtain ⟨a', b', _⟩ := stm_R (T := T') (M := sB mdZ (tele T, ten T, tepl T, true, 0, fun _ => 0)) ⟨h.1.symm, h.2.1.symm, h.2.2.symm⟩ rfl (by rw [h.1, h.2.1]; exact tr.2.2)
  exact ⟨b'.symm.trans b, a'.1.symm.trans a.1, a'.2.1.symm.trans a.2.1, a'.2.2.symm.trans a.2.2⟩
def chn : Nat → Te → Prop
  | 0, T => ten T ≤ tepl T
  | c + 1, T => tepl T < ten T ∧ (rSt T).1 = true ∧ chn c (rSt T).2
theorem TeR_cg {T T' : Te} (tr : TeR T) (h : tq T T') : TeR T' := by
  obtain ⟨h1, h2, h3⟩ := h
  unfold TeR
  rw [h1, h2, h3]
  exact tr
theorem chn_cg : ∀ (c : Nat) {T T' : Te}, TeR T → tq T T' → chn c T → chn c T'
  | 0, T, T', _, h, k => by
    show ten T' ≤ tepl T'
    rw [h.2.1, h.2.2]; exact k
  | c + 1, T, T', tr, h, k => by
    obtain ⟨k1, k2, k3⟩ := k
    obtain ⟨e1, e2⟩ := rSt_cg tr h
    exact ⟨by rw [h.2.1, h.2.2]; exact k1, e1.trans k2, chn_cg c (rSt_R T tr).1 e2 k3⟩
theorem rSt_0 {T : Te} (h : ¬ tepl T < ten T) : (rSt T).1 = false := by
  have hh : hdO T = 0 := by unfold hdO; rw [if_neg h]
  unfold rSt
  rw [hh, if_neg (by decide), if_neg (by decide), if_neg (by decide)]
theorem pass1 : ∀ (k q n : Nat) {T : Te} {A : Md}, AR T A → mwe A = true → TeR T → MfR A → 0 < k → 0 < q → ten T ≤ tepl T + k → ten T ≤ tepl T + q → SB A (rd1 q n A).2 ∧ MfR (rd1 q n A).2 ∧ mta (rd1 q n A).2 = mta A ∧ mtn (rd1 q n A).2 = mtn A ∧ tele (wpL k T).2 = tele T ∧ ten (wpL k T).2 = ten T ∧ (∀ p, (wpL k T).1 = some p → mwe (rd1 q n A).2 = false ∧ mat' (rd1 q n A).2 = p) ∧ ((wpL k T).1 = none → mwe (rd1 q n A).2 = true ∧ ∃ c, (rd1 q n A).1 = n + c ∧ chn c T)
  | 0, _, _, _, _, _, _, _, _, h, _, _, _ => absurd h (Nat.lt_irrefl 0)
  | _ + 1, 0, _, _, _, _, _, _, _, _, h, _, _ => absurd h (Nat.lt_irrefl 0)
  | k + 1, q + 1, n, T, A, ar, w, tr, mf, hk, hq, h1, h2 => by
    obtain ⟨a, b, _⟩ := stm_R ar w tr.2.2
    obtain ⟨r1, r2, r3, r4, r5⟩ := rSt_R T tr
    obtain ⟨mf2, _⟩ := MfR_stm mf
    have sb := sb_stm A
    have e1 : mta (mStm A) = mta A := a.1.trans (r2.trans ar.1.symm)
    have e2 : mtn (mStm A) = mtn A := a.2.1.trans (r3.trans ar.2.1.symm)
    rw [rd1, wpL, b, a.2.1, a.2.2, r3]
    cases hb : (rSt T).1 with
    | false =>
      rw [hb] at b
      refine ⟨sb, mf2, e1, e2, r2, r3, fun p hp => ?_, fun hp => by cases hp⟩
      cases hp
      exact ⟨b, a.2.2⟩
    | true =>
      rw [hb] at b
      have r5 := r5 hb
      by_cases hp : tepl T < ten T
      · by_cases hl : tepl (rSt T).2 < ten T
        · rw [decide_eq_true hl, if_pos hl]
          have ih := pass1 k q (n + 1) a b r1 mf2 (by omega) (by omega) (by omega) (by omega)
          obtain ⟨i1, i2, i3, i4, i5, i6, i7, i8⟩ := ih
          refine ⟨sb.t i1, i2, i3.trans e1, i4.trans e2, i5.trans r2, i6.trans r3, i7, fun hn => ?_⟩
          obtain ⟨j1, c, j2, j3⟩ := i8 hn
          exact ⟨j1, c + 1, by show (rd1 q (n + 1) (mStm A)).1 = n + (c + 1); omega, hp, hb, j3⟩
        · rw [decide_eq_false hl, if_neg hl]
          refine ⟨sb, mf2, e1, e2, r2, r3, fun p hp => (by cases hp), fun _ => ⟨b, 1, rfl, hp, hb, ?_⟩⟩
          show ten (rSt T).2 ≤ tepl (rSt T).2
          omega
      · rw [rSt_0 hp] at hb
        cases hb
def RES (A N : Md) (Q : Pl) : Prop := PR Q (mno N) ∧ (∀ j, j < 80 → mno N j < 100) ∧ MfR N ∧ mrf N = mrf A ∧ N.1.2.2 = A.1.2.2 ∧ N.2.2 = A.2.2 ∧ mta N = mta A
theorem pass2 : ∀ (c k q st : Nat) {T : Te} {A : Md} {Q : Pl}, AR T A → mwe A = true → TeR T → MfR A → PlOk Q → chn c T → c ≤ k → c < q → SB A (rd2 q (plnj Q) (plnt Q) A).2 ∧ MfR (rd2 q (plnj Q) (plnt Q) A).2 ∧ mta (rd2 q (plnj Q) (plnt Q) A).2 = mta A ∧ tele (tsL k st T Q).2.1 = tele T ∧ (((tsL k st T Q).2.2.2 = false ∧ ∃ b, (tsL k st T Q).1 = -2000 - nI b ∧ (rd2 q (plnj Q) (plnt Q) A).1 = some b) ∨ ((tsL k st T Q).2.2.2 = true ∧ (tsL k st T Q).1 = nI (st + c) ∧ (rd2 q (plnj Q) (plnt Q) A).1 = none ∧ mwe (rd2 q (plnj Q) (plnt Q) A).2 = true ∧ mtn (rd2 q (plnj Q) (plnt Q) A).2 = mtn A ∧ PlOk (tsL k st T Q).2.2.1 ∧ ∀ (A3 : Md) (q3 : Nat), AR T A3 → mwe A3 = true → MfR A3 → PR Q (mno A3) → (∀ j, j < 80 → mno A3 j < 100) → c < q3 → RES A3 (rd3 q3 A3) (tsL k st T Q).2.2.1))
  | 0, k, q, st, T, A, Q, ar, w, tr, mf, ok, ch, hk, hq => by
    obtain ⟨q, rfl⟩ : ∃ q', q = q' + 1 := ⟨q - 1, by omega⟩
    have hn : ¬ tepl T < ten T := by have : ten T ≤ tepl T := ch; omega
    have e1 : tsL k st T Q = (nI st, T, Q, true) := by
      cases k with
      | zero => rfl
      | succ k => rw [tsL, if_neg hn]
    rw [rd2, if_neg (by rw [ar.2.2, ar.2.1]; exact hn), e1]
    refine ⟨⟨rfl, rfl⟩, mf, rfl, rfl, Or.inr ⟨rfl, rfl, rfl, w, rfl, ok, fun A3 q3 a3 w3 mf3 pr3 b3 hq3 => ?_⟩⟩
    obtain ⟨q3, rfl⟩ : ∃ q', q3 = q' + 1 := ⟨q3 - 1, by omega⟩
    rw [rd3, if_neg (by rw [a3.2.2, a3.2.1]; exact hn)]
    exact ⟨pr3, b3, mf3, rfl, rfl, rfl, rfl⟩
  | c + 1, k, q, st, T, A, Q, ar, w, tr, mf, ok, ch, hk, hq => by
    obtain ⟨q, rfl⟩ : ∃ q', q = q' + 1 := ⟨q - 1, by omega⟩
    obtain ⟨k, rfl⟩ : ∃ k', k = k' + 1 := ⟨k - 1, by omega⟩
    obtain ⟨ch1, ch2, ch3⟩ := ch
    obtain ⟨a, b, sf⟩ := stm_R ar w tr.2.2
    have sf := sf ch2
    obtain ⟨r1, r2, r3, r4, r5⟩ := rSt_R T tr
    obtain ⟨mf2, so⟩ := MfR_stm mf
    have sb := sb_stm A
    have e1 : mta (mStm A) = mta A := a.1.trans (r2.trans ar.1.symm)
    have e2 : mtn (mStm A) = mtn A := a.2.1.trans (r3.trans ar.2.1.symm)
    obtain ⟨t1, t2⟩ := tell_R sf ok
    rw [rd2, if_pos (by rw [ar.2.2, ar.2.1]; exact ch1), tsL, if_pos ch1, ch2, Bool.true_and, ← t1]
    cases hb : tellB (rSt T).2 Q with
    | false =>
      refine ⟨sb, mf2, e1, r2, Or.inl ⟨rfl, tepl T, rfl, ?_⟩⟩
      show some (mat' A) = some (tepl T)
      rw [ar.2.2]
    | true =>
      obtain ⟨t3, t4, t5⟩ := t2 hb
      have ok2 := tellP_ok ok (rSt_is ch2)
      have ih := pass2 c k q (st + 1) (T := (rSt T).2) (A := mStm A) (Q := tellP (rSt T).2 Q) a (b.trans ch2) r1 mf2 ok2 ch3 (by omega) (by omega)
      rw [t3, t4] at ih
      obtain ⟨i1, i2, i3, i4, i5⟩ := ih
      refine ⟨sb.t i1, i2, i3.trans e1, i4.trans r2, ?_⟩
      rcases i5 with i5 | ⟨j1, j2, j3, j4, j5, j6, j7⟩
      · exact Or.inl i5
      · refine Or.inr ⟨j1, j2.trans (congrArg nI (by omega)), j3, j4, j5.trans e2, j6, fun A3 q3 a3 w3 mf3 pr3 b3 hq3 => ?_⟩
        obtain ⟨q3, rfl⟩ : ∃ q', q3 = q' + 1 := ⟨q3 - 1, by omega⟩
        obtain ⟨a', b', sf'⟩ := stm_R a3 w3 tr.2.2
        have sf' := sf' ch2
        obtain ⟨mf3', so'⟩ := MfR_stm mf3
        obtain ⟨t1', t2'⟩ := tell_R sf' ok
        obtain ⟨t3', t4', t5'⟩ := t2' hb
        have sb3 := sb_stm A3
        have en := sb_no sb3
        obtain ⟨p1, p2⟩ := t5' (mno A3) pr3 b3
        have ec : mno (mCome (mStm A3)) = cmF (mso (mStm A3)) (mfi (mStm A3)) (mno A3) := by
          show cmF (mso (mStm A3)) (mfi (mStm A3)) (mno (mStm A3)) = _
          rw [en]
        rw [rd3, if_pos (by rw [a3.2.2, a3.2.1]; exact ch1)]
        obtain ⟨u1, u2, u3, u4, u5, u6, u7⟩ := j7 (mCome (mStm A3)) q3 a' (b'.trans ch2) mf3' (by rw [ec]; exact p1) (by rw [ec]; exact p2) (by omega)
        have e1' : mta (mStm A3) = mta A3 := a'.1.trans (r2.trans a3.1.symm)
        refine ⟨u1, u2, u3, ?_, ?_, ?_, u7.trans e1'⟩
        · rw [u4]
          show (mStm A3).1.1 = A3.1.1
          rw [sb3.1]
        · rw [u5]
          show (mStm A3).1.2.2 = A3.1.2.2
          rw [sb3.1]
        · rw [u6]
          exact sb3.2
theorem chn_len : ∀ (c : Nat) {T : Te}, TeR T → chn c T → c + tepl T ≤ ten T ∨ c = 0
  | 0, _, _, _ => Or.inr rfl
  | c + 1, T, tr, h => by
    obtain ⟨h1, h2, h3⟩ := h
    obtain ⟨r1, r2, r3, r4, r5⟩ := rSt_R T tr
    have r5 := r5 h2
    rcases chn_len c r1 h3 with q | q
    · rw [r3] at q; omega
    · omega
theorem sim_floor {W : Wp} {M : Md} (h : Rel W M) : Sim (wFloor W) (mFloor M) := by
  obtain ⟨⟨w1, w2, w3, w4⟩, ⟨pr, hb⟩, h3, ⟨t1, t2⟩, h5, h6, h7⟩ := h
  have tr : TeR (teP (wpT W) 0) := ⟨w3.1, Nat.zero_le _, w3.2⟩
  have ar : AR (teP (wpT W) 0) (mAt M 0 true) := ⟨t1.symm, t2.symm, rfl⟩
  have n80 : ten (wpT W) ≤ 80 := w3.1
  have p1 := pass1 80 81 0 (T := teP (wpT W) 0) (A := mAt M 0 true) ar rfl tr h7 (by decide) (by decide) (by show ten (wpT W) ≤ 0 + 80; omega) (by show ten (wpT W) ≤ 0 + 81; omega)
  unfold wFloor mFloor mRead
  have ew : wpW W = wpL 80 (teP (wpT W) 0) := rfl
  rw [ew]
  generalize hV : wpL 80 (teP (wpT W) 0) = V at p1 ⊢
  generalize hZ : rd1 81 0 (mAt M 0 true) = Z at p1 ⊢
  obtain ⟨b1, b2, b3, b4, b5, b6, b7, b8⟩ := p1
  have b3 : mta Z.2 = mta M := b3
  have b4 : mtn Z.2 = mtn M := b4
  have s1 : Z.2.1 = M.1 := b1.1
  have s2 : Z.2.2.2 = M.2.2 := b1.2
  cases hv : V.1 with
  | some p =>
    obtain ⟨c1, c2⟩ := b7 p hv
    have e : rdF Z = (-1000 - nI p, Z.2) := by unfold rdF; rw [c1, c2]; rfl
    rw [e]
    refine ⟨rfl, ⟨w1, w2, ⟨Nat.zero_le _, fun i hi => absurd hi (Nat.not_lt_zero _)⟩, w4⟩, ?_, ?_, ⟨?_, rfl⟩, ?_, ?_, b2⟩
    · show PR (wpP W) Z.2.1.2.1 ∧ ∀ j, j < 80 → Z.2.1.2.1 j < 100
      rw [s1]; exact ⟨pr, hb⟩
    · show wpI W = Z.2.1.2.2.2 ∧ (wpI W = true → PR (wpK W) Z.2.1.2.2.1) ∧ ∀ j, j < 80 → Z.2.1.2.2.1 j < 100
      rw [s1]; exact h3
    · show tele V.2 = mta Z.2
      rw [b5, b3]; exact t1
    · show rwnu (wpR W) = Z.2.2.2.2.1 ∧ rwn (wpR W) = Z.2.2.2.2.2.1 ∧ rwwy (wpR W) = Z.2.2.2.2.2.2
      rw [s2]; exact h5
    · show wpF W = Z.2.1.1
      rw [s1]; exact h6
  | none =>
    obtain ⟨c1, c, c2, c3⟩ := b8 hv
    have c2 : Z.1 = c := by omega
    have tv : tq (teP (wpT W) 0) (teP V.2 0) := ⟨b5, b6, rfl⟩
    have tr2 := TeR_cg tr tv
    have ch2 := chn_cg c tr tv c3
    have cl : c ≤ 80 := by
      rcases chn_len c tr c3 with q | q
      · have q : c + 0 ≤ ten (wpT W) := q
        omega
      · omega
    have ar2 : AR (teP V.2 0) (mAt Z.2 0 (mwe Z.2)) := ⟨b3.trans (t1.symm.trans b5.symm), b4.trans (t2.symm.trans b6.symm), rfl⟩
    have okd : PlOk (plCp (wpD W) (wpP W)) := plCp_ok w1
    have p2 := pass2 c 80 81 0 (T := teP V.2 0) (A := mAt Z.2 0 (mwe Z.2)) (Q := plCp (wpD W) (wpP W)) ar2 c1 tr2 b2 okd ch2 cl (by omega)
    have ej : plnj (plCp (wpD W) (wpP W)) = mno Z.2 0 := by
      show plnj (wpP W) = Z.2.1.2.1 0
      rw [s1]; exact pr.1.symm
    have et : plnt (plCp (wpD W) (wpP W)) = mno Z.2 1 := by
      show plnt (wpP W) = Z.2.1.2.1 1
      rw [s1]; exact pr.2.1.symm
    rw [ej, et] at p2
    have e : rdF Z = rdG Z.1 (rd2 81 (mno Z.2 0) (mno Z.2 1) (mAt Z.2 0 (mwe Z.2))) := by unfold rdF; rw [c1]; rfl
    rw [e, c2]
    have etw : wTell (swT W V.2) = ((tsL 80 0 (teP V.2 0) (plCp (wpD W) (wpP W))).1, bif (tsL 80 0 (teP V.2 0) (plCp (wpD W) (wpP W))).2.2.2 then swP (swD (swT W (tsL 80 0 (teP V.2 0) (plCp (wpD W) (wpP W))).2.1) (tsL 80 0 (teP V.2 0) (plCp (wpD W) (wpP W))).2.2.1) (plCp (wpP W) (tsL 80 0 (teP V.2 0) (plCp (wpD W) (wpP W))).2.2.1) else swD (swT W (tsL 80 0 (teP V.2 0) (plCp (wpD W) (wpP W))).2.1) (tsL 80 0 (teP V.2 0) (plCp (wpD W) (wpP W))).2.2.1) := rfl
    dsimp only
    rw [etw]
    clear etw
    generalize tsL 80 0 (teP V.2 0) (plCp (wpD W) (wpP W)) = G at p2 ⊢
    generalize hU : rd2 81 (mno Z.2 0) (mno Z.2 1) (mAt Z.2 0 (mwe Z.2)) = U at p2 ⊢
    obtain ⟨d1, d2, d3, d4, d5⟩ := p2
    have s3 : U.2.1 = M.1 := d1.1.trans s1
    have s4 : U.2.2.2 = M.2.2 := d1.2.trans s2
    have d3 : mta U.2 = mta M := d3.trans b3
    have d4 : tele G.2.1 = tele (wpT W) := d4.trans b5
    rcases d5 with ⟨f1, b, f2, f3⟩ | ⟨f1, f2, f3, f4, f5, f6, f7⟩
    · have eg : rdG c U = (-2000 - nI b, U.2) := by unfold rdG; rw [f3]
      rw [eg, f1]
      refine ⟨f2, ⟨w1, w2, ⟨Nat.zero_le _, fun i hi => absurd hi (Nat.not_lt_zero _)⟩, w4⟩, ?_, ?_, ⟨?_, rfl⟩, ?_, ?_, d2⟩
      · show PR (wpP W) U.2.1.2.1 ∧ ∀ j, j < 80 → U.2.1.2.1 j < 100
        rw [s3]; exact ⟨pr, hb⟩
      · show wpI W = U.2.1.2.2.2 ∧ (wpI W = true → PR (wpK W) U.2.1.2.2.1) ∧ ∀ j, j < 80 → U.2.1.2.2.1 j < 100
        rw [s3]; exact h3
      · show tele G.2.1 = mta U.2
        rw [d4, d3]; exact t1
      · show rwnu (wpR W) = U.2.2.2.2.1 ∧ rwn (wpR W) = U.2.2.2.2.2.1 ∧ rwwy (wpR W) = U.2.2.2.2.2.2
        rw [s4]; exact h5
      · show wpF W = U.2.1.1
        rw [s3]; exact h6
    · have eg : rdG c U = (nI c, rd3 81 (mAt U.2 0 (mwe U.2))) := by unfold rdG; rw [f3]
      rw [eg, f1]
      have f5 : mtn U.2 = mtn M := f5.trans b4
      have ar3 : AR (teP V.2 0) (mAt U.2 0 (mwe U.2)) := ⟨d3.trans (t1.symm.trans b5.symm), f5.trans (t2.symm.trans b6.symm), rfl⟩
      have eno : mno (mAt U.2 0 (mwe U.2)) = mno M := by show U.2.1.2.1 = M.1.2.1; rw [s3]
      have res := f7 (mAt U.2 0 (mwe U.2)) 81 ar3 f4 d2 (by rw [eno]; exact PR_cp w1.1 w1.2.1 pr) (by rw [eno]; exact hb) (by omega)
      generalize rd3 81 (mAt U.2 0 (mwe U.2)) = N at res ⊢
      obtain ⟨g1, g2, g3, g4, g5, g6, g7⟩ := res
      have g4 : mrf N = mrf M := by rw [g4]; show U.2.1.1 = M.1.1; rw [s3]
      have g5 : N.1.2.2 = M.1.2.2 := by rw [g5]; show U.2.1.2.2 = M.1.2.2; rw [s3]
      have g6 : N.2.2 = M.2.2 := by rw [g6]; exact s4
      refine ⟨f2.trans (congrArg nI (Nat.zero_add c)), ⟨plCp_ok f6, w2, ⟨Nat.zero_le _, fun i hi => absurd hi (Nat.not_lt_zero _)⟩, w4⟩, ⟨PR_cp f6.1 f6.2.1 g1, g2⟩, ?_, ⟨?_, rfl⟩, ?_, ?_, g3⟩
      · show wpI W = N.1.2.2.2 ∧ (wpI W = true → PR (wpK W) N.1.2.2.1) ∧ ∀ j, j < 80 → N.1.2.2.1 j < 100
        rw [g5]; exact h3
      · show tele G.2.1 = mta N
        rw [d4, g7]
        show tele (wpT W) = mta U.2
        rw [d3]; exact t1
      · show rwnu (wpR W) = N.2.2.2.1 ∧ rwn (wpR W) = N.2.2.2.2.1 ∧ rwwy (wpR W) = N.2.2.2.2.2
        rw [g6]; exact h5
      · show wpF W = mrf N
        rw [g4]; exact h6
